/-! ===== isHopeless, copyToExtend ===== -/
def sp_hop (b k : Int32) (f : Bool) : Int32 := if (b ≠ 0 ∨ k ≠ 5) ∧ f = false then 1 else 0
set_option maxRecDepth 100000 in
set_option maxHeartbeats 4000000 in
theorem ch_isHopeless {G : ax_G} {ad : cs_K → Nat} (hi : cs_inj ad) (d : Nat) (S : cs_S) (h : ax_H) {g : sp_G} (hg : cs_g S g) (hw : sp_wg g) {v t c : Nat} {xs : List sp_X} {q : sp_C} (hc : g.2.2.2[c]? = some q) (hv : v < 312) (hok : sp_ok (cs_vf S v) (cs_vn S v) (cs_vp S v) t c xs) (hgx : sp_g xs) (b : Int32) : AW G mX3_isHopeless (d + 3) 0 0 (fun r h1 => r = .inl (some (.int (sp_hop b (nI q.2.2.2.2) (sp_cond q.2.2.2.2 xs)))) ∧ h1 = cs_O ad S h) 0 [(0, .ref (ad (0, 6))), (1, .ref (ad (1, v))), (2, .int b)] [] (cs_O ad S h) 0 0 := by
  obtain ⟨Q, hQ⟩ : ∃ Q : ax_P, Q = (fun r h1 => r = .inl (some (.int (sp_hop b (nI q.2.2.2.2) (sp_cond q.2.2.2.2 xs)))) ∧ h1 = cs_O ad S h) := ⟨_, rfl⟩
  rw [← hQ]
  have hk : q.2.2.2.2 ≤ 5 := (hw.2.2.2.2 q (List.mem_of_getElem? hc)).2.2.2.2.2
  refine ax_aload_n dX3_isHopeless_0 rfl ?_
  refine ax_get (v := .ref (ad (0, 1))) dX3_isHopeless_1 fkX3_9 (cs_get hi (cs_k0 (by decide))) rfl ?_
  refine ax_aload_n dX3_isHopeless_4 rfl ?_
  refine ax_get (v := .int (nI c)) dX3_isHopeless_5 fkX3_91 (cs_get hi (cs_k1 hv)) (congrArg (fun z => some (Value.int z)) (hok.2.1)) ?_
  refine ax_callV (b := (ad (0, 1))) (av := [.int (nI c)]) (rest := []) (mc' := 0) (ms' := 0) dX3_isHopeless_8 rfl lkX3_118 (cs_get hi (cs_k0 (by decide))) rfl (Nat.le_of_ble_eq_true rfl) (Nat.le_of_ble_eq_true rfl) (Nat.le_refl 0) (Nat.le_refl 0) (cg_conditionOf hi _ S h hg hw hc) (fun E9 h9 q9 => by cases q9.1) (fun v9 h9 q9 => ?_)
  obtain ⟨e9, rfl⟩ := q9
  cases e9
  show AW G mX3_isHopeless (d + 3) 0 0 Q 11 [(0, .ref (ad (0, 6))), (1, .ref (ad (1, v))), (2, .int b)] [.int (nI q.2.2.2.2)] (cs_O ad S h) 0 0
  refine ax_istore_n dX3_isHopeless_11 (by decide) ?_
  refine ax_sub (lv' := [(0, .ref (ad (0, 6))), (1, .ref (ad (1, v))), (2, .int b), (3, .int (nI q.2.2.2.2))]) (fun _ z => z) ?_
  refine ax_iload_n dX3_isHopeless_12 rfl ?_
  refine ax_if_ne (tgt := 21) dX3_isHopeless_13 (by decide) (fun c1 => ?_) (fun c1 => ?_)
  · refine ax_aload_n dX3_isHopeless_21 rfl ?_
    refine ax_iload_n dX3_isHopeless_22 rfl ?_
    refine ax_callV (b := (ad (1, v))) (av := [.int (nI q.2.2.2.2)]) (rest := []) (mc' := 0) (ms' := 0) dX3_isHopeless_23 rfl lkX3_121 (cs_get hi (cs_k1 hv)) rfl (Nat.le_of_ble_eq_true rfl) (Nat.le_of_ble_eq_true rfl) (Nat.le_refl 0) (Nat.le_refl 0) (ch_fits hi _ S h hv hok hgx hk) (fun E9 h9 q9 => by cases q9.1) (fun v9 h9 q9 => ?_)
    obtain ⟨e9, rfl⟩ := q9
    cases e9
    show AW G mX3_isHopeless (d + 3) 0 0 Q 26 [(0, .ref (ad (0, 6))), (1, .ref (ad (1, v))), (2, .int b), (3, .int (nI q.2.2.2.2))] [.int (if sp_cond q.2.2.2.2 xs then 1 else 0)] (cs_O ad S h) 0 0
    refine ax_if_ne (tgt := 33) dX3_isHopeless_26 (by decide) (fun c4 => ?_) (fun c4 => ?_)
    · refine ax_iconst (v := 0) dX3_isHopeless_33 (by decide) ?_
      exact ax_iret (st := []) dX3_isHopeless_34 rfl rfl (by rw [hQ]; exact ⟨by simp_all [sp_hop], rfl⟩)
    · refine ax_iconst (v := 1) dX3_isHopeless_29 (by decide) ?_
      refine ax_goto (tgt := 34) dX3_isHopeless_30 (by decide) ?_
      exact ax_iret (st := []) dX3_isHopeless_34 rfl rfl (by rw [hQ]; exact ⟨by simp_all [sp_hop], rfl⟩)
  · refine ax_iload_n dX3_isHopeless_16 rfl ?_
    refine ax_iconst (v := 5) dX3_isHopeless_17 (by decide) ?_
    refine ax_icmp_eq (tgt := 33) dX3_isHopeless_18 (by decide) (fun c2 => ?_) (fun c2 => ?_)
    · refine ax_iconst (v := 0) dX3_isHopeless_33 (by decide) ?_
      exact ax_iret (st := []) dX3_isHopeless_34 rfl rfl (by rw [hQ]; exact ⟨by simp_all [sp_hop], rfl⟩)
    · refine ax_aload_n dX3_isHopeless_21 rfl ?_
      refine ax_iload_n dX3_isHopeless_22 rfl ?_
      refine ax_callV (b := (ad (1, v))) (av := [.int (nI q.2.2.2.2)]) (rest := []) (mc' := 0) (ms' := 0) dX3_isHopeless_23 rfl lkX3_121 (cs_get hi (cs_k1 hv)) rfl (Nat.le_of_ble_eq_true rfl) (Nat.le_of_ble_eq_true rfl) (Nat.le_refl 0) (Nat.le_refl 0) (ch_fits hi _ S h hv hok hgx hk) (fun E9 h9 q9 => by cases q9.1) (fun v9 h9 q9 => ?_)
      obtain ⟨e9, rfl⟩ := q9
      cases e9
      show AW G mX3_isHopeless (d + 3) 0 0 Q 26 [(0, .ref (ad (0, 6))), (1, .ref (ad (1, v))), (2, .int b), (3, .int (nI q.2.2.2.2))] [.int (if sp_cond q.2.2.2.2 xs then 1 else 0)] (cs_O ad S h) 0 0
      refine ax_if_ne (tgt := 33) dX3_isHopeless_26 (by decide) (fun c3 => ?_) (fun c3 => ?_)
      · refine ax_iconst (v := 0) dX3_isHopeless_33 (by decide) ?_
        exact ax_iret (st := []) dX3_isHopeless_34 rfl rfl (by rw [hQ]; exact ⟨by simp_all [sp_hop], rfl⟩)
      · refine ax_iconst (v := 1) dX3_isHopeless_29 (by decide) ?_
        refine ax_goto (tgt := 34) dX3_isHopeless_30 (by decide) ?_
        exact ax_iret (st := []) dX3_isHopeless_34 rfl rfl (by rw [hQ]; exact ⟨by simp_all [sp_hop], rfl⟩)
set_option maxRecDepth 100000 in
set_option maxHeartbeats 4000000 in
theorem ch_copyToExtend {G : ax_G} {ad : cs_K → Nat} (hi : cs_inj ad) (d : Nat) (S : cs_S) (h : ax_H) (hf : st_fix S) {v t c : Nat} {xs : List sp_X} (hv : v < 312) (hne : v ≠ 300 + (xs.length + 1)) (hok : sp_ok (cs_vf S v) (cs_vn S v) (cs_vp S v) t c xs) (hm : xs.length < 3) (hp : ∀ j, j < xs.length → ∀ y, cs_vp S v j = some y → y < 312 ∧ y ≠ 300 + (xs.length + 1) ∧ y ≠ v) : AW G mX3_copyToExtend (d + 1) 0 0 (fun r h1 => r = .inl (some (.ref (ad (1, 300 + (xs.length + 1))))) ∧ ∃ (N : Nat → Int32) (P : Nat → Option Nat), (∀ j, j < xs.length → N j = cs_vn S v j ∧ P j = cs_vp S v j) ∧ (∀ j, ¬ j < xs.length → N j = cs_vn S (300 + (xs.length + 1)) j ∧ P j = cs_vp S (300 + (xs.length + 1)) j) ∧ h1 = cs_O ad (cs_setV S (300 + (xs.length + 1)) (cs_vf S v) N P) h) 0 [(0, .ref (ad (0, 6))), (1, .ref (ad (1, v)))] [] (cs_O ad S h) 0 0 := by
  obtain ⟨Q, hQ⟩ : ∃ Q : ax_P, Q = (fun r h1 => r = .inl (some (.ref (ad (1, 300 + (xs.length + 1))))) ∧ ∃ (N : Nat → Int32) (P : Nat → Option Nat), (∀ j, j < xs.length → N j = cs_vn S v j ∧ P j = cs_vp S v j) ∧ (∀ j, ¬ j < xs.length → N j = cs_vn S (300 + (xs.length + 1)) j ∧ P j = cs_vp S (300 + (xs.length + 1)) j) ∧ h1 = cs_O ad (cs_setV S (300 + (xs.length + 1)) (cs_vf S v) N P) h) := ⟨_, rfl⟩
  rw [← hQ]
  have hv2 : 300 + (xs.length + 1) < 312 := by omega
  refine ax_aload_n dX3_copyToExtend_0 rfl ?_
  refine ax_get (v := .int (nI xs.length)) dX3_copyToExtend_1 fkX3_94 (cs_get hi (cs_k1 hv)) (congrArg (fun z => some (Value.int z)) (hok.2.2.1)) ?_
  refine ax_iconst (v := 1) dX3_copyToExtend_4 (by decide) ?_
  refine ax_iadd dX3_copyToExtend_5 ?_
  refine ax_istore_n dX3_copyToExtend_6 (by decide) ?_
  refine ax_sub (lv' := [(0, .ref (ad (0, 6))), (1, .ref (ad (1, v))), (2, .int ((nI xs.length) + 1))]) (fun _ z => z) ?_
  refine ax_iload_n dX3_copyToExtend_7 rfl ?_
  refine ax_iconst (v := 1) dX3_copyToExtend_8 (by decide) ?_
  refine ax_icmp_lt (tgt := 30) dX3_copyToExtend_9 (by decide) (fun z => absurd z (il_nlt (xs.length + 1) 1 (by omega) (nI_1 _))) (fun _ => ?_)
  refine ax_iload_n dX3_copyToExtend_12 rfl ?_
  refine ax_aload_n dX3_copyToExtend_13 rfl ?_
  refine ax_get (v := .ref (ad (0, 11))) dX3_copyToExtend_14 fkX3_32 (cs_get hi (cs_k0 (by decide))) rfl ?_
  refine ax_alen (n := 4) dX3_copyToExtend_17 (cs_get hi (cs_k0 (by decide))) (by decide) ?_
  refine ax_icmp_ge (tgt := 30) dX3_copyToExtend_18 (by decide) (fun z => absurd z (il_nle 4 (xs.length + 1) (by omega) rfl (nI_1 _))) (fun _ => ?_)
  refine ax_aload_n dX3_copyToExtend_21 rfl ?_
  refine ax_get (v := .ref (ad (0, 11))) dX3_copyToExtend_22 fkX3_32 (cs_get hi (cs_k0 (by decide))) rfl ?_
  refine ax_iload_n dX3_copyToExtend_25 rfl ?_
  refine ax_caald dX3_copyToExtend_26 (cs_get hi (cs_k0 (by decide))) (pk_in (xs.length + 1) 4 (by omega) (nI_1 _)) (cs_rfs (w := 300 + (xs.length + 1)) (by rw [nI_1, nI_clamp (by omega)]; exact hf.2.1 _ (by omega))) ?_
  refine ax_ifnonnull (tgt := 32) dX3_copyToExtend_27 (by decide) ?_
  refine ax_aload_n dX3_copyToExtend_32 rfl ?_
  refine ax_get (v := .ref (ad (0, 11))) dX3_copyToExtend_33 fkX3_32 (cs_get hi (cs_k0 (by decide))) rfl ?_
  refine ax_iload_n dX3_copyToExtend_36 rfl ?_
  refine ax_caald dX3_copyToExtend_37 (cs_get hi (cs_k0 (by decide))) (pk_in (xs.length + 1) 4 (by omega) (nI_1 _)) (cs_rfs (w := 300 + (xs.length + 1)) (by rw [nI_1, nI_clamp (by omega)]; exact hf.2.1 _ (by omega))) ?_
  refine ax_aload_n dX3_copyToExtend_38 rfl ?_
  refine ax_callV (b := (ad (1, 300 + (xs.length + 1)))) (av := [.ref (ad (1, v))]) (rest := []) (mc' := 0) (ms' := 0) dX3_copyToExtend_39 rfl lkX3_145 (cs_get hi (cs_k1 hv2)) rfl (Nat.le_of_ble_eq_true rfl) (Nat.le_of_ble_eq_true rfl) (Nat.le_refl 0) (Nat.le_refl 0) (cv_copy hi _ S h hv2 hv (by omega) (Nat.le_of_lt hm) hok.2.2.1 (sp_nar hok).1 (sp_nar hok).2 hp) (fun E9 h9 q9 => by cases q9.1) (fun v9 h9 q9 => ?_)
  obtain ⟨e9, N, P, n1, n2, rfl⟩ := q9
  cases e9
  show AW G mX3_copyToExtend (d + 1) 0 0 Q 42 [(0, .ref (ad (0, 6))), (1, .ref (ad (1, v))), (2, .int ((nI xs.length) + 1))] [] (cs_O ad (cs_setV S (300 + (xs.length + 1)) (cs_vf S v) N P) h) 0 0
  refine ax_aload_n dX3_copyToExtend_42 rfl ?_
  refine ax_get (v := .ref (ad (0, 11))) dX3_copyToExtend_43 fkX3_32 (cs_get hi (cs_k0 (by decide))) rfl ?_
  refine ax_iload_n dX3_copyToExtend_46 rfl ?_
  refine ax_caald dX3_copyToExtend_47 (cs_get hi (cs_k0 (by decide))) (pk_in (xs.length + 1) 4 (by omega) (nI_1 _)) (cs_rfs (w := 300 + (xs.length + 1)) (by rw [nI_1, nI_clamp (by omega)]; exact hf.2.1 _ (by omega))) ?_
  exact ax_aret (st := []) dX3_copyToExtend_48 rfl (Or.inl ⟨_, rfl⟩) (Or.inr ⟨_, rfl⟩) (by rw [hQ]; exact ⟨rfl, N, P, n1, n2, rfl⟩)
