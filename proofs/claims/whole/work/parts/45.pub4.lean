/-! ===== reduce, digest ===== -/
section PUB4
variable {G : ax_G} {ad : cs_K → Nat}

set_option maxRecDepth 100000 in
set_option maxHeartbeats 4000000 in
theorem fv_turn (hi : cs_inj ad) (d : Nat) (S : cs_S) (h : ax_H) {p j w t : Nat} {Rs : List Nat} {e : sp_E} (hr : st_rd Rs S) (hj : Rs[j]? = some w) (hp5 : p ≤ 5) (hw3 : w < 300) (hok : sp_ok (cs_vf S w) (cs_vn S w) (cs_vp S w) t e.2.1 e.2.2) (hgx : sp_g e.2.2) {Q : ax_P} (hq : sp_cond p e.2.2 = false → Q (.inl (some (.ref (ad (1, w))))) (cs_O ad S h)) (kk : sp_cond p e.2.2 = true → AW G mX2_firstUnfit (d + 2) 0 0 Q 2 [(0, .ref (ad (0, 17))), (1, .int (nI p)), (2, .int (nI (j + 1)))] [] (cs_O ad S h) 0 0) : AW G mX2_firstUnfit (d + 2) 0 0 Q 2 [(0, .ref (ad (0, 17))), (1, .int (nI p)), (2, .int (nI j))] [] (cs_O ad S h) 0 0 := by
  have hjl := (List.getElem?_eq_some_iff.mp hj).1
  have hr2 := hr.2.1
  cases hc : sp_cond p e.2.2 with
  | false =>
    have hq := hq hc
    refine ax_iload_n dX2_firstUnfit_2 rfl ?_
    refine ax_aload_n dX2_firstUnfit_3 rfl ?_
    refine ax_get (v := .int (nI Rs.length)) dX2_firstUnfit_4 fkX2_17 (cs_get hi (cs_k0 (by decide))) (congrArg (fun z => some (Value.int z)) (hr.1)) ?_
    refine ax_icmp_ge (tgt := 36) dX2_firstUnfit_7 (by decide) (fun z => absurd z (il_nle Rs.length j hjl)) (fun _ => ?_)
    refine ax_aload_n dX2_firstUnfit_10 rfl ?_
    refine ax_iload_n dX2_firstUnfit_11 rfl ?_
    refine ax_callV (b := (ad (0, 17))) (av := [.int (nI j)]) (rest := []) (mc' := 0) (ms' := 0) dX2_firstUnfit_12 rfl lkX2_21 (cs_get hi (cs_k0 (by decide))) rfl (Nat.le_of_ble_eq_true rfl) (Nat.le_of_ble_eq_true rfl) (by decide) (by decide) (ch_at hi _ S h hr hj) (fun E9 h9 q9 => by cases q9.1) (fun v9 h9 q9 => ?_)
    obtain ⟨e9, rfl⟩ := q9
    cases e9
    show AW G mX2_firstUnfit (d + 2) 0 0 _ 15 [(0, .ref (ad (0, 17))), (1, .int (nI p)), (2, .int (nI j))] [.ref (ad (1, w))] (cs_O ad S h) 0 0
    refine ax_astore_n dX2_firstUnfit_15 (by decide) ?_
    refine ax_sub (lv' := [(0, .ref (ad (0, 17))), (1, .int (nI p)), (2, .int (nI j)), (3, .ref (ad (1, w)))]) (fun _ z => z) ?_
    refine ax_aload_n dX2_firstUnfit_16 rfl ?_
    refine ax_ifnull dX2_firstUnfit_17 ?_
    refine ax_aload_n dX2_firstUnfit_20 rfl ?_
    refine ax_iload_n dX2_firstUnfit_21 rfl ?_
    refine ax_callV (b := (ad (1, w))) (av := [.int (nI p)]) (rest := []) (mc' := 0) (ms' := 0) dX2_firstUnfit_22 rfl lkX2_25 (cs_get hi (cs_k1 (by omega))) rfl (Nat.le_of_ble_eq_true rfl) (Nat.le_of_ble_eq_true rfl) (by decide) (by decide) (ch_fits hi _ S h (v := w) (by omega) hok hgx hp5) (fun E9 h9 q9 => by cases q9.1) (fun v9 h9 q9 => ?_)
    obtain ⟨e9, rfl⟩ := q9
    cases e9
    show AW G mX2_firstUnfit (d + 2) 0 0 _ 25 [(0, .ref (ad (0, 17))), (1, .int (nI p)), (2, .int (nI j)), (3, .ref (ad (1, w)))] [.int (if sp_cond p e.2.2 then 1 else 0)] (cs_O ad S h) 0 0
    refine ax_if_ne (tgt := 30) dX2_firstUnfit_25 (by decide) (fun z => absurd (by rw [hc]; decide) z) (fun _ => ?_)
    refine ax_aload_n dX2_firstUnfit_28 rfl ?_
    exact ax_aret (st := []) dX2_firstUnfit_29 rfl (Or.inl ⟨_, rfl⟩) (Or.inr ⟨_, rfl⟩) hq
  | true =>
    have kk := kk hc
    refine ax_iload_n dX2_firstUnfit_2 rfl ?_
    refine ax_aload_n dX2_firstUnfit_3 rfl ?_
    refine ax_get (v := .int (nI Rs.length)) dX2_firstUnfit_4 fkX2_17 (cs_get hi (cs_k0 (by decide))) (congrArg (fun z => some (Value.int z)) (hr.1)) ?_
    refine ax_icmp_ge (tgt := 36) dX2_firstUnfit_7 (by decide) (fun z => absurd z (il_nle Rs.length j hjl)) (fun _ => ?_)
    refine ax_aload_n dX2_firstUnfit_10 rfl ?_
    refine ax_iload_n dX2_firstUnfit_11 rfl ?_
    refine ax_callV (b := (ad (0, 17))) (av := [.int (nI j)]) (rest := []) (mc' := 0) (ms' := 0) dX2_firstUnfit_12 rfl lkX2_21 (cs_get hi (cs_k0 (by decide))) rfl (Nat.le_of_ble_eq_true rfl) (Nat.le_of_ble_eq_true rfl) (by decide) (by decide) (ch_at hi _ S h hr hj) (fun E9 h9 q9 => by cases q9.1) (fun v9 h9 q9 => ?_)
    obtain ⟨e9, rfl⟩ := q9
    cases e9
    show AW G mX2_firstUnfit (d + 2) 0 0 _ 15 [(0, .ref (ad (0, 17))), (1, .int (nI p)), (2, .int (nI j))] [.ref (ad (1, w))] (cs_O ad S h) 0 0
    refine ax_astore_n dX2_firstUnfit_15 (by decide) ?_
    refine ax_sub (lv' := [(0, .ref (ad (0, 17))), (1, .int (nI p)), (2, .int (nI j)), (3, .ref (ad (1, w)))]) (fun _ z => z) ?_
    refine ax_aload_n dX2_firstUnfit_16 rfl ?_
    refine ax_ifnull dX2_firstUnfit_17 ?_
    refine ax_aload_n dX2_firstUnfit_20 rfl ?_
    refine ax_iload_n dX2_firstUnfit_21 rfl ?_
    refine ax_callV (b := (ad (1, w))) (av := [.int (nI p)]) (rest := []) (mc' := 0) (ms' := 0) dX2_firstUnfit_22 rfl lkX2_25 (cs_get hi (cs_k1 (by omega))) rfl (Nat.le_of_ble_eq_true rfl) (Nat.le_of_ble_eq_true rfl) (by decide) (by decide) (ch_fits hi _ S h (v := w) (by omega) hok hgx hp5) (fun E9 h9 q9 => by cases q9.1) (fun v9 h9 q9 => ?_)
    obtain ⟨e9, rfl⟩ := q9
    cases e9
    show AW G mX2_firstUnfit (d + 2) 0 0 _ 25 [(0, .ref (ad (0, 17))), (1, .int (nI p)), (2, .int (nI j)), (3, .ref (ad (1, w)))] [.int (if sp_cond p e.2.2 then 1 else 0)] (cs_O ad S h) 0 0
    refine ax_if_ne (tgt := 30) dX2_firstUnfit_25 (by decide) (fun _ => ?_) (fun z => absurd z (by rw [hc]; decide))
    refine ax_iinc (v := (nI (j + 1))) dX2_firstUnfit_30 rfl (nI_1 j) (by decide) ?_
    refine ax_sub (lv' := [(0, .ref (ad (0, 17))), (1, .int (nI p)), (2, .int (nI (j + 1))), (3, .ref (ad (1, w)))]) (fun _ z => z) ?_
    refine ax_goto (tgt := 2) dX2_firstUnfit_33 (by decide) ?_
    exact ax_sub (fun q hq => List.mem_append_left [(3, Value.ref (ad (1, w)))] hq) kk
theorem fv_end (hi : cs_inj ad) (d : Nat) (S : cs_S) (h : ax_H) {p : Nat} {Rs : List Nat} (hr : st_rd Rs S) {Q : ax_P} (hq : Q (.inl (some .null)) (cs_O ad S h)) : AW G mX2_firstUnfit (d + 2) 0 0 Q 2 [(0, .ref (ad (0, 17))), (1, .int (nI p)), (2, .int (nI Rs.length))] [] (cs_O ad S h) 0 0 := by
  have hr2 := hr.2.1
  refine ax_iload_n dX2_firstUnfit_2 rfl ?_
  refine ax_aload_n dX2_firstUnfit_3 rfl ?_
  refine ax_get (v := .int (nI Rs.length)) dX2_firstUnfit_4 fkX2_17 (cs_get hi (cs_k0 (by decide))) (congrArg (fun z => some (Value.int z)) (hr.1)) ?_
  refine ax_icmp_ge (tgt := 36) dX2_firstUnfit_7 (by decide) (fun _ => ?_) (fun z => absurd (il_le Rs.length Rs.length (Nat.le_refl _)) z)
  refine ax_null dX2_firstUnfit_36 ?_
  exact ax_aret (st := []) dX2_firstUnfit_37 rfl (Or.inl ⟨_, rfl⟩) (Or.inl rfl) hq
theorem ch_unfit (hi : cs_inj ad) (d : Nat) (S : cs_S) (h : ax_H) {g : sp_G} {P : List sp_E × Nat} (hf : st_fin g P S) {p : Nat} {Rs : List Nat} (hr : st_rd Rs S) (hR : ∀ w ∈ Rs, w < P.1.length) (hp5 : p ≤ 5) {Q : ax_P} (hq : Q (.inl (some (match Rs.find? (po_unfit P.1 p) with | none => .null | some w => .ref (ad (1, w))))) (cs_O ad S h)) : AW G mX2_firstUnfit (d + 2) 0 0 Q 0 [(0, .ref (ad (0, 17))), (1, .int (nI p))] [] (cs_O ad S h) 0 0 := by
  have hT := hf.2.2.2.1.1
  have loop : ∀ (i j : Nat), j + i = Rs.length → (∀ w ∈ Rs.take j, po_unfit P.1 p w = false) → AW G mX2_firstUnfit (d + 2) 0 0 Q 2 [(0, .ref (ad (0, 17))), (1, .int (nI p)), (2, .int (nI j))] [] (cs_O ad S h) 0 0 := by
    intro i
    induction i with
    | zero =>
      intro j hj hall
      have hj : j = Rs.length := by omega
      subst hj
      refine fv_end hi d S h hr ?_
      rw [List.take_length] at hall
      rw [List.find?_eq_none.mpr (fun x hx => by rw [hall x hx]; decide)] at hq
      exact hq
    | succ i ih =>
      intro j hj hall
      have hl : j < Rs.length := by omega
      have hw : Rs[j]? = some Rs[j] := List.getElem?_eq_getElem hl
      have hm := hR _ (List.mem_of_getElem? hw)
      have he : P.1[Rs[j]]? = some P.1[Rs[j]] := List.getElem?_eq_getElem hm
      have hxo : sp_xo P.1 Rs[j] = (P.1[Rs[j]]).2.2 := by unfold sp_xo; rw [he]
      have hun : po_unfit P.1 p Rs[j] = !sp_cond p (P.1[Rs[j]]).2.2 := by unfold po_unfit; rw [hxo]
      refine fv_turn hi d S h hr hw hp5 (by omega) (hf.2.2.1.2 _ _ he).1 (sp_wT_g hf.2.2.2.1 he) (fun hc => ?_) (fun hc => ?_)
      · have hfi : Rs.find? (po_unfit P.1 p) = some Rs[j] := by
          have hsp : Rs = Rs.take j ++ Rs[j] :: Rs.drop (j + 1) := by
            rw [← List.drop_eq_getElem_cons hl, List.take_append_drop]
          exact List.find?_eq_some_iff_append.mpr ⟨by rw [hun, hc]; rfl, Rs.take j, Rs.drop (j + 1), hsp, fun a ha => by rw [hall a ha]; rfl⟩
        rw [hfi] at hq
        exact hq
      · refine ih (j + 1) (by omega) (fun w hw => ?_)
        rw [List.take_succ_eq_append_getElem hl] at hw
        rcases List.mem_append.mp hw with z | z
        · exact hall w z
        · rw [List.mem_singleton.mp z, hun, hc]; rfl
  refine ax_iconst (v := 0) dX2_firstUnfit_0 (by decide) ?_
  refine ax_istore_n dX2_firstUnfit_1 (by decide) ?_
  refine ax_sub (lv' := [(0, .ref (ad (0, 17))), (1, .int (nI p)), (2, .int 0)]) (fun _ z => z) ?_
  exact loop Rs.length 0 (by omega) (fun w hw => absurd hw (by simp))
set_option maxRecDepth 100000 in
set_option maxHeartbeats 4000000 in
theorem rd_out (hi : cs_inj ad) (d : Nat) (S : cs_S) (h : ax_H) {p v s : Nat} {Q : ax_P} (hv : v < 312) (hq : Q (.inl (some (.int (nI s)))) (cs_O ad (cs_setL S (some v)) h)) : AW G mX6_reduce (d + 16) 1 6 Q 66 [(0, .ref (ad (0, 0))), (1, .int (nI p)), (2, .ref (ad (1, v))), (3, .int (nI s))] [] (cs_O ad S h) 0 0 := by
  refine ax_aload_n dX6_reduce_66 rfl ?_
  refine ax_aload_n dX6_reduce_67 rfl ?_
  refine ax_put dX6_reduce_68 fpX6_46 (cs_get hi (cs_k0 (by decide))) rfl rfl (Nat.le_of_ble_eq_true rfl) ?_
  refine ax_eqh (cs_pl hi (o := some v)) ?_
  refine ax_iload_n dX6_reduce_71 rfl ?_
  exact ax_iret (st := []) dX6_reduce_72 rfl rfl hq
theorem rd_full (hi : cs_inj ad) (d : Nat) (S : cs_S) (h : ax_H) {p v : Nat} {Q : ax_P} (hq : AW G mX6_reduce (d + 16) 1 6 Q 66 [(0, .ref (ad (0, 0))), (1, .int (nI p)), (2, .ref (ad (1, v))), (3, .int (nI 300))] [] (cs_O ad S h) 0 0) : AW G mX6_reduce (d + 16) 1 6 Q 12 [(0, .ref (ad (0, 0))), (1, .int (nI p)), (2, .ref (ad (1, v))), (3, .int (nI 300))] [] (cs_O ad S h) 0 0 := by
  refine ax_iload_n dX6_reduce_12 rfl ?_
  refine ax_sipush (v := 300) dX6_reduce_13 (by decide) ?_
  refine ax_icmp_ge (tgt := 66) dX6_reduce_16 (by decide) (fun _ => ?_) (fun z => absurd (by decide) z)
  exact hq
theorem rd_fit (hi : cs_inj ad) (d : Nat) (S : cs_S) (h : ax_H) {p v s t : Nat} {e : sp_E} (hs : s < 300) (hp5 : p ≤ 5) (hv3 : v < 300) (hok : sp_ok (cs_vf S v) (cs_vn S v) (cs_vp S v) t e.2.1 e.2.2) (hgx : sp_g e.2.2) (hc : sp_cond p e.2.2 = true) {Q : ax_P} (hq : AW G mX6_reduce (d + 16) 1 6 Q 66 [(0, .ref (ad (0, 0))), (1, .int (nI p)), (2, .ref (ad (1, v))), (3, .int (nI s))] [] (cs_O ad S h) 0 0) : AW G mX6_reduce (d + 16) 1 6 Q 12 [(0, .ref (ad (0, 0))), (1, .int (nI p)), (2, .ref (ad (1, v))), (3, .int (nI s))] [] (cs_O ad S h) 0 0 := by
  refine ax_iload_n dX6_reduce_12 rfl ?_
  refine ax_sipush (v := 300) dX6_reduce_13 (by decide) ?_
  refine ax_icmp_ge (tgt := 66) dX6_reduce_16 (by decide) (fun z => absurd z (il_nle 300 s hs)) (fun _ => ?_)
  refine ax_aload_n dX6_reduce_19 rfl ?_
  refine ax_iload_n dX6_reduce_20 rfl ?_
  refine ax_callV (b := (ad (1, v))) (av := [.int (nI p)]) (rest := []) (mc' := 0) (ms' := 0) dX6_reduce_21 rfl lkX6_119 (cs_get hi (cs_k1 (by omega))) rfl (Nat.le_of_ble_eq_true rfl) (Nat.le_of_ble_eq_true rfl) (by decide) (by decide) (ch_fits hi _ S h (v := v) (by omega) hok hgx hp5) (fun E9 h9 q9 => by cases q9.1) (fun v9 h9 q9 => ?_)
  obtain ⟨e9, rfl⟩ := q9
  cases e9
  show AW G mX6_reduce (d + 16) 1 6 _ 24 [(0, .ref (ad (0, 0))), (1, .int (nI p)), (2, .ref (ad (1, v))), (3, .int (nI s))] [.int (if sp_cond p e.2.2 then 1 else 0)] (cs_O ad S h) 0 0
  refine ax_if_ne (tgt := 66) dX6_reduce_24 (by decide) (fun _ => ?_) (fun z => absurd z (by rw [hc]; decide))
  exact hq
theorem rd_nil (hi : cs_inj ad) {g : sp_G} (hg : sp_wg g) {P : List sp_E × Nat} (hty : sp_ty g P.1) (d : Nat) (S : cs_S) (h : ax_H) (hf : st_fin g P S) {p v s : Nat} {e : sp_E} (he : P.1[v]? = some e) (hs : s < 300) (hp5 : p ≤ 5) (hv3 : v < 300) (hok : sp_ok (cs_vf S v) (cs_vn S v) (cs_vp S v) e.1 e.2.1 e.2.2) (hgx : sp_g e.2.2) (hc : sp_cond p e.2.2 = false) (hfi : (sp_red P.1 v).find? (po_unfit P.1 p) = none) {Q : ax_P} (hq : ∀ S1, st_rs S S1 → AW G mX6_reduce (d + 16) 1 6 Q 66 [(0, .ref (ad (0, 0))), (1, .int (nI p)), (2, .ref (ad (1, v))), (3, .int (nI s))] [] (cs_O ad S1 h) 0 0) : AW G mX6_reduce (d + 16) 1 6 Q 12 [(0, .ref (ad (0, 0))), (1, .int (nI p)), (2, .ref (ad (1, v))), (3, .int (nI s))] [] (cs_O ad S h) 0 0 := by
  refine ax_iload_n dX6_reduce_12 rfl ?_
  refine ax_sipush (v := 300) dX6_reduce_13 (by decide) ?_
  refine ax_icmp_ge (tgt := 66) dX6_reduce_16 (by decide) (fun z => absurd z (il_nle 300 s hs)) (fun _ => ?_)
  refine ax_aload_n dX6_reduce_19 rfl ?_
  refine ax_iload_n dX6_reduce_20 rfl ?_
  refine ax_callV (b := (ad (1, v))) (av := [.int (nI p)]) (rest := []) (mc' := 0) (ms' := 0) dX6_reduce_21 rfl lkX6_119 (cs_get hi (cs_k1 (by omega))) rfl (Nat.le_of_ble_eq_true rfl) (Nat.le_of_ble_eq_true rfl) (by decide) (by decide) (ch_fits hi _ S h (v := v) (by omega) hok hgx hp5) (fun E9 h9 q9 => by cases q9.1) (fun v9 h9 q9 => ?_)
  obtain ⟨e9, rfl⟩ := q9
  cases e9
  show AW G mX6_reduce (d + 16) 1 6 _ 24 [(0, .ref (ad (0, 0))), (1, .int (nI p)), (2, .ref (ad (1, v))), (3, .int (nI s))] [.int (if sp_cond p e.2.2 then 1 else 0)] (cs_O ad S h) 0 0
  refine ax_if_ne (tgt := 66) dX6_reduce_24 (by decide) (fun z => absurd (by rw [hc]; decide) z) (fun _ => ?_)
  refine ax_aload_n dX6_reduce_27 rfl ?_
  refine ax_get (v := .ref (ad (0, 17))) dX6_reduce_28 fkX6_42 (cs_get hi (cs_k0 (by decide))) rfl ?_
  refine ax_aload_n dX6_reduce_31 rfl ?_
  refine ax_aload_n dX6_reduce_32 rfl ?_
  refine ax_get (v := .ref (ad (0, 6))) dX6_reduce_33 fkX6_21 (cs_get hi (cs_k0 (by decide))) rfl ?_
  refine ax_callV (b := (ad (0, 17))) (av := [.ref (ad (1, v)), .ref (ad (0, 6))]) (rest := []) (mc' := 0) (ms' := 0) dX6_reduce_36 rfl lkX6_193 (cs_get hi (cs_k0 (by decide))) rfl (Nat.le_of_ble_eq_true rfl) (Nat.le_of_ble_eq_true rfl) (by decide) (by decide) (ch_collect hi hg hty _ S h hf he (Q := fun r h1 => r = .inl none ∧ ∃ S', h1 = cs_O ad S' h ∧ st_rs S S' ∧ st_rd (sp_red P.1 v) S') (fun S' a b => ⟨rfl, S', rfl, a, b⟩)) (fun E9 h9 q9 => by cases q9.1) (fun v9 h9 q9 => ?_)
  obtain ⟨e9, S1, rfl, o1, o2⟩ := q9
  cases e9
  show AW G mX6_reduce (d + 16) 1 6 _ 39 [(0, .ref (ad (0, 0))), (1, .int (nI p)), (2, .ref (ad (1, v))), (3, .int (nI s))] [] (cs_O ad S1 h) 0 0
  refine ax_aload_n dX6_reduce_39 rfl ?_
  refine ax_get (v := .ref (ad (0, 17))) dX6_reduce_40 fkX6_42 (cs_get hi (cs_k0 (by decide))) rfl ?_
  refine ax_iload_n dX6_reduce_43 rfl ?_
  refine ax_callV (b := (ad (0, 17))) (av := [.int (nI p)]) (rest := []) (mc' := 0) (ms' := 0) dX6_reduce_44 rfl lkX6_202 (cs_get hi (cs_k0 (by decide))) rfl (Nat.le_of_ble_eq_true rfl) (Nat.le_of_ble_eq_true rfl) (by decide) (by decide) (ch_unfit hi _ S1 h (st_fin_rs o1 hf) o2 (fun w hw => ((sp_red_IA hf he).2 w hw).1) hp5 (Q := fun r h1 => r = .inl (some (match (sp_red P.1 v).find? (po_unfit P.1 p) with | none => .null | some w => .ref (ad (1, w)))) ∧ h1 = cs_O ad S1 h) ⟨rfl, rfl⟩) (fun E9 h9 q9 => by cases q9.1) (fun v9 h9 q9 => ?_)
  obtain ⟨e9, rfl⟩ := q9
  rw [hfi] at e9
  cases e9
  show AW G mX6_reduce (d + 16) 1 6 _ 47 [(0, .ref (ad (0, 0))), (1, .int (nI p)), (2, .ref (ad (1, v))), (3, .int (nI s))] [.null] (cs_O ad S1 h) 0 0
  refine ax_astoreN dX6_reduce_47 (by decide) ?_
  refine ax_sub (lv' := [(0, .ref (ad (0, 0))), (1, .int (nI p)), (2, .ref (ad (1, v))), (3, .int (nI s)), (4, .null)]) (fun _ z => z) ?_
  refine ax_aloadN dX6_reduce_49 rfl ?_
  refine ax_ifnonnullN dX6_reduce_51 ?_
  refine ax_goto (tgt := 66) dX6_reduce_54 (by decide) ?_
  exact ax_sub (fun q hq => List.mem_append_left [(4, Value.null)] hq) (hq S1 o1)
theorem rd_next (hi : cs_inj ad) {g : sp_G} (hg : sp_wg g) {P : List sp_E × Nat} (hty : sp_ty g P.1) (d : Nat) (S : cs_S) (h : ax_H) (hf : st_fin g P S) {p v s w : Nat} {e : sp_E} (he : P.1[v]? = some e) (hs : s < 300) (hp5 : p ≤ 5) (hv3 : v < 300) (hok : sp_ok (cs_vf S v) (cs_vn S v) (cs_vp S v) e.1 e.2.1 e.2.2) (hgx : sp_g e.2.2) (hc : sp_cond p e.2.2 = false) (hfi : (sp_red P.1 v).find? (po_unfit P.1 p) = some w) {Q : ax_P} (kk : ∀ S1, st_rs S S1 → AW G mX6_reduce (d + 16) 1 6 Q 12 [(0, .ref (ad (0, 0))), (1, .int (nI p)), (2, .ref (ad (1, w))), (3, .int (nI (s + 1)))] [] (cs_O ad S1 h) 0 0) : AW G mX6_reduce (d + 16) 1 6 Q 12 [(0, .ref (ad (0, 0))), (1, .int (nI p)), (2, .ref (ad (1, v))), (3, .int (nI s))] [] (cs_O ad S h) 0 0 := by
  refine ax_iload_n dX6_reduce_12 rfl ?_
  refine ax_sipush (v := 300) dX6_reduce_13 (by decide) ?_
  refine ax_icmp_ge (tgt := 66) dX6_reduce_16 (by decide) (fun z => absurd z (il_nle 300 s hs)) (fun _ => ?_)
  refine ax_aload_n dX6_reduce_19 rfl ?_
  refine ax_iload_n dX6_reduce_20 rfl ?_
  refine ax_callV (b := (ad (1, v))) (av := [.int (nI p)]) (rest := []) (mc' := 0) (ms' := 0) dX6_reduce_21 rfl lkX6_119 (cs_get hi (cs_k1 (by omega))) rfl (Nat.le_of_ble_eq_true rfl) (Nat.le_of_ble_eq_true rfl) (by decide) (by decide) (ch_fits hi _ S h (v := v) (by omega) hok hgx hp5) (fun E9 h9 q9 => by cases q9.1) (fun v9 h9 q9 => ?_)
  obtain ⟨e9, rfl⟩ := q9
  cases e9
  show AW G mX6_reduce (d + 16) 1 6 _ 24 [(0, .ref (ad (0, 0))), (1, .int (nI p)), (2, .ref (ad (1, v))), (3, .int (nI s))] [.int (if sp_cond p e.2.2 then 1 else 0)] (cs_O ad S h) 0 0
  refine ax_if_ne (tgt := 66) dX6_reduce_24 (by decide) (fun z => absurd (by rw [hc]; decide) z) (fun _ => ?_)
  refine ax_aload_n dX6_reduce_27 rfl ?_
  refine ax_get (v := .ref (ad (0, 17))) dX6_reduce_28 fkX6_42 (cs_get hi (cs_k0 (by decide))) rfl ?_
  refine ax_aload_n dX6_reduce_31 rfl ?_
  refine ax_aload_n dX6_reduce_32 rfl ?_
  refine ax_get (v := .ref (ad (0, 6))) dX6_reduce_33 fkX6_21 (cs_get hi (cs_k0 (by decide))) rfl ?_
  refine ax_callV (b := (ad (0, 17))) (av := [.ref (ad (1, v)), .ref (ad (0, 6))]) (rest := []) (mc' := 0) (ms' := 0) dX6_reduce_36 rfl lkX6_193 (cs_get hi (cs_k0 (by decide))) rfl (Nat.le_of_ble_eq_true rfl) (Nat.le_of_ble_eq_true rfl) (by decide) (by decide) (ch_collect hi hg hty _ S h hf he (Q := fun r h1 => r = .inl none ∧ ∃ S', h1 = cs_O ad S' h ∧ st_rs S S' ∧ st_rd (sp_red P.1 v) S') (fun S' a b => ⟨rfl, S', rfl, a, b⟩)) (fun E9 h9 q9 => by cases q9.1) (fun v9 h9 q9 => ?_)
  obtain ⟨e9, S1, rfl, o1, o2⟩ := q9
  cases e9
  show AW G mX6_reduce (d + 16) 1 6 _ 39 [(0, .ref (ad (0, 0))), (1, .int (nI p)), (2, .ref (ad (1, v))), (3, .int (nI s))] [] (cs_O ad S1 h) 0 0
  refine ax_aload_n dX6_reduce_39 rfl ?_
  refine ax_get (v := .ref (ad (0, 17))) dX6_reduce_40 fkX6_42 (cs_get hi (cs_k0 (by decide))) rfl ?_
  refine ax_iload_n dX6_reduce_43 rfl ?_
  refine ax_callV (b := (ad (0, 17))) (av := [.int (nI p)]) (rest := []) (mc' := 0) (ms' := 0) dX6_reduce_44 rfl lkX6_202 (cs_get hi (cs_k0 (by decide))) rfl (Nat.le_of_ble_eq_true rfl) (Nat.le_of_ble_eq_true rfl) (by decide) (by decide) (ch_unfit hi _ S1 h (st_fin_rs o1 hf) o2 (fun w hw => ((sp_red_IA hf he).2 w hw).1) hp5 (Q := fun r h1 => r = .inl (some (match (sp_red P.1 v).find? (po_unfit P.1 p) with | none => .null | some w => .ref (ad (1, w)))) ∧ h1 = cs_O ad S1 h) ⟨rfl, rfl⟩) (fun E9 h9 q9 => by cases q9.1) (fun v9 h9 q9 => ?_)
  obtain ⟨e9, rfl⟩ := q9
  rw [hfi] at e9
  cases e9
  show AW G mX6_reduce (d + 16) 1 6 _ 47 [(0, .ref (ad (0, 0))), (1, .int (nI p)), (2, .ref (ad (1, v))), (3, .int (nI s))] [.ref (ad (1, w))] (cs_O ad S1 h) 0 0
  refine ax_astore dX6_reduce_47 (by decide) ?_
  refine ax_sub (lv' := [(0, .ref (ad (0, 0))), (1, .int (nI p)), (2, .ref (ad (1, v))), (3, .int (nI s)), (4, .ref (ad (1, w)))]) (fun _ z => z) ?_
  refine ax_aload dX6_reduce_49 rfl ?_
  refine ax_ifnonnull (tgt := 57) dX6_reduce_51 (by decide) ?_
  refine ax_aload dX6_reduce_57 rfl ?_
  refine ax_astore_n dX6_reduce_59 (by decide) ?_
  refine ax_sub (lv' := [(0, .ref (ad (0, 0))), (1, .int (nI p)), (2, .ref (ad (1, w))), (3, .int (nI s)), (4, .ref (ad (1, w)))]) (fun _ z => z) ?_
  refine ax_iinc (v := (nI (s + 1))) dX6_reduce_60 rfl (nI_1 s) (by decide) ?_
  refine ax_sub (lv' := [(0, .ref (ad (0, 0))), (1, .int (nI p)), (2, .ref (ad (1, w))), (3, .int (nI (s + 1))), (4, .ref (ad (1, w)))]) (fun _ z => z) ?_
  refine ax_goto (tgt := 12) dX6_reduce_63 (by decide) ?_
  exact ax_sub (fun q hq => List.mem_append_left [(4, Value.ref (ad (1, w)))] hq) (kk S1 o1)
theorem rd_loop (hi : cs_inj ad) {g : sp_G} (hg : sp_wg g) {P : List sp_E × Nat} (hty : sp_ty g P.1) (d : Nat) (h : ax_H) {p : Nat} (hp5 : p ≤ 5) {Q : ax_P} : ∀ (f s v : Nat) (S : cs_S), s + f = 300 → st_fin g P S → v < P.1.length → (∀ S1, st_rs S S1 → (po_go P.1 p f v).2 < P.1.length → Q (.inl (some (.int (nI (s + (po_go P.1 p f v).1))))) (cs_O ad (cs_setL S1 (some (po_go P.1 p f v).2)) h)) → AW G mX6_reduce (d + 16) 1 6 Q 12 [(0, .ref (ad (0, 0))), (1, .int (nI p)), (2, .ref (ad (1, v))), (3, .int (nI s))] [] (cs_O ad S h) 0 0 := by
  intro f
  induction f with
  | zero =>
    intro s v S hs hf hv hQ
    have hs : s = 300 := by omega
    subst hs
    have hT := hf.2.2.2.1.1
    exact rd_full hi d S h (rd_out hi d S h (by omega) (hQ S (st_rs_rfl S) hv))
  | succ f ih =>
    intro s v S hs hf hv hQ
    have hT := hf.2.2.2.1.1
    have he : P.1[v]? = some P.1[v] := List.getElem?_eq_getElem hv
    have hok := (hf.2.2.1.2 _ _ he).1
    have hgx := sp_wT_g hf.2.2.2.1 he
    have hxo : sp_xo P.1 v = (P.1[v]).2.2 := by unfold sp_xo; rw [he]
    cases hc : sp_cond p (P.1[v]).2.2 with
    | true =>
      have e0 : po_go P.1 p (f + 1) v = (0, v) := by
        show (if sp_cond p (sp_xo P.1 v) then _ else _) = _
        rw [hxo, if_pos hc]
      rw [e0] at hQ
      exact rd_fit hi d S h (by omega) hp5 (by omega) hok hgx hc (rd_out hi d S h (by omega) (hQ S (st_rs_rfl S) hv))
    | false =>
      cases hfi : (sp_red P.1 v).find? (po_unfit P.1 p) with
      | none =>
        have e0 : po_go P.1 p (f + 1) v = (0, v) := by
          show (if sp_cond p (sp_xo P.1 v) then _ else _) = _
          rw [hxo, if_neg (by rw [hc]; decide)]
          simp only [hfi]
        rw [e0] at hQ
        exact rd_nil hi hg hty d S h hf he (by omega) hp5 (by omega) hok hgx hc hfi (fun S1 o1 => rd_out hi d S1 h (by omega) (hQ S1 o1 hv))
      | some w =>
        have e0 : po_go P.1 p (f + 1) v = ((po_go P.1 p f w).1 + 1, (po_go P.1 p f w).2) := by
          show (if sp_cond p (sp_xo P.1 v) then _ else _) = _
          rw [hxo, if_neg (by rw [hc]; decide)]
          simp only [hfi]
        rw [e0] at hQ
        have hwl : w < P.1.length := ((sp_red_IA hf he).2 w (List.mem_of_find?_eq_some hfi)).1
        refine rd_next hi hg hty d S h hf he (by omega) hp5 (by omega) hok hgx hc hfi (fun S1 o1 => ih (s + 1) w S1 (by omega) (st_fin_rs o1 hf) hwl (fun S2 o2 hl => ?_))
        have := hQ S2 (st_rs_tr o1 o2) hl
        rw [show s + ((po_go P.1 p f w).1 + 1) = s + 1 + (po_go P.1 p f w).1 by omega] at this
        exact this
set_option maxRecDepth 100000 in
set_option maxHeartbeats 4000000 in
theorem pb_reduce (hi : cs_inj ad) (d : Nat) (S : cs_S) (h : ax_H) {σ : sp_St} (hC : CI σ S) (q : Int32) : AW G mX6_reduce (d + 16) 1 6 (pb_Q ad h (pb_nm ["java/lang/IllegalStateException", "java/lang/IllegalArgumentException"]) (po_reduce σ q)) 0 [(0, .ref (ad (0, 0))), (1, .int q)] [] (cs_O ad S h) 0 0 := by
  cases hs : σ.2.2 with
  | none =>
    rw [show po_reduce σ q = ((1, 0), σ) from by unfold po_reduce po_sel; rw [hs]]
    refine ax_aload_n dX6_reduce_0 rfl ?_
    refine ax_callV (b := (ad (0, 0))) (av := []) (rest := []) (mc' := 1) (ms' := 6) dX6_reduce_1 rfl lkX6_166 (cs_get hi (cs_k0 (by decide))) rfl (Nat.le_of_ble_eq_true rfl) (Nat.le_of_ble_eq_true rfl) (by decide) (by decide) (ch_chosenN hi _ S h (hC.2.2.2.2.2.2.1.trans hs)) (fun E9 h9 q9 => by obtain ⟨e9, rfl⟩ := q9; cases e9; exact ⟨rfl, _, rfl, hC⟩) (fun v9 h9 q9 => ?_)
    cases q9.1
  | some v =>
    obtain ⟨hs1, hf, hv3, e, he, hxo, hrk, hok, hv1, hgx, ht4, hcl, hil, hsz⟩ := sel_ok hC hs
    have e0 : po_reduce σ q = (if q < 1 ∨ 5 < q then ((2, 0), σ) else ((0, nI (po_go (po_T σ) q.toNatClampNeg 300 v).1), (σ.1, σ.2.1, some (po_go (po_T σ) q.toNatClampNeg 300 v).2))) := by unfold po_reduce po_sel; rw [hs]
    rw [e0]
    by_cases hkp : q < 1 ∨ 5 < q
    · rw [if_pos hkp]
      refine ax_aload_n dX6_reduce_0 rfl ?_
      refine ax_callV (b := (ad (0, 0))) (av := []) (rest := []) (mc' := 0) (ms' := 0) dX6_reduce_1 rfl lkX6_166 (cs_get hi (cs_k0 (by decide))) rfl (Nat.le_of_ble_eq_true rfl) (Nat.le_of_ble_eq_true rfl) (by decide) (by decide) (ch_chosenY hi _ S h hs1) (fun E9 h9 q9 => by cases q9.1) (fun v9 h9 q9 => ?_)
      obtain ⟨e9, rfl⟩ := q9
      cases e9
      show AW G mX6_reduce (d + 16) 1 6 _ 4 [(0, .ref (ad (0, 0))), (1, .int q)] [.ref (ad (1, v))] (cs_O ad S h) 0 0
      refine ax_astore_n dX6_reduce_4 (by decide) ?_
      refine ax_sub (lv' := [(0, .ref (ad (0, 0))), (1, .int q), (2, .ref (ad (1, v)))]) (fun _ z => z) ?_
      refine ax_aload_n dX6_reduce_5 rfl ?_
      refine ax_iload_n dX6_reduce_6 rfl ?_
      refine ax_callV (b := (ad (0, 0))) (av := [.int q]) (rest := []) (mc' := 1) (ms' := 6) dX6_reduce_7 rfl lkX6_112 (cs_get hi (cs_k0 (by decide))) rfl (Nat.le_of_ble_eq_true rfl) (Nat.le_of_ble_eq_true rfl) (by decide) (by decide) (rq_propN _ S h hkp) (fun E9 h9 q9 => by obtain ⟨e9, rfl⟩ := q9; cases e9; exact ⟨rfl, _, rfl, hC⟩) (fun v9 h9 q9 => ?_)
      cases q9.1
    · rw [if_neg hkp]
      obtain ⟨p, rfl, hp1, hp5⟩ := i_prp hkp
      refine ax_aload_n dX6_reduce_0 rfl ?_
      refine ax_callV (b := (ad (0, 0))) (av := []) (rest := []) (mc' := 0) (ms' := 0) dX6_reduce_1 rfl lkX6_166 (cs_get hi (cs_k0 (by decide))) rfl (Nat.le_of_ble_eq_true rfl) (Nat.le_of_ble_eq_true rfl) (by decide) (by decide) (ch_chosenY hi _ S h hs1) (fun E9 h9 q9 => by cases q9.1) (fun v9 h9 q9 => ?_)
      obtain ⟨e9, rfl⟩ := q9
      cases e9
      show AW G mX6_reduce (d + 16) 1 6 _ 4 [(0, .ref (ad (0, 0))), (1, .int (nI p))] [.ref (ad (1, v))] (cs_O ad S h) 0 0
      refine ax_astore_n dX6_reduce_4 (by decide) ?_
      refine ax_sub (lv' := [(0, .ref (ad (0, 0))), (1, .int (nI p)), (2, .ref (ad (1, v)))]) (fun _ z => z) ?_
      refine ax_aload_n dX6_reduce_5 rfl ?_
      refine ax_iload_n dX6_reduce_6 rfl ?_
      refine ax_callV (b := (ad (0, 0))) (av := [.int (nI p)]) (rest := []) (mc' := 0) (ms' := 0) dX6_reduce_7 rfl lkX6_112 (cs_get hi (cs_k0 (by decide))) rfl (Nat.le_of_ble_eq_true rfl) (Nat.le_of_ble_eq_true rfl) (by decide) (by decide) (rq_propY _ S h hkp) (fun E9 h9 q9 => by cases q9.1) (fun v9 h9 q9 => ?_)
      obtain ⟨e9, rfl⟩ := q9
      cases e9
      show AW G mX6_reduce (d + 16) 1 6 _ 10 [(0, .ref (ad (0, 0))), (1, .int (nI p)), (2, .ref (ad (1, v)))] [] (cs_O ad S h) 0 0
      refine ax_iconst (v := 0) dX6_reduce_10 (by decide) ?_
      refine ax_istore_n dX6_reduce_11 (by decide) ?_
      refine ax_sub (lv' := [(0, .ref (ad (0, 0))), (1, .int (nI p)), (2, .ref (ad (1, v))), (3, .int 0)]) (fun _ z => z) ?_
      refine rd_loop hi hC.1 (sp_tab_ty hC.1) d h hp5 300 0 v S (by omega) hf (List.getElem?_eq_some_iff.mp he).1 (fun S1 o1 hl => ⟨?_, _, rfl, ?_⟩)
      · show _ = Sum.inl (some (Value.int (nI (po_go (po_T σ) (nI p).toNatClampNeg 300 v).1)))
        rw [nI_clamp (by omega), Nat.zero_add]; rfl
      · have hC1 := CI_rs hC o1
        refine CI_mv hC1 (S' := cs_setL S1 (some _)) ⟨fun _ _ _ _ => rfl, fun _ _ => rfl, fun _ _ => rfl, fun _ _ => ⟨rfl, rfl, rfl⟩⟩ hC1.2.2.2.1 ?_ (fun w hw => ?_)
        · rw [nI_clamp (by omega)]; rfl
        · rw [nI_clamp (by omega)] at hw
          cases hw
          exact ⟨hl, (st_fin_rs o1 hf).2.2.2.2.2.2.2.2.2⟩
set_option maxRecDepth 100000 in
set_option maxHeartbeats 4000000 in
theorem dg_turn (hi : cs_inj ad) (d : Nat) (S : cs_S) (h : ax_H) {g : sp_G} (hg : cs_g S g) (hw : sp_wg g) {c : Nat} {q : sp_C} (hc : g.2.2.2[c]? = some q) {D : Int64} {Q : ax_P} (kk : AW G mX6_digest (d + 16) 1 6 Q 66 [(0, .ref (ad (0, 0))), (1, .long (po_dg D (po_dgc q))), (3, .int (nI (c + 1)))] [] (cs_O ad S h) 0 0) : AW G mX6_digest (d + 16) 1 6 Q 66 [(0, .ref (ad (0, 0))), (1, .long D), (3, .int (nI c))] [] (cs_O ad S h) 0 0 := by
  have hcl := (List.getElem?_eq_some_iff.mp hc).1
  have hl6 := hw.2.2.2.1
  refine ax_iload_n dX6_digest_66 rfl ?_
  refine ax_aload_n dX6_digest_67 rfl ?_
  refine ax_get (v := .ref (ad (0, 1))) dX6_digest_68 fkX6_10 (cs_get hi (cs_k0 (by decide))) rfl ?_
  refine ax_get (v := .int (nI g.2.2.2.length)) dX6_digest_71 fkX6_87 (cs_get hi (cs_k0 (by decide))) (congrArg (fun z => some (Value.int z)) (hg.2.2.2.1)) ?_
  refine ax_icmp_ge (tgt := 148) dX6_digest_74 (by decide) (fun z => absurd z (il_nle g.2.2.2.length c hcl)) (fun _ => ?_)
  refine ax_lload_n dX6_digest_77 rfl ?_
  refine ax_ldc2 dX6_digest_78 lcX6_207 ?_
  refine ax_lmul dX6_digest_81 ?_
  refine ax_aload_n dX6_digest_82 rfl ?_
  refine ax_get (v := .ref (ad (0, 1))) dX6_digest_83 fkX6_10 (cs_get hi (cs_k0 (by decide))) rfl ?_
  refine ax_iload_n dX6_digest_86 rfl ?_
  refine ax_callV (b := (ad (0, 1))) (av := [.int (nI c)]) (rest := [.long (D * (31 : Int64))]) (mc' := 0) (ms' := 0) dX6_digest_87 rfl lkX6_209 (cs_get hi (cs_k0 (by decide))) rfl (Nat.le_of_ble_eq_true rfl) (Nat.le_of_ble_eq_true rfl) (by decide) (by decide) (cg_typeOf hi _ S h hg hw hc) (fun E9 h9 q9 => by cases q9.1) (fun v9 h9 q9 => ?_)
  obtain ⟨e9, rfl⟩ := q9
  cases e9
  show AW G mX6_digest (d + 16) 1 6 _ 90 [(0, .ref (ad (0, 0))), (1, .long D), (3, .int (nI c))] [.int (nI q.1), .long (D * (31 : Int64))] (cs_O ad S h) 0 0
  refine ax_i2l dX6_digest_90 ?_
  refine ax_ladd dX6_digest_91 ?_
  refine ax_lstore_n dX6_digest_92 (by decide) ?_
  refine ax_sub (lv' := [(0, .ref (ad (0, 0))), (1, .long ((D * (31 : Int64)) + ((nI q.1).toInt64))), (3, .int (nI c))]) (fun _ z => z) ?_
  refine ax_iconst (v := 0) dX6_digest_93 (by decide) ?_
  refine ax_istore dX6_digest_94 (by decide) ?_
  refine ax_sub (lv' := [(0, .ref (ad (0, 0))), (1, .long ((D * (31 : Int64)) + ((nI q.1).toInt64))), (3, .int (nI c)), (4, .int 0)]) (fun _ z => z) ?_
  refine ax_iload dX6_digest_96 rfl ?_
  refine ax_iconst (v := 3) dX6_digest_98 (by decide) ?_
  refine ax_icmp_ge (tgt := 126) dX6_digest_99 (by decide) (fun z => absurd z (by decide)) (fun _ => ?_)
  refine ax_lload_n dX6_digest_102 rfl ?_
  refine ax_ldc2 dX6_digest_103 lcX6_207 ?_
  refine ax_lmul dX6_digest_106 ?_
  refine ax_aload_n dX6_digest_107 rfl ?_
  refine ax_get (v := .ref (ad (0, 1))) dX6_digest_108 fkX6_10 (cs_get hi (cs_k0 (by decide))) rfl ?_
  refine ax_iload_n dX6_digest_111 rfl ?_
  refine ax_iload dX6_digest_112 rfl ?_
  refine ax_callV (b := (ad (0, 1))) (av := [.int (nI c), .int 0]) (rest := [.long (((D * (31 : Int64)) + ((nI q.1).toInt64)) * (31 : Int64))]) (mc' := 0) (ms' := 0) dX6_digest_114 rfl lkX6_212 (cs_get hi (cs_k0 (by decide))) rfl (Nat.le_of_ble_eq_true rfl) (Nat.le_of_ble_eq_true rfl) (by decide) (by decide) (cg_parameter hi _ S h hg hw hc (k := 0) (by decide)) (fun E9 h9 q9 => by cases q9.1) (fun v9 h9 q9 => ?_)
  obtain ⟨e9, rfl⟩ := q9
  cases e9
  show AW G mX6_digest (d + 16) 1 6 _ 117 [(0, .ref (ad (0, 0))), (1, .long ((D * (31 : Int64)) + ((nI q.1).toInt64))), (3, .int (nI c)), (4, .int 0)] [.int (sp_pI (sp_par q 0)), .long (((D * (31 : Int64)) + ((nI q.1).toInt64)) * (31 : Int64))] (cs_O ad S h) 0 0
  refine ax_i2l dX6_digest_117 ?_
  refine ax_ladd dX6_digest_118 ?_
  refine ax_lstore_n dX6_digest_119 (by decide) ?_
  refine ax_sub (lv' := [(0, .ref (ad (0, 0))), (1, .long ((((D * (31 : Int64)) + ((nI q.1).toInt64)) * (31 : Int64)) + ((sp_pI (sp_par q 0)).toInt64))), (3, .int (nI c)), (4, .int 0)]) (fun _ z => z) ?_
  refine ax_iinc (v := 1) dX6_digest_120 rfl (by decide) (by decide) ?_
  refine ax_sub (lv' := [(0, .ref (ad (0, 0))), (1, .long ((((D * (31 : Int64)) + ((nI q.1).toInt64)) * (31 : Int64)) + ((sp_pI (sp_par q 0)).toInt64))), (3, .int (nI c)), (4, .int 1)]) (fun _ z => z) ?_
  refine ax_goto (tgt := 96) dX6_digest_123 (by decide) ?_
  refine ax_iload dX6_digest_96 rfl ?_
  refine ax_iconst (v := 3) dX6_digest_98 (by decide) ?_
  refine ax_icmp_ge (tgt := 126) dX6_digest_99 (by decide) (fun z => absurd z (by decide)) (fun _ => ?_)
  refine ax_lload_n dX6_digest_102 rfl ?_
  refine ax_ldc2 dX6_digest_103 lcX6_207 ?_
  refine ax_lmul dX6_digest_106 ?_
  refine ax_aload_n dX6_digest_107 rfl ?_
  refine ax_get (v := .ref (ad (0, 1))) dX6_digest_108 fkX6_10 (cs_get hi (cs_k0 (by decide))) rfl ?_
  refine ax_iload_n dX6_digest_111 rfl ?_
  refine ax_iload dX6_digest_112 rfl ?_
  refine ax_callV (b := (ad (0, 1))) (av := [.int (nI c), .int 1]) (rest := [.long (((((D * (31 : Int64)) + ((nI q.1).toInt64)) * (31 : Int64)) + ((sp_pI (sp_par q 0)).toInt64)) * (31 : Int64))]) (mc' := 0) (ms' := 0) dX6_digest_114 rfl lkX6_212 (cs_get hi (cs_k0 (by decide))) rfl (Nat.le_of_ble_eq_true rfl) (Nat.le_of_ble_eq_true rfl) (by decide) (by decide) (cg_parameter hi _ S h hg hw hc (k := 1) (by decide)) (fun E9 h9 q9 => by cases q9.1) (fun v9 h9 q9 => ?_)
  obtain ⟨e9, rfl⟩ := q9
  cases e9
  show AW G mX6_digest (d + 16) 1 6 _ 117 [(0, .ref (ad (0, 0))), (1, .long ((((D * (31 : Int64)) + ((nI q.1).toInt64)) * (31 : Int64)) + ((sp_pI (sp_par q 0)).toInt64))), (3, .int (nI c)), (4, .int 1)] [.int (sp_pI (sp_par q 1)), .long (((((D * (31 : Int64)) + ((nI q.1).toInt64)) * (31 : Int64)) + ((sp_pI (sp_par q 0)).toInt64)) * (31 : Int64))] (cs_O ad S h) 0 0
  refine ax_i2l dX6_digest_117 ?_
  refine ax_ladd dX6_digest_118 ?_
  refine ax_lstore_n dX6_digest_119 (by decide) ?_
  refine ax_sub (lv' := [(0, .ref (ad (0, 0))), (1, .long ((((((D * (31 : Int64)) + ((nI q.1).toInt64)) * (31 : Int64)) + ((sp_pI (sp_par q 0)).toInt64)) * (31 : Int64)) + ((sp_pI (sp_par q 1)).toInt64))), (3, .int (nI c)), (4, .int 1)]) (fun _ z => z) ?_
  refine ax_iinc (v := 2) dX6_digest_120 rfl (by decide) (by decide) ?_
  refine ax_sub (lv' := [(0, .ref (ad (0, 0))), (1, .long ((((((D * (31 : Int64)) + ((nI q.1).toInt64)) * (31 : Int64)) + ((sp_pI (sp_par q 0)).toInt64)) * (31 : Int64)) + ((sp_pI (sp_par q 1)).toInt64))), (3, .int (nI c)), (4, .int 2)]) (fun _ z => z) ?_
  refine ax_goto (tgt := 96) dX6_digest_123 (by decide) ?_
  refine ax_iload dX6_digest_96 rfl ?_
  refine ax_iconst (v := 3) dX6_digest_98 (by decide) ?_
  refine ax_icmp_ge (tgt := 126) dX6_digest_99 (by decide) (fun z => absurd z (by decide)) (fun _ => ?_)
  refine ax_lload_n dX6_digest_102 rfl ?_
  refine ax_ldc2 dX6_digest_103 lcX6_207 ?_
  refine ax_lmul dX6_digest_106 ?_
  refine ax_aload_n dX6_digest_107 rfl ?_
  refine ax_get (v := .ref (ad (0, 1))) dX6_digest_108 fkX6_10 (cs_get hi (cs_k0 (by decide))) rfl ?_
  refine ax_iload_n dX6_digest_111 rfl ?_
  refine ax_iload dX6_digest_112 rfl ?_
  refine ax_callV (b := (ad (0, 1))) (av := [.int (nI c), .int 2]) (rest := [.long (((((((D * (31 : Int64)) + ((nI q.1).toInt64)) * (31 : Int64)) + ((sp_pI (sp_par q 0)).toInt64)) * (31 : Int64)) + ((sp_pI (sp_par q 1)).toInt64)) * (31 : Int64))]) (mc' := 0) (ms' := 0) dX6_digest_114 rfl lkX6_212 (cs_get hi (cs_k0 (by decide))) rfl (Nat.le_of_ble_eq_true rfl) (Nat.le_of_ble_eq_true rfl) (by decide) (by decide) (cg_parameter hi _ S h hg hw hc (k := 2) (by decide)) (fun E9 h9 q9 => by cases q9.1) (fun v9 h9 q9 => ?_)
  obtain ⟨e9, rfl⟩ := q9
  cases e9
  show AW G mX6_digest (d + 16) 1 6 _ 117 [(0, .ref (ad (0, 0))), (1, .long ((((((D * (31 : Int64)) + ((nI q.1).toInt64)) * (31 : Int64)) + ((sp_pI (sp_par q 0)).toInt64)) * (31 : Int64)) + ((sp_pI (sp_par q 1)).toInt64))), (3, .int (nI c)), (4, .int 2)] [.int (sp_pI (sp_par q 2)), .long (((((((D * (31 : Int64)) + ((nI q.1).toInt64)) * (31 : Int64)) + ((sp_pI (sp_par q 0)).toInt64)) * (31 : Int64)) + ((sp_pI (sp_par q 1)).toInt64)) * (31 : Int64))] (cs_O ad S h) 0 0
  refine ax_i2l dX6_digest_117 ?_
  refine ax_ladd dX6_digest_118 ?_
  refine ax_lstore_n dX6_digest_119 (by decide) ?_
  refine ax_sub (lv' := [(0, .ref (ad (0, 0))), (1, .long ((((((((D * (31 : Int64)) + ((nI q.1).toInt64)) * (31 : Int64)) + ((sp_pI (sp_par q 0)).toInt64)) * (31 : Int64)) + ((sp_pI (sp_par q 1)).toInt64)) * (31 : Int64)) + ((sp_pI (sp_par q 2)).toInt64))), (3, .int (nI c)), (4, .int 2)]) (fun _ z => z) ?_
  refine ax_iinc (v := 3) dX6_digest_120 rfl (by decide) (by decide) ?_
  refine ax_sub (lv' := [(0, .ref (ad (0, 0))), (1, .long ((((((((D * (31 : Int64)) + ((nI q.1).toInt64)) * (31 : Int64)) + ((sp_pI (sp_par q 0)).toInt64)) * (31 : Int64)) + ((sp_pI (sp_par q 1)).toInt64)) * (31 : Int64)) + ((sp_pI (sp_par q 2)).toInt64))), (3, .int (nI c)), (4, .int 3)]) (fun _ z => z) ?_
  refine ax_goto (tgt := 96) dX6_digest_123 (by decide) ?_
  refine ax_iload dX6_digest_96 rfl ?_
  refine ax_iconst (v := 3) dX6_digest_98 (by decide) ?_
  refine ax_icmp_ge (tgt := 126) dX6_digest_99 (by decide) (fun _ => ?_) (fun z => absurd (by decide) z)
  refine ax_lload_n dX6_digest_126 rfl ?_
  refine ax_ldc2 dX6_digest_127 lcX6_207 ?_
  refine ax_lmul dX6_digest_130 ?_
  refine ax_aload_n dX6_digest_131 rfl ?_
  refine ax_get (v := .ref (ad (0, 1))) dX6_digest_132 fkX6_10 (cs_get hi (cs_k0 (by decide))) rfl ?_
  refine ax_iload_n dX6_digest_135 rfl ?_
  refine ax_callV (b := (ad (0, 1))) (av := [.int (nI c)]) (rest := [.long (((((((((D * (31 : Int64)) + ((nI q.1).toInt64)) * (31 : Int64)) + ((sp_pI (sp_par q 0)).toInt64)) * (31 : Int64)) + ((sp_pI (sp_par q 1)).toInt64)) * (31 : Int64)) + ((sp_pI (sp_par q 2)).toInt64)) * (31 : Int64))]) (mc' := 0) (ms' := 0) dX6_digest_136 rfl lkX6_215 (cs_get hi (cs_k0 (by decide))) rfl (Nat.le_of_ble_eq_true rfl) (Nat.le_of_ble_eq_true rfl) (by decide) (by decide) (cg_conditionOf hi _ S h hg hw hc) (fun E9 h9 q9 => by cases q9.1) (fun v9 h9 q9 => ?_)
  obtain ⟨e9, rfl⟩ := q9
  cases e9
  show AW G mX6_digest (d + 16) 1 6 _ 139 [(0, .ref (ad (0, 0))), (1, .long ((((((((D * (31 : Int64)) + ((nI q.1).toInt64)) * (31 : Int64)) + ((sp_pI (sp_par q 0)).toInt64)) * (31 : Int64)) + ((sp_pI (sp_par q 1)).toInt64)) * (31 : Int64)) + ((sp_pI (sp_par q 2)).toInt64))), (3, .int (nI c)), (4, .int 3)] [.int (nI q.2.2.2.2), .long (((((((((D * (31 : Int64)) + ((nI q.1).toInt64)) * (31 : Int64)) + ((sp_pI (sp_par q 0)).toInt64)) * (31 : Int64)) + ((sp_pI (sp_par q 1)).toInt64)) * (31 : Int64)) + ((sp_pI (sp_par q 2)).toInt64)) * (31 : Int64))] (cs_O ad S h) 0 0
  refine ax_i2l dX6_digest_139 ?_
  refine ax_ladd dX6_digest_140 ?_
  refine ax_lstore_n dX6_digest_141 (by decide) ?_
  refine ax_sub (lv' := [(0, .ref (ad (0, 0))), (1, .long ((((((((((D * (31 : Int64)) + ((nI q.1).toInt64)) * (31 : Int64)) + ((sp_pI (sp_par q 0)).toInt64)) * (31 : Int64)) + ((sp_pI (sp_par q 1)).toInt64)) * (31 : Int64)) + ((sp_pI (sp_par q 2)).toInt64)) * (31 : Int64)) + ((nI q.2.2.2.2).toInt64))), (3, .int (nI c)), (4, .int 3)]) (fun _ z => z) ?_
  refine ax_iinc (v := (nI (c + 1))) dX6_digest_142 rfl (nI_1 c) (by decide) ?_
  refine ax_sub (lv' := [(0, .ref (ad (0, 0))), (1, .long ((((((((((D * (31 : Int64)) + ((nI q.1).toInt64)) * (31 : Int64)) + ((sp_pI (sp_par q 0)).toInt64)) * (31 : Int64)) + ((sp_pI (sp_par q 1)).toInt64)) * (31 : Int64)) + ((sp_pI (sp_par q 2)).toInt64)) * (31 : Int64)) + ((nI q.2.2.2.2).toInt64))), (3, .int (nI (c + 1))), (4, .int 3)]) (fun _ z => z) ?_
  refine ax_goto (tgt := 66) dX6_digest_145 (by decide) ?_
  exact ax_sub (fun q hq => List.mem_append_left [(4, Value.int 3)] hq) kk
theorem dg_end (hi : cs_inj ad) (d : Nat) (S : cs_S) (h : ax_H) {g : sp_G} (hg : cs_g S g) (hw : sp_wg g) {D : Int64} {Q : ax_P} (kk : AW G mX6_digest (d + 16) 1 6 Q 148 [(0, .ref (ad (0, 0))), (1, .long D), (3, .int (nI g.2.2.2.length))] [] (cs_O ad S h) 0 0) : AW G mX6_digest (d + 16) 1 6 Q 66 [(0, .ref (ad (0, 0))), (1, .long D), (3, .int (nI g.2.2.2.length))] [] (cs_O ad S h) 0 0 := by
  have hl6 := hw.2.2.2.1
  refine ax_iload_n dX6_digest_66 rfl ?_
  refine ax_aload_n dX6_digest_67 rfl ?_
  refine ax_get (v := .ref (ad (0, 1))) dX6_digest_68 fkX6_10 (cs_get hi (cs_k0 (by decide))) rfl ?_
  refine ax_get (v := .int (nI g.2.2.2.length)) dX6_digest_71 fkX6_87 (cs_get hi (cs_k0 (by decide))) (congrArg (fun z => some (Value.int z)) (hg.2.2.2.1)) ?_
  refine ax_icmp_ge (tgt := 148) dX6_digest_74 (by decide) (fun _ => ?_) (fun z => absurd (il_le g.2.2.2.length g.2.2.2.length (Nat.le_refl _)) z)
  exact kk
theorem dg_app (D : Int64) (a b : List Int32) : po_dg D (a ++ b) = po_dg (po_dg D a) b := List.foldl_append
theorem dg_con (hi : cs_inj ad) (d : Nat) (S : cs_S) (h : ax_H) {g : sp_G} (hg : cs_g S g) (hw : sp_wg g) {Q : ax_P} : ∀ (i c : Nat) (D : Int64), c + i = g.2.2.2.length → AW G mX6_digest (d + 16) 1 6 Q 148 [(0, .ref (ad (0, 0))), (1, .long (po_dg D ((g.2.2.2.drop c).flatMap po_dgc))), (3, .int (nI g.2.2.2.length))] [] (cs_O ad S h) 0 0 → AW G mX6_digest (d + 16) 1 6 Q 66 [(0, .ref (ad (0, 0))), (1, .long D), (3, .int (nI c))] [] (cs_O ad S h) 0 0 := by
  intro i
  induction i with
  | zero =>
    intro c D hc kk
    have hc : c = g.2.2.2.length := by omega
    subst hc
    rw [List.drop_length, List.flatMap_nil] at kk
    exact dg_end hi d S h hg hw kk
  | succ i ih =>
    intro c D hc kk
    have hl : c < g.2.2.2.length := by omega
    rw [List.drop_eq_getElem_cons hl, List.flatMap_cons, dg_app] at kk
    exact dg_turn hi d S h hg hw (List.getElem?_eq_getElem hl) (ih (c + 1) _ (by omega) kk)

set_option maxRecDepth 100000 in
set_option maxHeartbeats 4000000 in
theorem dc_turn (hi : cs_inj ad) (d : Nat) (S : cs_S) (h : ax_H) {L : List Nat} {k : Nat} (h11 : S.1 11 = nI L.length) (hl32 : L.length ≤ 32) (hL : ∀ i a, L[i]? = some a → S.2.1 16 i = nI a) (hk : k < L.length) {D : Int64} {Q : ax_P} (kk : AW G mX6_digest (d + 16) 1 6 Q 183 [(0, .ref (ad (0, 0))), (1, .long (po_dg D [nI L[k]])), (3, .int (nI (k + 1)))] [] (cs_O ad S h) 0 0) : AW G mX6_digest (d + 16) 1 6 Q 183 [(0, .ref (ad (0, 0))), (1, .long D), (3, .int (nI k))] [] (cs_O ad S h) 0 0 := by
  refine ax_iload_n dX6_digest_183 rfl ?_
  refine ax_aload_n dX6_digest_184 rfl ?_
  refine ax_get (v := .ref (ad (0, 15))) dX6_digest_185 fkX6_35 (cs_get hi (cs_k0 (by decide))) rfl ?_
  refine ax_get (v := .int (nI L.length)) dX6_digest_188 fkX6_218 (cs_get hi (cs_k0 (by decide))) (congrArg (fun z => some (Value.int z)) (h11)) ?_
  refine ax_icmp_ge (tgt := 216) dX6_digest_191 (by decide) (fun z => absurd z (il_nle L.length k hk)) (fun _ => ?_)
  refine ax_lload_n dX6_digest_194 rfl ?_
  refine ax_ldc2 dX6_digest_195 lcX6_207 ?_
  refine ax_lmul dX6_digest_198 ?_
  refine ax_aload_n dX6_digest_199 rfl ?_
  refine ax_get (v := .ref (ad (0, 15))) dX6_digest_200 fkX6_35 (cs_get hi (cs_k0 (by decide))) rfl ?_
  refine ax_iload_n dX6_digest_203 rfl ?_
  refine ax_callV (b := (ad (0, 15))) (av := [.int (nI k)]) (rest := [.long (D * (31 : Int64))]) (mc' := 0) (ms' := 0) dX6_digest_204 rfl lkX6_180 (cs_get hi (cs_k0 (by decide))) rfl (Nat.le_of_ble_eq_true rfl) (Nat.le_of_ble_eq_true rfl) (by decide) (by decide) (ch_cat hi _ S h (L := L) (j := k) (a := L[k]) h11 hl32 (List.getElem?_eq_getElem hk) (hL k _ (List.getElem?_eq_getElem hk))) (fun E9 h9 q9 => by cases q9.1) (fun v9 h9 q9 => ?_)
  obtain ⟨e9, rfl⟩ := q9
  cases e9
  show AW G mX6_digest (d + 16) 1 6 _ 207 [(0, .ref (ad (0, 0))), (1, .long D), (3, .int (nI k))] [.int (nI L[k]), .long (D * (31 : Int64))] (cs_O ad S h) 0 0
  refine ax_i2l dX6_digest_207 ?_
  refine ax_ladd dX6_digest_208 ?_
  refine ax_lstore_n dX6_digest_209 (by decide) ?_
  refine ax_sub (lv' := [(0, .ref (ad (0, 0))), (1, .long ((D * (31 : Int64)) + ((nI L[k]).toInt64))), (3, .int (nI k))]) (fun _ z => z) ?_
  refine ax_iinc (v := (nI (k + 1))) dX6_digest_210 rfl (nI_1 k) (by decide) ?_
  refine ax_sub (lv' := [(0, .ref (ad (0, 0))), (1, .long ((D * (31 : Int64)) + ((nI L[k]).toInt64))), (3, .int (nI (k + 1)))]) (fun _ z => z) ?_
  refine ax_goto (tgt := 183) dX6_digest_213 (by decide) ?_
  exact kk
theorem dc_end (hi : cs_inj ad) (d : Nat) (S : cs_S) (h : ax_H) {L : List Nat} (h11 : S.1 11 = nI L.length) (hl32 : L.length ≤ 32) {D : Int64} {Q : ax_P} (hq : Q (.inl (some (.long D))) (cs_O ad S h)) : AW G mX6_digest (d + 16) 1 6 Q 183 [(0, .ref (ad (0, 0))), (1, .long D), (3, .int (nI L.length))] [] (cs_O ad S h) 0 0 := by
  refine ax_iload_n dX6_digest_183 rfl ?_
  refine ax_aload_n dX6_digest_184 rfl ?_
  refine ax_get (v := .ref (ad (0, 15))) dX6_digest_185 fkX6_35 (cs_get hi (cs_k0 (by decide))) rfl ?_
  refine ax_get (v := .int (nI L.length)) dX6_digest_188 fkX6_218 (cs_get hi (cs_k0 (by decide))) (congrArg (fun z => some (Value.int z)) (h11)) ?_
  refine ax_icmp_ge (tgt := 216) dX6_digest_191 (by decide) (fun _ => ?_) (fun z => absurd (il_le L.length L.length (Nat.le_refl _)) z)
  refine ax_lload_n dX6_digest_216 rfl ?_
  exact ax_lret (st := []) dX6_digest_217 rfl hq
theorem dc_loop (hi : cs_inj ad) (d : Nat) (S : cs_S) (h : ax_H) {L : List Nat} (h11 : S.1 11 = nI L.length) (hl32 : L.length ≤ 32) (hL : ∀ i a, L[i]? = some a → S.2.1 16 i = nI a) {Q : ax_P} : ∀ (i k : Nat) (D : Int64), k + i = L.length → Q (.inl (some (.long (po_dg D ((L.drop k).map nI))))) (cs_O ad S h) → AW G mX6_digest (d + 16) 1 6 Q 183 [(0, .ref (ad (0, 0))), (1, .long D), (3, .int (nI k))] [] (cs_O ad S h) 0 0 := by
  intro i
  induction i with
  | zero =>
    intro k D hc hq
    have hc : k = L.length := by omega
    subst hc
    rw [List.drop_length, List.map_nil] at hq
    exact dc_end hi d S h h11 hl32 hq
  | succ i ih =>
    intro k D hc hq
    have hl : k < L.length := by omega
    rw [List.drop_eq_getElem_cons hl, List.map_cons] at hq
    exact dc_turn hi d S h h11 hl32 hL hl (ih (k + 1) _ (by omega) hq)

set_option maxRecDepth 100000 in
set_option maxHeartbeats 4000000 in
theorem pb_digest (hi : cs_inj ad) (d : Nat) (S : cs_S) (h : ax_H) {σ : sp_St} (hC : CI σ S)  : AW G mX6_digest (d + 16) 1 6 (fun r h1 => r = .inl (some (.long (po_digest σ))) ∧ ∃ S', h1 = cs_O ad S' h ∧ CI σ S') 0 [(0, .ref (ad (0, 0)))] [] (cs_O ad S h) 0 0 := by
  have hg := hC.2.1
  have e0 : po_digest σ = po_dg (po_dg (po_dg 137 ([nI σ.1.1, nI σ.1.2.1, nI σ.1.2.2.1, nI σ.1.2.2.2.length] ++ σ.1.2.2.2.flatMap po_dgc)) [nI σ.2.1.length]) (match σ.2.2 with | none => [] | some v => (sp_cd (po_T σ) v).map nI) := by
    unfold po_digest
    rw [dg_app, dg_app]
    cases σ.2.2 <;> rfl
  rw [e0]
  refine ax_ldc2 dX6_digest_0 lcX6_205 ?_
  refine ax_lstore_n dX6_digest_3 (by decide) ?_
  refine ax_sub (lv' := [(0, .ref (ad (0, 0))), (1, .long (137 : Int64))]) (fun _ z => z) ?_
  refine ax_lload_n dX6_digest_4 rfl ?_
  refine ax_ldc2 dX6_digest_5 lcX6_207 ?_
  refine ax_lmul dX6_digest_8 ?_
  refine ax_aload_n dX6_digest_9 rfl ?_
  refine ax_get (v := .ref (ad (0, 1))) dX6_digest_10 fkX6_10 (cs_get hi (cs_k0 (by decide))) rfl ?_
  refine ax_get (v := .int (nI σ.1.1)) dX6_digest_13 fkX6_57 (cs_get hi (cs_k0 (by decide))) (congrArg (fun z => some (Value.int z)) (hg.1)) ?_
  refine ax_i2l dX6_digest_16 ?_
  refine ax_ladd dX6_digest_17 ?_
  refine ax_lstore_n dX6_digest_18 (by decide) ?_
  refine ax_sub (lv' := [(0, .ref (ad (0, 0))), (1, .long (((137 : Int64) * (31 : Int64)) + ((nI σ.1.1).toInt64)))]) (fun _ z => z) ?_
  refine ax_lload_n dX6_digest_19 rfl ?_
  refine ax_ldc2 dX6_digest_20 lcX6_207 ?_
  refine ax_lmul dX6_digest_23 ?_
  refine ax_aload_n dX6_digest_24 rfl ?_
  refine ax_get (v := .ref (ad (0, 1))) dX6_digest_25 fkX6_10 (cs_get hi (cs_k0 (by decide))) rfl ?_
  refine ax_get (v := .int (nI σ.1.2.1)) dX6_digest_28 fkX6_61 (cs_get hi (cs_k0 (by decide))) (congrArg (fun z => some (Value.int z)) (hg.2.1)) ?_
  refine ax_i2l dX6_digest_31 ?_
  refine ax_ladd dX6_digest_32 ?_
  refine ax_lstore_n dX6_digest_33 (by decide) ?_
  refine ax_sub (lv' := [(0, .ref (ad (0, 0))), (1, .long (((((137 : Int64) * (31 : Int64)) + ((nI σ.1.1).toInt64)) * (31 : Int64)) + ((nI σ.1.2.1).toInt64)))]) (fun _ z => z) ?_
  refine ax_lload_n dX6_digest_34 rfl ?_
  refine ax_ldc2 dX6_digest_35 lcX6_207 ?_
  refine ax_lmul dX6_digest_38 ?_
  refine ax_aload_n dX6_digest_39 rfl ?_
  refine ax_get (v := .ref (ad (0, 1))) dX6_digest_40 fkX6_10 (cs_get hi (cs_k0 (by decide))) rfl ?_
  refine ax_get (v := .int (nI σ.1.2.2.1)) dX6_digest_43 fkX6_67 (cs_get hi (cs_k0 (by decide))) (congrArg (fun z => some (Value.int z)) (hg.2.2.1)) ?_
  refine ax_i2l dX6_digest_46 ?_
  refine ax_ladd dX6_digest_47 ?_
  refine ax_lstore_n dX6_digest_48 (by decide) ?_
  refine ax_sub (lv' := [(0, .ref (ad (0, 0))), (1, .long (((((((137 : Int64) * (31 : Int64)) + ((nI σ.1.1).toInt64)) * (31 : Int64)) + ((nI σ.1.2.1).toInt64)) * (31 : Int64)) + ((nI σ.1.2.2.1).toInt64)))]) (fun _ z => z) ?_
  refine ax_lload_n dX6_digest_49 rfl ?_
  refine ax_ldc2 dX6_digest_50 lcX6_207 ?_
  refine ax_lmul dX6_digest_53 ?_
  refine ax_aload_n dX6_digest_54 rfl ?_
  refine ax_get (v := .ref (ad (0, 1))) dX6_digest_55 fkX6_10 (cs_get hi (cs_k0 (by decide))) rfl ?_
  refine ax_get (v := .int (nI σ.1.2.2.2.length)) dX6_digest_58 fkX6_87 (cs_get hi (cs_k0 (by decide))) (congrArg (fun z => some (Value.int z)) (hg.2.2.2.1)) ?_
  refine ax_i2l dX6_digest_61 ?_
  refine ax_ladd dX6_digest_62 ?_
  refine ax_lstore_n dX6_digest_63 (by decide) ?_
  refine ax_sub (lv' := [(0, .ref (ad (0, 0))), (1, .long (((((((((137 : Int64) * (31 : Int64)) + ((nI σ.1.1).toInt64)) * (31 : Int64)) + ((nI σ.1.2.1).toInt64)) * (31 : Int64)) + ((nI σ.1.2.2.1).toInt64)) * (31 : Int64)) + ((nI σ.1.2.2.2.length).toInt64)))]) (fun _ z => z) ?_
  refine ax_iconst (v := 0) dX6_digest_64 (by decide) ?_
  refine ax_istore_n dX6_digest_65 (by decide) ?_
  refine ax_sub (lv' := [(0, .ref (ad (0, 0))), (1, .long (((((((((137 : Int64) * (31 : Int64)) + ((nI σ.1.1).toInt64)) * (31 : Int64)) + ((nI σ.1.2.1).toInt64)) * (31 : Int64)) + ((nI σ.1.2.2.1).toInt64)) * (31 : Int64)) + ((nI σ.1.2.2.2.length).toInt64))), (3, .int 0)]) (fun _ z => z) ?_
  refine dg_con hi d S h hg hC.1 σ.1.2.2.2.length 0 _ (by omega) ?_
  rw [List.drop_zero]
  show AW G mX6_digest (d + 16) 1 6 _ 148 [(0, .ref (ad (0, 0))), (1, .long (po_dg 137 ([nI σ.1.1, nI σ.1.2.1, nI σ.1.2.2.1, nI σ.1.2.2.2.length] ++ σ.1.2.2.2.flatMap po_dgc))), (3, .int (nI σ.1.2.2.2.length))] [] (cs_O ad S h) 0 0
  obtain ⟨D, hD⟩ : ∃ D, D = po_dg 137 ([nI σ.1.1, nI σ.1.2.1, nI σ.1.2.2.1, nI σ.1.2.2.2.length] ++ σ.1.2.2.2.flatMap po_dgc) := ⟨_, rfl⟩
  rw [← hD] at *
  cases hs : σ.2.2 with
  | none =>
    have hs1 : S.2.2.2.2.2.2 = none := hC.2.2.2.2.2.2.1.trans hs
    refine ax_lload_n dX6_digest_148 rfl ?_
    refine ax_ldc2 dX6_digest_149 lcX6_207 ?_
    refine ax_lmul dX6_digest_152 ?_
    refine ax_aload_n dX6_digest_153 rfl ?_
    refine ax_get (v := .ref (ad (0, 12))) dX6_digest_154 fkX6_28 (cs_get hi (cs_k0 (by decide))) rfl ?_
    refine ax_get (v := .int (nI σ.2.1.length)) dX6_digest_157 fkX6_146 (cs_get hi (cs_k0 (by decide))) (congrArg (fun z => some (Value.int z)) (hC.2.2.2.1.1)) ?_
    refine ax_i2l dX6_digest_160 ?_
    refine ax_ladd dX6_digest_161 ?_
    refine ax_lstore_n dX6_digest_162 (by decide) ?_
    refine ax_sub (lv' := [(0, .ref (ad (0, 0))), (1, .long ((D * (31 : Int64)) + ((nI σ.2.1.length).toInt64))), (3, .int (nI σ.1.2.2.2.length))]) (fun _ z => z) ?_
    refine ax_aload_n dX6_digest_163 rfl ?_
    refine ax_get (v := .null) dX6_digest_164 fkX6_46 (cs_get hi (cs_k0 (by decide))) (congrArg (fun z => some (va_rf (cs_rf ad z))) hs1) ?_
    refine ax_ifnullN (tgt := 216) dX6_digest_167 (by decide) ?_
    refine ax_lload_n dX6_digest_216 rfl ?_
    exact ax_lret (st := []) dX6_digest_217 rfl ⟨rfl, S, rfl, hC⟩
  | some v =>
    obtain ⟨hs1, hf, hv3, e, he, hxo, hrk, hok, hv1, hgx, ht4, hcl, hil, hsz⟩ := sel_ok hC hs
    have hl32 : (sp_cd (po_T σ) v).length ≤ 32 := by omega
    refine ax_lload_n dX6_digest_148 rfl ?_
    refine ax_ldc2 dX6_digest_149 lcX6_207 ?_
    refine ax_lmul dX6_digest_152 ?_
    refine ax_aload_n dX6_digest_153 rfl ?_
    refine ax_get (v := .ref (ad (0, 12))) dX6_digest_154 fkX6_28 (cs_get hi (cs_k0 (by decide))) rfl ?_
    refine ax_get (v := .int (nI σ.2.1.length)) dX6_digest_157 fkX6_146 (cs_get hi (cs_k0 (by decide))) (congrArg (fun z => some (Value.int z)) (hC.2.2.2.1.1)) ?_
    refine ax_i2l dX6_digest_160 ?_
    refine ax_ladd dX6_digest_161 ?_
    refine ax_lstore_n dX6_digest_162 (by decide) ?_
    refine ax_sub (lv' := [(0, .ref (ad (0, 0))), (1, .long ((D * (31 : Int64)) + ((nI σ.2.1.length).toInt64))), (3, .int (nI σ.1.2.2.2.length))]) (fun _ z => z) ?_
    refine ax_aload_n dX6_digest_163 rfl ?_
    refine ax_get (v := .ref (ad (1, v))) dX6_digest_164 fkX6_46 (cs_get hi (cs_k0 (by decide))) (congrArg (fun z => some (va_rf (cs_rf ad z))) hs1) ?_
    refine ax_ifnull dX6_digest_167 ?_
    refine ax_aload_n dX6_digest_170 rfl ?_
    refine ax_get (v := .ref (ad (0, 15))) dX6_digest_171 fkX6_35 (cs_get hi (cs_k0 (by decide))) rfl ?_
    refine ax_aload_n dX6_digest_174 rfl ?_
    refine ax_get (v := .ref (ad (1, v))) dX6_digest_175 fkX6_46 (cs_get hi (cs_k0 (by decide))) (congrArg (fun z => some (va_rf (cs_rf ad z))) hs1) ?_
    refine ax_callV (b := (ad (0, 15))) (av := [.ref (ad (1, v))]) (rest := []) (mc' := 0) (ms' := 0) dX6_digest_178 rfl lkX6_176 (cs_get hi (cs_k0 (by decide))) rfl (Nat.le_of_ble_eq_true rfl) (Nat.le_of_ble_eq_true rfl) (by decide) (by decide) (ch_write hi _ S h (st_fin_cod hC.1 hf (sp_tab_ty hC.1) he) (by omega) (by omega) (by omega) hl32 (Q := fun r h1 => r = .inl none ∧ ∃ S', h1 = cs_O ad S' h ∧ st_w 0 (sp_cd (po_T σ) v) (cs_setS S 11 0) S') (fun S' z => ⟨rfl, S', rfl, z⟩)) (fun E9 h9 q9 => by cases q9.1) (fun v9 h9 q9 => ?_)
    obtain ⟨e9, S1, rfl, o1⟩ := q9
    cases e9
    show AW G mX6_digest (d + 16) 1 6 _ 181 [(0, .ref (ad (0, 0))), (1, .long ((D * (31 : Int64)) + ((nI σ.2.1.length).toInt64))), (3, .int (nI σ.1.2.2.2.length))] [] (cs_O ad S1 h) 0 0
    refine ax_iconst (v := 0) dX6_digest_181 (by decide) ?_
    refine ax_istore_n dX6_digest_182 (by decide) ?_
    refine ax_sub (lv' := [(0, .ref (ad (0, 0))), (1, .long ((D * (31 : Int64)) + ((nI σ.2.1.length).toInt64))), (3, .int 0)]) (fun _ z => z) ?_
    refine dc_loop hi d S1 h (L := sp_cd (po_T σ) v) (by rw [o1.1, Nat.zero_add]) hl32 (fun i a z => ?_) (sp_cd (po_T σ) v).length 0 _ (by omega) ⟨rfl, S1, rfl, CI_wr hC o1⟩
    have := o1.2.2.2.2.2 i a z
    rw [Nat.zero_add] at this; exact this
end PUB4
