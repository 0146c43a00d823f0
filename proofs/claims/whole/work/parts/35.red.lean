/-! ===== reductions: the class's list ===== -/
theorem sp_nd_len : ∀ (n : Nat) (l : List Nat), l.Nodup → (∀ x ∈ l, x < n) → l.length ≤ n := by
  have hf : ∀ (a : Nat) (l : List Nat), l.Nodup → l.length ≤ (l.filter (fun x => decide (x ≠ a))).length + 1 := by
    intro a l
    induction l with
    | nil => intro _; simp
    | cons b l ih =>
      intro h
      rw [List.nodup_cons] at h
      by_cases hb : b = a
      · subst hb
        have : l.filter (fun x => decide (x ≠ b)) = l := by
          rw [List.filter_eq_self]
          intro x hx
          simp
          rintro rfl
          exact h.1 hx
        rw [List.filter_cons_of_neg (by simp), this]
        simp
      · rw [List.filter_cons_of_pos (by simp [hb])]
        have := ih h.2
        rw [List.length_cons, List.length_cons]; omega
  intro n
  induction n with
  | zero =>
    intro l _ h
    cases l with
    | nil => simp
    | cons a l => exact absurd (h a List.mem_cons_self) (by omega)
  | succ n ih =>
    intro l hn h
    have h1 := hf n l hn
    have h2 := ih (l.filter (fun x => decide (x ≠ n))) (hn.filter _) (fun x hx => by
      rw [List.mem_filter] at hx
      have := h x hx.1
      have : x ≠ n := by simpa using hx.2
      omega)
    omega
def st_rd (Rs : List Nat) (S : cs_S) : Prop := S.1 12 = nI Rs.length ∧ Rs.length ≤ 300 ∧ ∀ i w, Rs[i]? = some w → S.2.2.1 18 i = some w
def st_rs (S S' : cs_S) : Prop := (∀ i, i ≠ 12 → S'.1 i = S.1 i) ∧ S'.2.1 = S.2.1 ∧ (∀ i, i ≠ 18 → S'.2.2.1 i = S.2.2.1 i) ∧ S'.2.2.2 = S.2.2.2
theorem st_rs_rfl (S : cs_S) : st_rs S S := ⟨fun _ _ => rfl, rfl, fun _ _ => rfl, rfl⟩
theorem st_rs_tr {S1 S2 S3 : cs_S} (h1 : st_rs S1 S2) (h2 : st_rs S2 S3) : st_rs S1 S3 := ⟨fun i z => (h2.1 i z).trans (h1.1 i z), h2.2.1.trans h1.2.1, fun i z => (h2.2.2.1 i z).trans (h1.2.2.1 i z), h2.2.2.2.trans h1.2.2.2⟩
/-- the table's values in their cells, all that reading them needs -/
def st_vs (S : cs_S) (T : List sp_E) : Prop := ∀ v e, T[v]? = some e → sp_ok (cs_vf S v) (cs_vn S v) (cs_vp S v) e.1 e.2.1 e.2.2 ∧ cs_vf S v 1 = nI (sp_cnt (T.take v) e.1)
theorem st_vs_rs {S S' : cs_S} {T : List sp_E} (h : S'.2.2.2 = S.2.2.2) (hv : st_vs S T) : st_vs S' T := by
  intro v e he
  show sp_ok (S'.2.2.2.1 v) (S'.2.2.2.2.1 v) (S'.2.2.2.2.2.1 v) _ _ _ ∧ S'.2.2.2.1 v 1 = _
  rw [h]; exact hv v e he
def sp_rk (T : List sp_E) (v : Nat) : Nat := match T[v]? with
  | some e => sp_cnt (T.take v) e.1
  | none => 0
def sp_xo (T : List sp_E) (v : Nat) : List sp_X := match T[v]? with
  | some e => e.2.2
  | none => []
section RED
variable {G : ax_G} {ad : cs_K → Nat}
theorem ch_at (hi : cs_inj ad) (d : Nat) (S : cs_S) (h : ax_H) {Rs : List Nat} {j w : Nat} (hr : st_rd Rs S) (hj : Rs[j]? = some w) : AW G mX2_at d 0 0 (fun r h1 => r = .inl (some (.ref (ad (1, w)))) ∧ h1 = cs_O ad S h) 0 [(0, .ref (ad (0, 17))), (1, .int (nI j))] [] (cs_O ad S h) 0 0 := by
  have hks := cg_k2 (i := 17) (j := 18) (by decide) (by decide)
  have hjl := (List.getElem?_eq_some_iff.mp hj).1
  have hr2 := hr.2.1
  refine ax_eqh (cs_in hi (ks := [(0, 17), (0, 18)]) hks).symm ?_
  refine ax_mono (ctX2_at d (cs_O ad S h) (ad (0, 17)) (ad (0, 18)) (S.1 12) (nI j) (fun j => cs_rf ad (S.2.2.1 18 j)) (cs_nd hi hks (by simp))) ?_
  rintro r h1 ⟨e, rfl⟩
  refine ⟨e.trans ?_, cs_in hi hks⟩
  rw [if_neg (nI_pos (by omega)), hr.1, if_neg (il_nle Rs.length j hjl), if_neg (il_nle 300 j (by omega)), nI_clamp (by omega), hr.2.2 j w hj]
  rfl

set_option maxRecDepth 100000 in
set_option maxHeartbeats 4000000 in
theorem ch_rapp (hi : cs_inj ad) (d : Nat) (S : cs_S) (h : ax_H) {Rs : List Nat} {w : Nat} (hr : st_rd Rs S) (hl : Rs.length < 300) (hw : w < 312) {Q : ax_P} (hQ : ∀ S', st_rs S S' → st_rd (Rs ++ [w]) S' → Q (.inl none) (cs_O ad S' h)) : AW G mX2_append d 0 0 Q 0 [(0, .ref (ad (0, 17))), (1, .ref (ad (1, w)))] [] (cs_O ad S h) 0 0 := by
  refine ax_aload_n dX2_append_0 rfl ?_
  refine ax_get (v := .int (nI Rs.length)) dX2_append_1 fkX2_17 (cs_get hi (cs_k0 (by decide))) (congrArg (fun z => some (Value.int z)) (hr.1)) ?_
  refine ax_if_lt (tgt := 39) dX2_append_4 (by decide) (fun z => absurd z (nI_pos (by omega))) (fun _ => ?_)
  refine ax_aload_n dX2_append_7 rfl ?_
  refine ax_get (v := .int (nI Rs.length)) dX2_append_8 fkX2_17 (cs_get hi (cs_k0 (by decide))) (congrArg (fun z => some (Value.int z)) (hr.1)) ?_
  refine ax_aload_n dX2_append_11 rfl ?_
  refine ax_get (v := .ref (ad (0, 18))) dX2_append_12 fkX2_11 (cs_get hi (cs_k0 (by decide))) rfl ?_
  refine ax_alen (n := 300) dX2_append_15 (cs_get hi (cs_k0 (by decide))) (by decide) ?_
  refine ax_icmp_ge (tgt := 39) dX2_append_16 (by decide) (fun z => absurd z (il_nle 300 Rs.length hl)) (fun _ => ?_)
  refine ax_aload_n dX2_append_19 rfl ?_
  refine ax_get (v := .ref (ad (0, 18))) dX2_append_20 fkX2_11 (cs_get hi (cs_k0 (by decide))) rfl ?_
  refine ax_aload_n dX2_append_23 rfl ?_
  refine ax_get (v := .int (nI Rs.length)) dX2_append_24 fkX2_17 (cs_get hi (cs_k0 (by decide))) (congrArg (fun z => some (Value.int z)) (hr.1)) ?_
  refine ax_aload_n dX2_append_27 rfl ?_
  refine ax_aast3 dX2_append_28 (cs_get hi (cs_k0 (by decide))) (cs_get hi (cs_k1 hw)) (pk_in Rs.length 300 hl) ?_
  refine ax_eqh (cs_pr18' hi (g := (S.2.2.1 18)) (o := some w)) ?_
  refine ax_aload_n dX2_append_29 rfl ?_
  refine ax_dup dX2_append_30 rfl ?_
  refine ax_get (v := .int (nI Rs.length)) dX2_append_31 fkX2_17 (cs_get hi (cs_k0 (by decide))) (congrArg (fun z => some (Value.int z)) (hr.1)) ?_
  refine ax_iconst (v := 1) dX2_append_34 (by decide) ?_
  refine ax_iadd dX2_append_35 ?_
  refine ax_put dX2_append_36 fpX2_17 (cs_get hi (cs_k0 (by decide))) rfl rfl (Nat.le_of_ble_eq_true rfl) ?_
  refine ax_eqh (cs_ps12 hi) ?_
  refine ax_vret (st := []) dX2_append_39 rfl (hQ _ ⟨fun i z => pk_un z, rfl, fun i z => if_neg z, rfl⟩ ⟨?_, by rw [List.length_append]; simp; omega, fun i x hx => ?_⟩)
  · show nI Rs.length + 1 = _
    rw [nI_1, List.length_append, List.length_singleton]
  · show va_up (S.2.2.1 18) (nI Rs.length).toNatClampNeg (some w) i = _
    rw [nI_clamp (by omega)]
    by_cases hil : i < Rs.length
    · rw [List.getElem?_append_left hil] at hx
      have : ¬ i = Rs.length := by omega
      simp only [va_up, this, if_false]
      exact hr.2.2 i x hx
    · have h5 := (List.getElem?_eq_some_iff.mp hx).1
      simp at h5
      have : i = Rs.length := by omega
      subst this
      simp at hx
      subst hx
      simp [va_up]
set_option maxRecDepth 100000 in
set_option maxHeartbeats 4000000 in
theorem ha_turn (hi : cs_inj ad) (d : Nat) (S : cs_S) (h : ax_H) {Rs : List Nat} {j w x k : Nat} (hr : st_rd Rs S) (hj : Rs[j]? = some w) (hw : w < 312) (hk : cs_vf S w 1 = nI k) {Q : ax_P} (k1 : nI k = nI x → Q (.inl (some (.int 1))) (cs_O ad S h)) (k2 : ¬ nI k = nI x → AW G mX2_has (d + 1) 0 0 Q 2 [(0, .ref (ad (0, 17))), (1, .int (nI x)), (2, .int (nI (j + 1)))] [] (cs_O ad S h) 0 0) : AW G mX2_has (d + 1) 0 0 Q 2 [(0, .ref (ad (0, 17))), (1, .int (nI x)), (2, .int (nI j))] [] (cs_O ad S h) 0 0 := by
  have hjl := (List.getElem?_eq_some_iff.mp hj).1
  have hr2 := hr.2.1
  refine ax_iload_n dX2_has_2 rfl ?_
  refine ax_aload_n dX2_has_3 rfl ?_
  refine ax_get (v := .int (nI Rs.length)) dX2_has_4 fkX2_17 (cs_get hi (cs_k0 (by decide))) (congrArg (fun z => some (Value.int z)) (hr.1)) ?_
  refine ax_icmp_ge (tgt := 36) dX2_has_7 (by decide) (fun z => absurd z (il_nle Rs.length j hjl)) (fun _ => ?_)
  refine ax_aload_n dX2_has_10 rfl ?_
  refine ax_iload_n dX2_has_11 rfl ?_
  refine ax_callV (b := (ad (0, 17))) (av := [.int (nI j)]) (rest := []) (mc' := 0) (ms' := 0) dX2_has_12 rfl lkX2_21 (cs_get hi (cs_k0 (by decide))) rfl (Nat.le_of_ble_eq_true rfl) (Nat.le_of_ble_eq_true rfl) (Nat.le_refl 0) (Nat.le_refl 0) (ch_at hi _ S h hr hj) (fun E9 h9 q9 => by cases q9.1) (fun v9 h9 q9 => ?_)
  obtain ⟨e9, rfl⟩ := q9
  cases e9
  show AW G mX2_has (d + 1) 0 0 Q 15 [(0, .ref (ad (0, 17))), (1, .int (nI x)), (2, .int (nI j))] [.ref (ad (1, w))] (cs_O ad S h) 0 0
  refine ax_astore_n dX2_has_15 (by decide) ?_
  refine ax_sub (lv' := [(0, .ref (ad (0, 17))), (1, .int (nI x)), (2, .int (nI j)), (3, .ref (ad (1, w)))]) (fun _ z => z) ?_
  refine ax_aload_n dX2_has_16 rfl ?_
  refine ax_ifnull dX2_has_17 ?_
  refine ax_aload_n dX2_has_20 rfl ?_
  refine ax_get (v := .int (nI k)) dX2_has_21 fkX2_45 (cs_get hi (cs_k1 hw)) (congrArg (fun z => some (Value.int z)) (hk)) ?_
  refine ax_iload_n dX2_has_24 rfl ?_
  refine ax_icmp_ne (tgt := 30) dX2_has_25 (by decide) (fun c1 => ?_) (fun c1 => ?_)
  · refine ax_iinc (v := nI (j + 1)) dX2_has_30 rfl (nI_1 j) (by decide) ?_
    refine ax_sub (lv' := [(0, .ref (ad (0, 17))), (1, .int (nI x)), (2, .int (nI (j + 1))), (3, .ref (ad (1, w)))]) (fun _ z => z) ?_
    refine ax_goto (tgt := 2) dX2_has_33 (by decide) ?_
    exact ax_sub (lv' := [(0, .ref (ad (0, 17))), (1, .int (nI x)), (2, .int (nI (j + 1)))]) (fun _ hz => List.take_subset 3 _ hz) (k2 c1)
  · refine ax_iconst (v := 1) dX2_has_28 (by decide) ?_
    exact ax_iret (st := []) dX2_has_29 rfl rfl (k1 c1)
set_option maxRecDepth 100000 in
set_option maxHeartbeats 4000000 in
theorem ha_end (hi : cs_inj ad) (d : Nat) (S : cs_S) (h : ax_H) {Rs : List Nat} {x : Nat} (hr : st_rd Rs S) {Q : ax_P} (hq : Q (.inl (some (.int 0))) (cs_O ad S h)) : AW G mX2_has d 0 0 Q 2 [(0, .ref (ad (0, 17))), (1, .int (nI x)), (2, .int (nI Rs.length))] [] (cs_O ad S h) 0 0 := by
  have hr2 := hr.2.1
  refine ax_iload_n dX2_has_2 rfl ?_
  refine ax_aload_n dX2_has_3 rfl ?_
  refine ax_get (v := .int (nI Rs.length)) dX2_has_4 fkX2_17 (cs_get hi (cs_k0 (by decide))) (congrArg (fun z => some (Value.int z)) (hr.1)) ?_
  refine ax_icmp_ge (tgt := 36) dX2_has_7 (by decide) (fun _ => ?_) (fun z => absurd (il_le Rs.length Rs.length (Nat.le_refl _)) z)
  refine ax_iconst (v := 0) dX2_has_36 (by decide) ?_
  exact ax_iret (st := []) dX2_has_37 rfl rfl hq
theorem ch_has (hi : cs_inj ad) (d : Nat) (S : cs_S) (h : ax_H) {Rs : List Nat} {x : Nat} {T : List sp_E} (hr : st_rd Rs S) (hx : x < 300) (hT : sp_wT T) (hv : st_vs S T) (hR : ∀ w ∈ Rs, w < T.length) {Q : ax_P} (hQ : Q (.inl (some (.int (if Rs.any (fun w => decide (sp_rk T w = x)) then 1 else 0)))) (cs_O ad S h)) : AW G mX2_has (d + 1) 0 0 Q 0 [(0, .ref (ad (0, 17))), (1, .int (nI x))] [] (cs_O ad S h) 0 0 := by
  have loop : ∀ (i j : Nat), j + i = Rs.length → Q (.inl (some (.int (if (Rs.drop j).any (fun w => decide (sp_rk T w = x)) then 1 else 0)))) (cs_O ad S h) → AW G mX2_has (d + 1) 0 0 Q 2 [(0, .ref (ad (0, 17))), (1, .int (nI x)), (2, .int (nI j))] [] (cs_O ad S h) 0 0 := by
    intro i
    induction i with
    | zero =>
      intro j hj hQ
      have : j = Rs.length := by omega
      subst this
      rw [List.drop_length] at hQ
      exact ha_end hi (d + 1) S h hr hQ
    | succ i ih =>
      intro j hj hQ
      have hjl : j < Rs.length := by omega
      have hwl := hR _ (List.getElem_mem hjl)
      have he : T[Rs[j]]? = some (T[Rs[j]]) := List.getElem?_eq_getElem hwl
      have hrk : sp_rk T Rs[j] = sp_cnt (T.take Rs[j]) (T[Rs[j]]).1 := by unfold sp_rk; rw [he]
      have hT1 := hT.1
      have hrl : sp_rk T Rs[j] < 300 := by
        rw [hrk]
        have := sp_cnt_le (T.take Rs[j]) (T[Rs[j]]).1
        rw [List.length_take] at this
        omega
      rw [List.drop_eq_getElem_cons hjl, List.any_cons] at hQ
      refine ha_turn (k := sp_rk T Rs[j]) hi d S h hr (List.getElem?_eq_getElem hjl) (by omega) ((hv _ _ he).2.trans (by rw [hrk])) (fun hk => ?_) (fun hk => ?_)
      · rw [nI_eq (by omega) (by omega)] at hk
        rw [decide_eq_true hk, Bool.true_or, if_pos rfl] at hQ
        exact hQ
      · rw [nI_eq (by omega) (by omega)] at hk
        rw [decide_eq_false hk, Bool.false_or] at hQ
        exact ih (j + 1) (by omega) hQ
  refine ax_iconst (v := 0) dX2_has_0 (by decide) ?_
  refine ax_istore_n dX2_has_1 (by decide) ?_
  refine ax_sub (lv' := [(0, .ref (ad (0, 17))), (1, .int (nI x)), (2, .int 0)]) (fun _ z => z) ?_
  exact loop Rs.length 0 (by omega) hQ
set_option maxRecDepth 100000 in
set_option maxHeartbeats 4000000 in
theorem fu_turn (hi : cs_inj ad) (d : Nat) (S : cs_S) (h : ax_H) {Rs : List Nat} {j w x t c : Nat} {xs : List sp_X} (hr : st_rd Rs S) (hj : Rs[j]? = some w) (hw : w < 312) (hx5 : x ≤ 5) (hok : sp_ok (cs_vf S w) (cs_vn S w) (cs_vp S w) t c xs) (hgx : sp_g xs) {Q : ax_P} (k1 : sp_cond x xs = false → Q (.inl (some (.ref (ad (1, w))))) (cs_O ad S h)) (k2 : sp_cond x xs = true → AW G mX2_firstUnfit (d + 2) 0 0 Q 2 [(0, .ref (ad (0, 17))), (1, .int (nI x)), (2, .int (nI (j + 1)))] [] (cs_O ad S h) 0 0) : AW G mX2_firstUnfit (d + 2) 0 0 Q 2 [(0, .ref (ad (0, 17))), (1, .int (nI x)), (2, .int (nI j))] [] (cs_O ad S h) 0 0 := by
  have hjl := (List.getElem?_eq_some_iff.mp hj).1
  have hr2 := hr.2.1
  refine ax_iload_n dX2_firstUnfit_2 rfl ?_
  refine ax_aload_n dX2_firstUnfit_3 rfl ?_
  refine ax_get (v := .int (nI Rs.length)) dX2_firstUnfit_4 fkX2_17 (cs_get hi (cs_k0 (by decide))) (congrArg (fun z => some (Value.int z)) (hr.1)) ?_
  refine ax_icmp_ge (tgt := 36) dX2_firstUnfit_7 (by decide) (fun z => absurd z (il_nle Rs.length j hjl)) (fun _ => ?_)
  refine ax_aload_n dX2_firstUnfit_10 rfl ?_
  refine ax_iload_n dX2_firstUnfit_11 rfl ?_
  refine ax_callV (b := (ad (0, 17))) (av := [.int (nI j)]) (rest := []) (mc' := 0) (ms' := 0) dX2_firstUnfit_12 rfl lkX2_21 (cs_get hi (cs_k0 (by decide))) rfl (Nat.le_of_ble_eq_true rfl) (Nat.le_of_ble_eq_true rfl) (Nat.le_refl 0) (Nat.le_refl 0) (ch_at hi _ S h hr hj) (fun E9 h9 q9 => by cases q9.1) (fun v9 h9 q9 => ?_)
  obtain ⟨e9, rfl⟩ := q9
  cases e9
  show AW G mX2_firstUnfit (d + 2) 0 0 Q 15 [(0, .ref (ad (0, 17))), (1, .int (nI x)), (2, .int (nI j))] [.ref (ad (1, w))] (cs_O ad S h) 0 0
  refine ax_astore_n dX2_firstUnfit_15 (by decide) ?_
  refine ax_sub (lv' := [(0, .ref (ad (0, 17))), (1, .int (nI x)), (2, .int (nI j)), (3, .ref (ad (1, w)))]) (fun _ z => z) ?_
  refine ax_aload_n dX2_firstUnfit_16 rfl ?_
  refine ax_ifnull dX2_firstUnfit_17 ?_
  refine ax_aload_n dX2_firstUnfit_20 rfl ?_
  refine ax_iload_n dX2_firstUnfit_21 rfl ?_
  refine ax_callV (b := (ad (1, w))) (av := [.int (nI x)]) (rest := []) (mc' := 0) (ms' := 0) dX2_firstUnfit_22 rfl lkX2_25 (cs_get hi (cs_k1 hw)) rfl (Nat.le_of_ble_eq_true rfl) (Nat.le_of_ble_eq_true rfl) (Nat.le_refl 0) (Nat.le_refl 0) (ch_fits hi _ S h hw hok hgx hx5) (fun E9 h9 q9 => by cases q9.1) (fun v9 h9 q9 => ?_)
  obtain ⟨e9, rfl⟩ := q9
  cases e9
  show AW G mX2_firstUnfit (d + 2) 0 0 Q 25 [(0, .ref (ad (0, 17))), (1, .int (nI x)), (2, .int (nI j)), (3, .ref (ad (1, w)))] [.int (if sp_cond x xs then 1 else 0)] (cs_O ad S h) 0 0
  refine ax_if_ne (tgt := 30) dX2_firstUnfit_25 (by decide) (fun c1 => ?_) (fun c1 => ?_)
  · refine ax_iinc (v := nI (j + 1)) dX2_firstUnfit_30 rfl (nI_1 j) (by decide) ?_
    refine ax_sub (lv' := [(0, .ref (ad (0, 17))), (1, .int (nI x)), (2, .int (nI (j + 1))), (3, .ref (ad (1, w)))]) (fun _ z => z) ?_
    refine ax_goto (tgt := 2) dX2_firstUnfit_33 (by decide) ?_
    exact ax_sub (lv' := [(0, .ref (ad (0, 17))), (1, .int (nI x)), (2, .int (nI (j + 1)))]) (fun _ hz => List.take_subset 3 _ hz) (k2 (by simpa using c1))
  · refine ax_aload_n dX2_firstUnfit_28 rfl ?_
    exact ax_aret (st := []) dX2_firstUnfit_29 rfl (Or.inl ⟨_, rfl⟩) (Or.inr ⟨_, rfl⟩) (k1 (by simpa using c1))
set_option maxRecDepth 100000 in
set_option maxHeartbeats 4000000 in
theorem fu_end (hi : cs_inj ad) (d : Nat) (S : cs_S) (h : ax_H) {Rs : List Nat} {x : Nat} (hr : st_rd Rs S) {Q : ax_P} (hq : Q (.inl (some .null)) (cs_O ad S h)) : AW G mX2_firstUnfit d 0 0 Q 2 [(0, .ref (ad (0, 17))), (1, .int (nI x)), (2, .int (nI Rs.length))] [] (cs_O ad S h) 0 0 := by
  have hr2 := hr.2.1
  refine ax_iload_n dX2_firstUnfit_2 rfl ?_
  refine ax_aload_n dX2_firstUnfit_3 rfl ?_
  refine ax_get (v := .int (nI Rs.length)) dX2_firstUnfit_4 fkX2_17 (cs_get hi (cs_k0 (by decide))) (congrArg (fun z => some (Value.int z)) (hr.1)) ?_
  refine ax_icmp_ge (tgt := 36) dX2_firstUnfit_7 (by decide) (fun _ => ?_) (fun z => absurd (il_le Rs.length Rs.length (Nat.le_refl _)) z)
  refine ax_null dX2_firstUnfit_36 ?_
  exact ax_aret (st := []) dX2_firstUnfit_37 rfl (Or.inl ⟨_, rfl⟩) (Or.inl rfl) hq
theorem ch_firstUnfit (hi : cs_inj ad) (d : Nat) (S : cs_S) (h : ax_H) {Rs : List Nat} {x : Nat} {T : List sp_E} (hr : st_rd Rs S) (hx5 : x ≤ 5) (hT : sp_wT T) (hv : st_vs S T) (hR : ∀ w ∈ Rs, w < T.length) {Q : ax_P} (hQ : Q (.inl (some (va_rf (cs_rf ad (Rs.find? (fun w => !(sp_cond x (sp_xo T w)))))))) (cs_O ad S h)) : AW G mX2_firstUnfit (d + 2) 0 0 Q 0 [(0, .ref (ad (0, 17))), (1, .int (nI x))] [] (cs_O ad S h) 0 0 := by
  have loop : ∀ (i j : Nat), j + i = Rs.length → Q (.inl (some (va_rf (cs_rf ad ((Rs.drop j).find? (fun w => !(sp_cond x (sp_xo T w)))))))) (cs_O ad S h) → AW G mX2_firstUnfit (d + 2) 0 0 Q 2 [(0, .ref (ad (0, 17))), (1, .int (nI x)), (2, .int (nI j))] [] (cs_O ad S h) 0 0 := by
    intro i
    induction i with
    | zero =>
      intro j hj hQ
      have : j = Rs.length := by omega
      subst this
      rw [List.drop_length] at hQ
      exact fu_end hi (d + 2) S h hr hQ
    | succ i ih =>
      intro j hj hQ
      have hjl : j < Rs.length := by omega
      have hwl := hR _ (List.getElem_mem hjl)
      have he : T[Rs[j]]? = some (T[Rs[j]]) := List.getElem?_eq_getElem hwl
      have hxo : sp_xo T Rs[j] = (T[Rs[j]]).2.2 := by unfold sp_xo; rw [he]
      have hT1 := hT.1
      rw [List.drop_eq_getElem_cons hjl, List.find?_cons] at hQ
      refine fu_turn hi d S h hr (List.getElem?_eq_getElem hjl) (by omega) hx5 (hv _ _ he).1 (sp_wT_g hT he) (fun hk => ?_) (fun hk => ?_)
      · rw [hxo, hk] at hQ
        exact hQ
      · rw [hxo, hk] at hQ
        exact ih (j + 1) (by omega) hQ
  refine ax_iconst (v := 0) dX2_firstUnfit_0 (by decide) ?_
  refine ax_istore_n dX2_firstUnfit_1 (by decide) ?_
  refine ax_sub (lv' := [(0, .ref (ad (0, 17))), (1, .int (nI x)), (2, .int 0)]) (fun _ z => z) ?_
  exact loop Rs.length 0 (by omega) hQ
set_option maxRecDepth 100000 in
set_option maxHeartbeats 4000000 in
theorem ap_none (hi : cs_inj ad) (d : Nat) (S : cs_S) (h : ax_H) {v t dp j mm : Nat} (hv : v < 312) (h3 : cs_vf S v 3 = nI mm) (hm3 : mm ≤ 3) (hj : j < 3) (hdp : dp ≤ 8) {Q : ax_P} (hN : j < mm → cs_vp S v j = none) (k : AW G mX2_addPartsOf (d + 1) 0 0 Q 3 [(0, .ref (ad (0, 17))), (1, .ref (ad (1, v))), (2, .int (nI t)), (3, .int (nI dp)), (4, .int (nI (j + 1)))] [] (cs_O ad S h) 0 0) : AW G mX2_addPartsOf (d + 1) 0 0 Q 3 [(0, .ref (ad (0, 17))), (1, .ref (ad (1, v))), (2, .int (nI t)), (3, .int (nI dp)), (4, .int (nI j))] [] (cs_O ad S h) 0 0 := by
  refine ax_iload dX2_addPartsOf_3 rfl ?_
  refine ax_iconst (v := 3) dX2_addPartsOf_5 (by decide) ?_
  refine ax_icmp_ge (tgt := 71) dX2_addPartsOf_6 (by decide) (fun z => absurd z (il_nle 3 j hj)) (fun _ => ?_)
  refine ax_iload_n dX2_addPartsOf_9 rfl ?_
  refine ax_bipush (v := 8) dX2_addPartsOf_10 (by decide) ?_
  refine ax_icmp_gt (tgt := 71) dX2_addPartsOf_12 (by decide) (fun z => absurd z (il_nlt 8 dp hdp)) (fun _ => ?_)
  refine ax_aload_n dX2_addPartsOf_15 rfl ?_
  refine ax_iload dX2_addPartsOf_16 rfl ?_
  refine ax_callV (b := (ad (1, v))) (av := [.int (nI j)]) (rest := []) (mc' := 0) (ms' := 0) dX2_addPartsOf_18 rfl lkX2_60 (cs_get hi (cs_k1 hv)) rfl (Nat.le_of_ble_eq_true rfl) (Nat.le_of_ble_eq_true rfl) (Nat.le_refl 0) (Nat.le_refl 0) (cv_partN hi _ S h hv h3 hm3 (by omega) hN) (fun E9 h9 q9 => by cases q9.1) (fun v9 h9 q9 => ?_)
  obtain ⟨e9, rfl⟩ := q9
  cases e9
  show AW G mX2_addPartsOf (d + 1) 0 0 Q 21 [(0, .ref (ad (0, 17))), (1, .ref (ad (1, v))), (2, .int (nI t)), (3, .int (nI dp)), (4, .int (nI j))] [.null] (cs_O ad S h) 0 0
  refine ax_astoreN dX2_addPartsOf_21 (by decide) ?_
  refine ax_sub (lv' := [(0, .ref (ad (0, 17))), (1, .ref (ad (1, v))), (2, .int (nI t)), (3, .int (nI dp)), (4, .int (nI j)), (5, .null)]) (fun _ z => z) ?_
  refine ax_aloadN dX2_addPartsOf_23 rfl ?_
  refine ax_ifnullN (tgt := 65) dX2_addPartsOf_25 (by decide) ?_
  refine ax_iinc (v := nI (j + 1)) dX2_addPartsOf_65 rfl (nI_1 j) (by decide) ?_
  refine ax_sub (lv' := [(0, .ref (ad (0, 17))), (1, .ref (ad (1, v))), (2, .int (nI t)), (3, .int (nI dp)), (4, .int (nI (j + 1))), (5, .null)]) (fun _ z => z) ?_
  refine ax_goto (tgt := 3) dX2_addPartsOf_68 (by decide) ?_
  exact ax_sub (lv' := [(0, .ref (ad (0, 17))), (1, .ref (ad (1, v))), (2, .int (nI t)), (3, .int (nI dp)), (4, .int (nI (j + 1)))]) (fun _ hz => List.take_subset 5 _ hz) k
set_option maxRecDepth 100000 in
set_option maxHeartbeats 4000000 in
theorem ap_A (hi : cs_inj ad) (d : Nat) (S : cs_S) (h : ax_H) {v t dp j mm : Nat} (hv : v < 312) (h3 : cs_vf S v 3 = nI mm) (hm3 : mm ≤ 3) (hj : j < 3) (hdp : dp ≤ 8) {Q : ax_P} {w u k : Nat} {hb : Int32} {Rs : List Nat} {R9 : cs_S → Prop} (hjm : j < mm) (hw : w < 312) (hvp : cs_vp S v j = some w) (h0 : cs_vf S w 0 = nI u) (hu : u < 4) (ht : t < 4) (hk : cs_vf S w 1 = nI k) (hr : st_rd Rs S) (hut : u = t) (hhas : AW G mX2_has d 0 0 (fun r h1 => r = .inl (some (.int hb)) ∧ h1 = cs_O ad S h) 0 [(0, .ref (ad (0, 17))), (1, .int (nI k))] [] (cs_O ad S h) 0 0) (hb0 : hb = 0) (hl : Rs.length < 300) (IH : ∀ S1, st_rs S S1 → st_rd (Rs ++ [w]) S1 → AW G mX2_addPartsOf d 0 0 (fun r h1 => r = .inl none ∧ ∃ S2, h1 = cs_O ad S2 h ∧ R9 S2) 0 [(0, .ref (ad (0, 17))), (1, .ref (ad (1, w))), (2, .int (nI t)), (3, .int (nI (dp + 1)))] [] (cs_O ad S1 h) 0 0) (k9 : ∀ S2, R9 S2 → AW G mX2_addPartsOf (d + 1) 0 0 Q 3 [(0, .ref (ad (0, 17))), (1, .ref (ad (1, v))), (2, .int (nI t)), (3, .int (nI dp)), (4, .int (nI (j + 1)))] [] (cs_O ad S2 h) 0 0) : AW G mX2_addPartsOf (d + 1) 0 0 Q 3 [(0, .ref (ad (0, 17))), (1, .ref (ad (1, v))), (2, .int (nI t)), (3, .int (nI dp)), (4, .int (nI j))] [] (cs_O ad S h) 0 0 := by
  refine ax_iload dX2_addPartsOf_3 rfl ?_
  refine ax_iconst (v := 3) dX2_addPartsOf_5 (by decide) ?_
  refine ax_icmp_ge (tgt := 71) dX2_addPartsOf_6 (by decide) (fun z => absurd z (il_nle 3 j hj)) (fun _ => ?_)
  refine ax_iload_n dX2_addPartsOf_9 rfl ?_
  refine ax_bipush (v := 8) dX2_addPartsOf_10 (by decide) ?_
  refine ax_icmp_gt (tgt := 71) dX2_addPartsOf_12 (by decide) (fun z => absurd z (il_nlt 8 dp hdp)) (fun _ => ?_)
  refine ax_aload_n dX2_addPartsOf_15 rfl ?_
  refine ax_iload dX2_addPartsOf_16 rfl ?_
  refine ax_callV (b := (ad (1, v))) (av := [.int (nI j)]) (rest := []) (mc' := 0) (ms' := 0) dX2_addPartsOf_18 rfl lkX2_60 (cs_get hi (cs_k1 hv)) rfl (Nat.le_of_ble_eq_true rfl) (Nat.le_of_ble_eq_true rfl) (Nat.le_refl 0) (Nat.le_refl 0) (cv_partS hi _ S h hv h3 hm3 hjm hvp) (fun E9 h9 q9 => by cases q9.1) (fun v9 h9 q9 => ?_)
  obtain ⟨e9, rfl⟩ := q9
  cases e9
  show AW G mX2_addPartsOf (d + 1) 0 0 Q 21 [(0, .ref (ad (0, 17))), (1, .ref (ad (1, v))), (2, .int (nI t)), (3, .int (nI dp)), (4, .int (nI j))] [.ref (ad (1, w))] (cs_O ad S h) 0 0
  refine ax_astore dX2_addPartsOf_21 (by decide) ?_
  refine ax_sub (lv' := [(0, .ref (ad (0, 17))), (1, .ref (ad (1, v))), (2, .int (nI t)), (3, .int (nI dp)), (4, .int (nI j)), (5, .ref (ad (1, w)))]) (fun _ z => z) ?_
  refine ax_aload dX2_addPartsOf_23 rfl ?_
  refine ax_ifnull dX2_addPartsOf_25 ?_
  refine ax_aload dX2_addPartsOf_28 rfl ?_
  refine ax_get (v := .int (nI u)) dX2_addPartsOf_30 fkX2_29 (cs_get hi (cs_k1 hw)) (congrArg (fun z => some (Value.int z)) (h0)) ?_
  refine ax_iload_n dX2_addPartsOf_33 rfl ?_
  refine ax_icmp_ne (tgt := 55) dX2_addPartsOf_34 (by decide) (fun z => absurd (by rw [hut]) z) (fun _ => ?_)
  refine ax_aload_n dX2_addPartsOf_37 rfl ?_
  refine ax_aload dX2_addPartsOf_38 rfl ?_
  refine ax_get (v := .int (nI k)) dX2_addPartsOf_40 fkX2_45 (cs_get hi (cs_k1 hw)) (congrArg (fun z => some (Value.int z)) (hk)) ?_
  refine ax_callV (b := (ad (0, 17))) (av := [.int (nI k)]) (rest := []) (mc' := 0) (ms' := 0) dX2_addPartsOf_43 rfl lkX2_63 (cs_get hi (cs_k0 (by decide))) rfl (Nat.le_of_ble_eq_true rfl) (Nat.le_of_ble_eq_true rfl) (Nat.le_refl 0) (Nat.le_refl 0) (hhas) (fun E9 h9 q9 => by cases q9.1) (fun v9 h9 q9 => ?_)
  obtain ⟨e9, rfl⟩ := q9
  cases e9
  show AW G mX2_addPartsOf (d + 1) 0 0 Q 46 [(0, .ref (ad (0, 17))), (1, .ref (ad (1, v))), (2, .int (nI t)), (3, .int (nI dp)), (4, .int (nI j)), (5, .ref (ad (1, w)))] [.int hb] (cs_O ad S h) 0 0
  refine ax_if_ne (tgt := 55) dX2_addPartsOf_46 (by decide) (fun z => absurd hb0 z) (fun _ => ?_)
  refine ax_aload_n dX2_addPartsOf_49 rfl ?_
  refine ax_aload dX2_addPartsOf_50 rfl ?_
  refine ax_callV (b := (ad (0, 17))) (av := [.ref (ad (1, w))]) (rest := []) (mc' := 0) (ms' := 0) dX2_addPartsOf_52 rfl lkX2_56 (cs_get hi (cs_k0 (by decide))) rfl (Nat.le_of_ble_eq_true rfl) (Nat.le_of_ble_eq_true rfl) (Nat.le_refl 0) (Nat.le_refl 0) (ch_rapp hi _ S h hr hl hw (Q := fun r h1 => r = .inl none ∧ ∃ S', h1 = cs_O ad S' h ∧ st_rs S S' ∧ st_rd (Rs ++ [w]) S') (fun S' a b => ⟨rfl, S', rfl, a, b⟩)) (fun E9 h9 q9 => by cases q9.1) (fun v9 h9 q9 => ?_)
  obtain ⟨e9, S1, rfl, o1, o2⟩ := q9
  cases e9
  show AW G mX2_addPartsOf (d + 1) 0 0 Q 55 [(0, .ref (ad (0, 17))), (1, .ref (ad (1, v))), (2, .int (nI t)), (3, .int (nI dp)), (4, .int (nI j)), (5, .ref (ad (1, w)))] [] (cs_O ad S1 h) 0 0
  refine ax_aload_n dX2_addPartsOf_55 rfl ?_
  refine ax_aload dX2_addPartsOf_56 rfl ?_
  refine ax_iload_n dX2_addPartsOf_58 rfl ?_
  refine ax_iload_n dX2_addPartsOf_59 rfl ?_
  refine ax_iconst (v := 1) dX2_addPartsOf_60 (by decide) ?_
  refine ax_iadd dX2_addPartsOf_61 ?_
  refine ax_top (y := (nI (dp + 1))) (nI_1 dp) ?_
  refine ax_callV (b := (ad (0, 17))) (av := [.ref (ad (1, w)), .int (nI t), .int (nI (dp + 1))]) (rest := []) (mc' := 0) (ms' := 0) dX2_addPartsOf_62 rfl lkX2_32 (cs_get hi (cs_k0 (by decide))) rfl (Nat.le_of_ble_eq_true rfl) (Nat.le_of_ble_eq_true rfl) (Nat.le_refl 0) (Nat.le_refl 0) (IH S1 o1 o2) (fun E9 h9 q9 => by cases q9.1) (fun v9 h9 q9 => ?_)
  obtain ⟨e9, S2, rfl, o3⟩ := q9
  cases e9
  show AW G mX2_addPartsOf (d + 1) 0 0 Q 65 [(0, .ref (ad (0, 17))), (1, .ref (ad (1, v))), (2, .int (nI t)), (3, .int (nI dp)), (4, .int (nI j)), (5, .ref (ad (1, w)))] [] (cs_O ad S2 h) 0 0
  refine ax_iinc (v := nI (j + 1)) dX2_addPartsOf_65 rfl (nI_1 j) (by decide) ?_
  refine ax_sub (lv' := [(0, .ref (ad (0, 17))), (1, .ref (ad (1, v))), (2, .int (nI t)), (3, .int (nI dp)), (4, .int (nI (j + 1))), (5, .ref (ad (1, w)))]) (fun _ z => z) ?_
  refine ax_goto (tgt := 3) dX2_addPartsOf_68 (by decide) ?_
  exact ax_sub (lv' := [(0, .ref (ad (0, 17))), (1, .ref (ad (1, v))), (2, .int (nI t)), (3, .int (nI dp)), (4, .int (nI (j + 1)))]) (fun _ hz => List.take_subset 5 _ hz) (k9 S2 o3)
set_option maxRecDepth 100000 in
set_option maxHeartbeats 4000000 in
theorem ap_B (hi : cs_inj ad) (d : Nat) (S : cs_S) (h : ax_H) {v t dp j mm : Nat} (hv : v < 312) (h3 : cs_vf S v 3 = nI mm) (hm3 : mm ≤ 3) (hj : j < 3) (hdp : dp ≤ 8) {Q : ax_P} {w u k : Nat} {hb : Int32} {Rs : List Nat} {R9 : cs_S → Prop} (hjm : j < mm) (hw : w < 312) (hvp : cs_vp S v j = some w) (h0 : cs_vf S w 0 = nI u) (hu : u < 4) (ht : t < 4) (hk : cs_vf S w 1 = nI k) (hr : st_rd Rs S) (hut : u = t) (hhas : AW G mX2_has d 0 0 (fun r h1 => r = .inl (some (.int hb)) ∧ h1 = cs_O ad S h) 0 [(0, .ref (ad (0, 17))), (1, .int (nI k))] [] (cs_O ad S h) 0 0) (hb0 : ¬ hb = 0) (IH : AW G mX2_addPartsOf d 0 0 (fun r h1 => r = .inl none ∧ ∃ S2, h1 = cs_O ad S2 h ∧ R9 S2) 0 [(0, .ref (ad (0, 17))), (1, .ref (ad (1, w))), (2, .int (nI t)), (3, .int (nI (dp + 1)))] [] (cs_O ad S h) 0 0) (k9 : ∀ S2, R9 S2 → AW G mX2_addPartsOf (d + 1) 0 0 Q 3 [(0, .ref (ad (0, 17))), (1, .ref (ad (1, v))), (2, .int (nI t)), (3, .int (nI dp)), (4, .int (nI (j + 1)))] [] (cs_O ad S2 h) 0 0) : AW G mX2_addPartsOf (d + 1) 0 0 Q 3 [(0, .ref (ad (0, 17))), (1, .ref (ad (1, v))), (2, .int (nI t)), (3, .int (nI dp)), (4, .int (nI j))] [] (cs_O ad S h) 0 0 := by
  refine ax_iload dX2_addPartsOf_3 rfl ?_
  refine ax_iconst (v := 3) dX2_addPartsOf_5 (by decide) ?_
  refine ax_icmp_ge (tgt := 71) dX2_addPartsOf_6 (by decide) (fun z => absurd z (il_nle 3 j hj)) (fun _ => ?_)
  refine ax_iload_n dX2_addPartsOf_9 rfl ?_
  refine ax_bipush (v := 8) dX2_addPartsOf_10 (by decide) ?_
  refine ax_icmp_gt (tgt := 71) dX2_addPartsOf_12 (by decide) (fun z => absurd z (il_nlt 8 dp hdp)) (fun _ => ?_)
  refine ax_aload_n dX2_addPartsOf_15 rfl ?_
  refine ax_iload dX2_addPartsOf_16 rfl ?_
  refine ax_callV (b := (ad (1, v))) (av := [.int (nI j)]) (rest := []) (mc' := 0) (ms' := 0) dX2_addPartsOf_18 rfl lkX2_60 (cs_get hi (cs_k1 hv)) rfl (Nat.le_of_ble_eq_true rfl) (Nat.le_of_ble_eq_true rfl) (Nat.le_refl 0) (Nat.le_refl 0) (cv_partS hi _ S h hv h3 hm3 hjm hvp) (fun E9 h9 q9 => by cases q9.1) (fun v9 h9 q9 => ?_)
  obtain ⟨e9, rfl⟩ := q9
  cases e9
  show AW G mX2_addPartsOf (d + 1) 0 0 Q 21 [(0, .ref (ad (0, 17))), (1, .ref (ad (1, v))), (2, .int (nI t)), (3, .int (nI dp)), (4, .int (nI j))] [.ref (ad (1, w))] (cs_O ad S h) 0 0
  refine ax_astore dX2_addPartsOf_21 (by decide) ?_
  refine ax_sub (lv' := [(0, .ref (ad (0, 17))), (1, .ref (ad (1, v))), (2, .int (nI t)), (3, .int (nI dp)), (4, .int (nI j)), (5, .ref (ad (1, w)))]) (fun _ z => z) ?_
  refine ax_aload dX2_addPartsOf_23 rfl ?_
  refine ax_ifnull dX2_addPartsOf_25 ?_
  refine ax_aload dX2_addPartsOf_28 rfl ?_
  refine ax_get (v := .int (nI u)) dX2_addPartsOf_30 fkX2_29 (cs_get hi (cs_k1 hw)) (congrArg (fun z => some (Value.int z)) (h0)) ?_
  refine ax_iload_n dX2_addPartsOf_33 rfl ?_
  refine ax_icmp_ne (tgt := 55) dX2_addPartsOf_34 (by decide) (fun z => absurd (by rw [hut]) z) (fun _ => ?_)
  refine ax_aload_n dX2_addPartsOf_37 rfl ?_
  refine ax_aload dX2_addPartsOf_38 rfl ?_
  refine ax_get (v := .int (nI k)) dX2_addPartsOf_40 fkX2_45 (cs_get hi (cs_k1 hw)) (congrArg (fun z => some (Value.int z)) (hk)) ?_
  refine ax_callV (b := (ad (0, 17))) (av := [.int (nI k)]) (rest := []) (mc' := 0) (ms' := 0) dX2_addPartsOf_43 rfl lkX2_63 (cs_get hi (cs_k0 (by decide))) rfl (Nat.le_of_ble_eq_true rfl) (Nat.le_of_ble_eq_true rfl) (Nat.le_refl 0) (Nat.le_refl 0) (hhas) (fun E9 h9 q9 => by cases q9.1) (fun v9 h9 q9 => ?_)
  obtain ⟨e9, rfl⟩ := q9
  cases e9
  show AW G mX2_addPartsOf (d + 1) 0 0 Q 46 [(0, .ref (ad (0, 17))), (1, .ref (ad (1, v))), (2, .int (nI t)), (3, .int (nI dp)), (4, .int (nI j)), (5, .ref (ad (1, w)))] [.int hb] (cs_O ad S h) 0 0
  refine ax_if_ne (tgt := 55) dX2_addPartsOf_46 (by decide) (fun _ => ?_) (fun z => absurd z hb0)
  refine ax_aload_n dX2_addPartsOf_55 rfl ?_
  refine ax_aload dX2_addPartsOf_56 rfl ?_
  refine ax_iload_n dX2_addPartsOf_58 rfl ?_
  refine ax_iload_n dX2_addPartsOf_59 rfl ?_
  refine ax_iconst (v := 1) dX2_addPartsOf_60 (by decide) ?_
  refine ax_iadd dX2_addPartsOf_61 ?_
  refine ax_top (y := (nI (dp + 1))) (nI_1 dp) ?_
  refine ax_callV (b := (ad (0, 17))) (av := [.ref (ad (1, w)), .int (nI t), .int (nI (dp + 1))]) (rest := []) (mc' := 0) (ms' := 0) dX2_addPartsOf_62 rfl lkX2_32 (cs_get hi (cs_k0 (by decide))) rfl (Nat.le_of_ble_eq_true rfl) (Nat.le_of_ble_eq_true rfl) (Nat.le_refl 0) (Nat.le_refl 0) (IH) (fun E9 h9 q9 => by cases q9.1) (fun v9 h9 q9 => ?_)
  obtain ⟨e9, S2, rfl, o3⟩ := q9
  cases e9
  show AW G mX2_addPartsOf (d + 1) 0 0 Q 65 [(0, .ref (ad (0, 17))), (1, .ref (ad (1, v))), (2, .int (nI t)), (3, .int (nI dp)), (4, .int (nI j)), (5, .ref (ad (1, w)))] [] (cs_O ad S2 h) 0 0
  refine ax_iinc (v := nI (j + 1)) dX2_addPartsOf_65 rfl (nI_1 j) (by decide) ?_
  refine ax_sub (lv' := [(0, .ref (ad (0, 17))), (1, .ref (ad (1, v))), (2, .int (nI t)), (3, .int (nI dp)), (4, .int (nI (j + 1))), (5, .ref (ad (1, w)))]) (fun _ z => z) ?_
  refine ax_goto (tgt := 3) dX2_addPartsOf_68 (by decide) ?_
  exact ax_sub (lv' := [(0, .ref (ad (0, 17))), (1, .ref (ad (1, v))), (2, .int (nI t)), (3, .int (nI dp)), (4, .int (nI (j + 1)))]) (fun _ hz => List.take_subset 5 _ hz) (k9 S2 o3)
set_option maxRecDepth 100000 in
set_option maxHeartbeats 4000000 in
theorem ap_C (hi : cs_inj ad) (d : Nat) (S : cs_S) (h : ax_H) {v t dp j mm : Nat} (hv : v < 312) (h3 : cs_vf S v 3 = nI mm) (hm3 : mm ≤ 3) (hj : j < 3) (hdp : dp ≤ 8) {Q : ax_P} {w u k : Nat} {hb : Int32} {Rs : List Nat} {R9 : cs_S → Prop} (hjm : j < mm) (hw : w < 312) (hvp : cs_vp S v j = some w) (h0 : cs_vf S w 0 = nI u) (hu : u < 4) (ht : t < 4) (hk : cs_vf S w 1 = nI k) (hr : st_rd Rs S) (hut : u ≠ t) (IH : AW G mX2_addPartsOf d 0 0 (fun r h1 => r = .inl none ∧ ∃ S2, h1 = cs_O ad S2 h ∧ R9 S2) 0 [(0, .ref (ad (0, 17))), (1, .ref (ad (1, w))), (2, .int (nI t)), (3, .int (nI (dp + 1)))] [] (cs_O ad S h) 0 0) (k9 : ∀ S2, R9 S2 → AW G mX2_addPartsOf (d + 1) 0 0 Q 3 [(0, .ref (ad (0, 17))), (1, .ref (ad (1, v))), (2, .int (nI t)), (3, .int (nI dp)), (4, .int (nI (j + 1)))] [] (cs_O ad S2 h) 0 0) : AW G mX2_addPartsOf (d + 1) 0 0 Q 3 [(0, .ref (ad (0, 17))), (1, .ref (ad (1, v))), (2, .int (nI t)), (3, .int (nI dp)), (4, .int (nI j))] [] (cs_O ad S h) 0 0 := by
  refine ax_iload dX2_addPartsOf_3 rfl ?_
  refine ax_iconst (v := 3) dX2_addPartsOf_5 (by decide) ?_
  refine ax_icmp_ge (tgt := 71) dX2_addPartsOf_6 (by decide) (fun z => absurd z (il_nle 3 j hj)) (fun _ => ?_)
  refine ax_iload_n dX2_addPartsOf_9 rfl ?_
  refine ax_bipush (v := 8) dX2_addPartsOf_10 (by decide) ?_
  refine ax_icmp_gt (tgt := 71) dX2_addPartsOf_12 (by decide) (fun z => absurd z (il_nlt 8 dp hdp)) (fun _ => ?_)
  refine ax_aload_n dX2_addPartsOf_15 rfl ?_
  refine ax_iload dX2_addPartsOf_16 rfl ?_
  refine ax_callV (b := (ad (1, v))) (av := [.int (nI j)]) (rest := []) (mc' := 0) (ms' := 0) dX2_addPartsOf_18 rfl lkX2_60 (cs_get hi (cs_k1 hv)) rfl (Nat.le_of_ble_eq_true rfl) (Nat.le_of_ble_eq_true rfl) (Nat.le_refl 0) (Nat.le_refl 0) (cv_partS hi _ S h hv h3 hm3 hjm hvp) (fun E9 h9 q9 => by cases q9.1) (fun v9 h9 q9 => ?_)
  obtain ⟨e9, rfl⟩ := q9
  cases e9
  show AW G mX2_addPartsOf (d + 1) 0 0 Q 21 [(0, .ref (ad (0, 17))), (1, .ref (ad (1, v))), (2, .int (nI t)), (3, .int (nI dp)), (4, .int (nI j))] [.ref (ad (1, w))] (cs_O ad S h) 0 0
  refine ax_astore dX2_addPartsOf_21 (by decide) ?_
  refine ax_sub (lv' := [(0, .ref (ad (0, 17))), (1, .ref (ad (1, v))), (2, .int (nI t)), (3, .int (nI dp)), (4, .int (nI j)), (5, .ref (ad (1, w)))]) (fun _ z => z) ?_
  refine ax_aload dX2_addPartsOf_23 rfl ?_
  refine ax_ifnull dX2_addPartsOf_25 ?_
  refine ax_aload dX2_addPartsOf_28 rfl ?_
  refine ax_get (v := .int (nI u)) dX2_addPartsOf_30 fkX2_29 (cs_get hi (cs_k1 hw)) (congrArg (fun z => some (Value.int z)) (h0)) ?_
  refine ax_iload_n dX2_addPartsOf_33 rfl ?_
  refine ax_icmp_ne (tgt := 55) dX2_addPartsOf_34 (by decide) (fun _ => ?_) (fun z => absurd z (il_ne u t hut rfl rfl (by omega) (by omega)))
  refine ax_aload_n dX2_addPartsOf_55 rfl ?_
  refine ax_aload dX2_addPartsOf_56 rfl ?_
  refine ax_iload_n dX2_addPartsOf_58 rfl ?_
  refine ax_iload_n dX2_addPartsOf_59 rfl ?_
  refine ax_iconst (v := 1) dX2_addPartsOf_60 (by decide) ?_
  refine ax_iadd dX2_addPartsOf_61 ?_
  refine ax_top (y := (nI (dp + 1))) (nI_1 dp) ?_
  refine ax_callV (b := (ad (0, 17))) (av := [.ref (ad (1, w)), .int (nI t), .int (nI (dp + 1))]) (rest := []) (mc' := 0) (ms' := 0) dX2_addPartsOf_62 rfl lkX2_32 (cs_get hi (cs_k0 (by decide))) rfl (Nat.le_of_ble_eq_true rfl) (Nat.le_of_ble_eq_true rfl) (Nat.le_refl 0) (Nat.le_refl 0) (IH) (fun E9 h9 q9 => by cases q9.1) (fun v9 h9 q9 => ?_)
  obtain ⟨e9, S2, rfl, o3⟩ := q9
  cases e9
  show AW G mX2_addPartsOf (d + 1) 0 0 Q 65 [(0, .ref (ad (0, 17))), (1, .ref (ad (1, v))), (2, .int (nI t)), (3, .int (nI dp)), (4, .int (nI j)), (5, .ref (ad (1, w)))] [] (cs_O ad S2 h) 0 0
  refine ax_iinc (v := nI (j + 1)) dX2_addPartsOf_65 rfl (nI_1 j) (by decide) ?_
  refine ax_sub (lv' := [(0, .ref (ad (0, 17))), (1, .ref (ad (1, v))), (2, .int (nI t)), (3, .int (nI dp)), (4, .int (nI (j + 1))), (5, .ref (ad (1, w)))]) (fun _ z => z) ?_
  refine ax_goto (tgt := 3) dX2_addPartsOf_68 (by decide) ?_
  exact ax_sub (lv' := [(0, .ref (ad (0, 17))), (1, .ref (ad (1, v))), (2, .int (nI t)), (3, .int (nI dp)), (4, .int (nI (j + 1)))]) (fun _ hz => List.take_subset 5 _ hz) (k9 S2 o3)
set_option maxRecDepth 100000 in
set_option maxHeartbeats 4000000 in
theorem ap_end (hi : cs_inj ad) (d : Nat) (S : cs_S) (h : ax_H) {v t dp : Nat} {Q : ax_P} (hq : Q (.inl none) (cs_O ad S h)) : AW G mX2_addPartsOf d 0 0 Q 3 [(0, .ref (ad (0, 17))), (1, .ref (ad (1, v))), (2, .int (nI t)), (3, .int (nI dp)), (4, .int (nI 3))] [] (cs_O ad S h) 0 0 := by
  refine ax_iload dX2_addPartsOf_3 rfl ?_
  refine ax_iconst (v := 3) dX2_addPartsOf_5 (by decide) ?_
  refine ax_icmp_ge (tgt := 71) dX2_addPartsOf_6 (by decide) (fun _ => ?_) (fun z => absurd (by decide) z)
  exact ax_vret (st := []) dX2_addPartsOf_71 rfl hq
theorem ap_beg (hi : cs_inj ad) (d : Nat) (S : cs_S) (h : ax_H) {v t dp : Nat} {Q : ax_P} (k : AW G mX2_addPartsOf d 0 0 Q 3 [(0, .ref (ad (0, 17))), (1, .ref (ad (1, v))), (2, .int (nI t)), (3, .int (nI dp)), (4, .int (nI 0))] [] (cs_O ad S h) 0 0) : AW G mX2_addPartsOf d 0 0 Q 0 [(0, .ref (ad (0, 17))), (1, .ref (ad (1, v))), (2, .int (nI t)), (3, .int (nI dp))] [] (cs_O ad S h) 0 0 := by
  refine ax_iconst (v := 0) dX2_addPartsOf_0 (by decide) ?_
  refine ax_istore dX2_addPartsOf_1 (by decide) ?_
  refine ax_sub (lv' := [(0, .ref (ad (0, 17))), (1, .ref (ad (1, v))), (2, .int (nI t)), (3, .int (nI dp)), (4, .int 0)]) (fun _ z => z) ?_
  exact k
end RED
