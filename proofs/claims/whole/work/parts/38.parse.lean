/-! ===== reading what was told: the class ===== -/
def st_td (tl : List Nat) (S : cs_S) : Prop := S.1 10 = nI tl.length ∧ tl.length ≤ 40 ∧ (∀ i a, tl[i]? = some a → S.2.1 13 i = nI a) ∧ ∀ a ∈ tl, a ≤ 5 ∨ (100 ≤ a ∧ a ≤ 105)
def st_dr (op : Nat) (S S' : cs_S) : Prop := (∀ i, i ≠ 8 → i ≠ 9 → S'.1 i = S.1 i) ∧ S'.2.1 = S.2.1 ∧ S'.2.2.1 = S.2.2.1 ∧ (∀ v, v < 304 + op → cs_vf S' v = cs_vf S v ∧ cs_vn S' v = cs_vn S v ∧ cs_vp S' v = cs_vp S v) ∧ S'.2.2.2.2.2.2 = S.2.2.2.2.2.2
theorem st_dr_rfl (op : Nat) (S : cs_S) : st_dr op S S := ⟨fun _ _ _ => rfl, rfl, rfl, fun _ _ => ⟨rfl, rfl, rfl⟩, rfl⟩
theorem st_dr_tr {op : Nat} {S1 S2 S3 : cs_S} (h1 : st_dr op S1 S2) (h2 : st_dr op S2 S3) : st_dr op S1 S3 := ⟨fun i a b => (h2.1 i a b).trans (h1.1 i a b), h2.2.1.trans h1.2.1, h2.2.2.1.trans h1.2.2.1, fun v a => ⟨(h2.2.2.2.1 v a).1.trans (h1.2.2.2.1 v a).1, (h2.2.2.2.1 v a).2.1.trans (h1.2.2.2.1 v a).2.1, (h2.2.2.2.1 v a).2.2.trans (h1.2.2.2.1 v a).2.2⟩, h2.2.2.2.2.trans h1.2.2.2.2⟩
theorem st_dr_le {a b : Nat} (h : a ≤ b) {S S' : cs_S} (hd : st_dr b S S') : st_dr a S S' := ⟨hd.1, hd.2.1, hd.2.2.1, fun v z => hd.2.2.2.1 v (by omega), hd.2.2.2.2⟩
theorem st_dr_g {op : Nat} {S S' : cs_S} {g : sp_G} (h : st_dr op S S') (hg : cs_g S g) : cs_g S' g := by
  obtain ⟨h0, h1, h2, h3, h4⟩ := hg
  refine ⟨(h.1 0 (by decide) (by decide)).trans h0, (h.1 1 (by decide) (by decide)).trans h1, (h.1 2 (by decide) (by decide)).trans h2, (h.1 3 (by decide) (by decide)).trans h3, ?_⟩
  rw [h.2.1]; exact h4
theorem st_dr_fix {op : Nat} {S S' : cs_S} (h : st_dr op S S') (hf : st_fix S) : st_fix S' := by
  unfold st_fix
  rw [h.2.2.1]; exact hf
theorem st_dr_td {op : Nat} {S S' : cs_S} {tl : List Nat} (h : st_dr op S S') (hf : st_td tl S) : st_td tl S' := by
  refine ⟨(h.1 10 (by decide) (by decide)).trans hf.1, hf.2.1, ?_, hf.2.2.2⟩
  rw [h.2.1]; exact hf.2.2.1
theorem st_dr_s {op : Nat} {S : cs_S} {i : Nat} {x : Int32} (hi : i = 8 ∨ i = 9) : st_dr op S (cs_setS S i x) := ⟨fun j a b => pk_un (by rcases hi with rfl | rfl; exact a; exact b), rfl, rfl, fun _ _ => ⟨rfl, rfl, rfl⟩, rfl⟩
theorem st_dr_v {op v : Nat} {S : cs_S} {V N : Nat → Int32} {P : Nat → Option Nat} (hv : 304 + op ≤ v) : st_dr op S (cs_setV S v V N P) := ⟨fun _ _ _ => rfl, rfl, rfl, fun w hw => by
  have : ¬ w = v := by omega
  show va_up S.2.2.2.1 v V w = _ ∧ va_up S.2.2.2.2.1 v N w = _ ∧ va_up S.2.2.2.2.2.1 v P w = _
  simp [va_up, this], rfl⟩
section PAR
variable {G : ax_G} {ad : cs_K → Nat}

set_option maxRecDepth 100000 in
set_option maxHeartbeats 4000000 in
theorem cv_nextS (hi : cs_inj ad) (d : Nat) (S : cs_S) (h : ax_H) {pos n a : Nat} (h9 : S.1 9 = nI pos) (h10 : S.1 10 = nI n) (hp : pos < n) (hn : n ≤ 40) (ha : S.2.1 13 pos = nI a) : AW G mX4_next d 0 0 (fun r h1 => r = .inl (some (.int (nI a))) ∧ h1 = cs_O ad (cs_setS S 9 (nI (pos + 1))) h) 0 [(0, .ref (ad (0, 12)))] [] (cs_O ad S h) 0 0 := by
  refine ax_aload_n dX4_next_0 rfl ?_
  refine ax_get (v := .int (nI pos)) dX4_next_1 fkX4_30 (cs_get hi (cs_k0 (by decide))) (congrArg (fun z => some (Value.int z)) (h9)) ?_
  refine ax_if_lt (tgt := 27) dX4_next_4 (by decide) (fun z => absurd z (nI_pos (by omega))) (fun _ => ?_)
  refine ax_aload_n dX4_next_7 rfl ?_
  refine ax_get (v := .int (nI pos)) dX4_next_8 fkX4_30 (cs_get hi (cs_k0 (by decide))) (congrArg (fun z => some (Value.int z)) (h9)) ?_
  refine ax_aload_n dX4_next_11 rfl ?_
  refine ax_get (v := .int (nI n)) dX4_next_12 fkX4_33 (cs_get hi (cs_k0 (by decide))) (congrArg (fun z => some (Value.int z)) (h10)) ?_
  refine ax_icmp_ge (tgt := 27) dX4_next_15 (by decide) (fun z => absurd z (il_nle n pos hp)) (fun _ => ?_)
  refine ax_aload_n dX4_next_18 rfl ?_
  refine ax_get (v := .int (nI pos)) dX4_next_19 fkX4_30 (cs_get hi (cs_k0 (by decide))) (congrArg (fun z => some (Value.int z)) (h9)) ?_
  refine ax_bipush (v := 40) dX4_next_22 (by decide) ?_
  refine ax_icmp_lt (tgt := 29) dX4_next_24 (by decide) (fun _ => ?_) (fun z => absurd (il_lt pos 40 (by omega)) z)
  refine ax_aload_n dX4_next_29 rfl ?_
  refine ax_dup dX4_next_30 rfl ?_
  refine ax_get (v := .int (nI pos)) dX4_next_31 fkX4_30 (cs_get hi (cs_k0 (by decide))) (congrArg (fun z => some (Value.int z)) (h9)) ?_
  refine ax_iconst (v := 1) dX4_next_34 (by decide) ?_
  refine ax_iadd dX4_next_35 ?_
  refine ax_top (y := (nI (pos + 1))) (nI_1 pos) ?_
  refine ax_put dX4_next_36 fpX4_30 (cs_get hi (cs_k0 (by decide))) rfl rfl (Nat.le_of_ble_eq_true rfl) ?_
  refine ax_eqh (cs_ps9 hi) ?_
  refine ax_aload_n dX4_next_39 rfl ?_
  refine ax_get (v := .ref (ad (0, 13))) dX4_next_40 fkX4_15 (cs_get hi (cs_k0 (by decide))) rfl ?_
  refine ax_aload_n dX4_next_43 rfl ?_
  refine ax_get (v := .int (nI (pos + 1))) dX4_next_44 fkX4_30 (cs_get hi (cs_k0 (by decide))) rfl ?_
  refine ax_iconst (v := 1) dX4_next_47 (by decide) ?_
  refine ax_isub dX4_next_48 ?_
  refine ax_top (y := (nI pos)) (nI_pred pos) ?_
  refine ax_ialdv (x := (nI a)) dX4_next_49 (cs_get hi (cs_k0 (by decide))) (pk_in pos 40 (by omega)) (by rw [nI_clamp (by omega)]; exact ha) ?_
  exact ax_iret (st := []) dX4_next_50 rfl rfl ⟨rfl, rfl⟩
set_option maxRecDepth 100000 in
set_option maxHeartbeats 4000000 in
theorem cv_nextN (hi : cs_inj ad) (d : Nat) (S : cs_S) (h : ax_H) {n : Nat} (h9 : S.1 9 = nI n) (h10 : S.1 10 = nI n) (hn : n ≤ 40) : AW G mX4_next d 0 0 (fun r h1 => r = .inl (some (.int (-1))) ∧ h1 = cs_O ad S h) 0 [(0, .ref (ad (0, 12)))] [] (cs_O ad S h) 0 0 := by
  refine ax_aload_n dX4_next_0 rfl ?_
  refine ax_get (v := .int (nI n)) dX4_next_1 fkX4_30 (cs_get hi (cs_k0 (by decide))) (congrArg (fun z => some (Value.int z)) (h9)) ?_
  refine ax_if_lt (tgt := 27) dX4_next_4 (by decide) (fun z => absurd z (nI_pos (by omega))) (fun _ => ?_)
  refine ax_aload_n dX4_next_7 rfl ?_
  refine ax_get (v := .int (nI n)) dX4_next_8 fkX4_30 (cs_get hi (cs_k0 (by decide))) (congrArg (fun z => some (Value.int z)) (h9)) ?_
  refine ax_aload_n dX4_next_11 rfl ?_
  refine ax_get (v := .int (nI n)) dX4_next_12 fkX4_33 (cs_get hi (cs_k0 (by decide))) (congrArg (fun z => some (Value.int z)) (h10)) ?_
  refine ax_icmp_ge (tgt := 27) dX4_next_15 (by decide) (fun _ => ?_) (fun z => absurd (il_le n n (Nat.le_refl _)) z)
  refine ax_iconst (v := (-1)) dX4_next_27 (by decide) ?_
  exact ax_iret (st := []) dX4_next_28 rfl rfl ⟨rfl, rfl⟩
theorem cg_has (hi : cs_inj ad) (d : Nat) (S : cs_S) (h : ax_H) (k : Int32) : AW G mX1_hasConstructor d 0 0 (fun r h1 => r = .inl (some (.int (if k < 0 then 0 else (if S.1 3 ≤ k then 0 else (if (6 : Int32) ≤ k then 0 else 1))))) ∧ h1 = cs_O ad S h) 0 [(0, .ref (ad (0, 1))), (1, .int k)] [] (cs_O ad S h) 0 0 := by
  have hks : ∀ k ∈ ([(0, 1)] : List cs_K), k ∈ cs_keys := fun k hk => by simp at hk; subst hk; exact cs_k0 (by decide)
  refine ax_eqh (cs_in hi (ks := [(0, 1)]) hks).symm ?_
  refine ax_mono (ctX1_hasConstructor d (cs_O ad S h) (ad (0, 1)) (S.1 0) (S.1 1) (S.1 2) (S.1 3) (ad (0, 2)) (ad (0, 3)) (ad (0, 4)) (ad (0, 5)) k (by simp)) ?_
  rintro r h1 ⟨e, rfl⟩
  exact ⟨e, cs_in hi hks⟩
theorem cg_hasN (hi : cs_inj ad) (d : Nat) (S : cs_S) (h : ax_H) {k : Int32} (hk : k < 0 ∨ S.1 3 ≤ k) : AW G mX1_hasConstructor d 0 0 (fun r h1 => r = .inl (some (.int 0)) ∧ h1 = cs_O ad S h) 0 [(0, .ref (ad (0, 1))), (1, .int k)] [] (cs_O ad S h) 0 0 := by
  refine ax_mono (cg_has hi d S h k) ?_
  rintro r h1 ⟨e, e2⟩
  refine ⟨e.trans ?_, e2⟩
  by_cases h0 : k < 0
  · rw [if_pos h0]
  · rw [if_neg h0, if_pos (hk.resolve_left h0)]
theorem cg_hasS (hi : cs_inj ad) (d : Nat) (S : cs_S) (h : ax_H) {c n : Nat} (h3 : S.1 3 = nI n) (hn : n ≤ 6) (hc : c < n) : AW G mX1_hasConstructor d 0 0 (fun r h1 => r = .inl (some (.int 1)) ∧ h1 = cs_O ad S h) 0 [(0, .ref (ad (0, 1))), (1, .int (nI c))] [] (cs_O ad S h) 0 0 := by
  refine ax_mono (cg_has hi d S h (nI c)) ?_
  rintro r h1 ⟨e, e2⟩
  refine ⟨e.trans ?_, e2⟩
  rw [h3, sp_hc1 hc hn]

set_option maxRecDepth 100000 in
set_option maxHeartbeats 4000000 in
theorem pv_no (hi : cs_inj ad) (d : Nat) (S S1 : cs_S) (h : ax_H) {x : Int32} {t : Nat} (hnx : AW G mX4_next (d + 1) 0 0 (fun r h1 => r = .inl (some (.int x)) ∧ h1 = cs_O ad S1 h) 0 [(0, .ref (ad (0, 12)))] [] (cs_O ad S h) 0 0) (hk : x - 100 < 0 ∨ S1.1 3 ≤ x - 100) {Q : ax_P} (hq : Q (.inl (some .null)) (cs_O ad S1 h)) : AW G mX4_parseValue (d + 2) 0 0 Q 0 [(0, .ref (ad (0, 12))), (1, .int (nI t))] [] (cs_O ad S h) 0 0 := by
  refine ax_aload_n dX4_parseValue_0 rfl ?_
  refine ax_callV (b := (ad (0, 12))) (av := []) (rest := []) (mc' := 0) (ms' := 0) dX4_parseValue_1 rfl lkX4_40 (cs_get hi (cs_k0 (by decide))) rfl (Nat.le_of_ble_eq_true rfl) (Nat.le_of_ble_eq_true rfl) (Nat.le_refl 0) (Nat.le_refl 0) (hnx) (fun E9 h9 q9 => by cases q9.1) (fun v9 h9 q9 => ?_)
  obtain ⟨e9, rfl⟩ := q9
  cases e9
  show AW G mX4_parseValue (d + 2) 0 0 Q 4 [(0, .ref (ad (0, 12))), (1, .int (nI t))] [.int x] (cs_O ad S1 h) 0 0
  refine ax_bipush (v := 100) dX4_parseValue_4 (by decide) ?_
  refine ax_isub dX4_parseValue_6 ?_
  refine ax_istore_n dX4_parseValue_7 (by decide) ?_
  refine ax_sub (lv' := [(0, .ref (ad (0, 12))), (1, .int (nI t)), (2, .int (x - 100))]) (fun _ z => z) ?_
  refine ax_aload_n dX4_parseValue_8 rfl ?_
  refine ax_get (v := .ref (ad (0, 1))) dX4_parseValue_9 fkX4_9 (cs_get hi (cs_k0 (by decide))) rfl ?_
  refine ax_iload_n dX4_parseValue_12 rfl ?_
  refine ax_callV (b := (ad (0, 1))) (av := [.int (x - 100)]) (rest := []) (mc' := 0) (ms' := 0) dX4_parseValue_13 rfl lkX4_44 (cs_get hi (cs_k0 (by decide))) rfl (Nat.le_of_ble_eq_true rfl) (Nat.le_of_ble_eq_true rfl) (Nat.le_refl 0) (Nat.le_refl 0) (cg_hasN hi _ S1 h hk) (fun E9 h9 q9 => by cases q9.1) (fun v9 h9 q9 => ?_)
  obtain ⟨e9, rfl⟩ := q9
  cases e9
  show AW G mX4_parseValue (d + 2) 0 0 Q 16 [(0, .ref (ad (0, 12))), (1, .int (nI t)), (2, .int (x - 100))] [.int 0] (cs_O ad S1 h) 0 0
  refine ax_if_eq (tgt := 31) dX4_parseValue_16 (by decide) (fun _ => ?_) (fun z => absurd rfl z)
  refine ax_null dX4_parseValue_31 ?_
  exact ax_aret (st := []) dX4_parseValue_32 rfl (Or.inl ⟨_, rfl⟩) (Or.inl rfl) hq
set_option maxRecDepth 100000 in
set_option maxHeartbeats 4000000 in
theorem pv_ty (hi : cs_inj ad) (d : Nat) (S S1 : cs_S) (h : ax_H) {x : Int32} {t : Nat} (hnx : AW G mX4_next (d + 1) 0 0 (fun r h1 => r = .inl (some (.int x)) ∧ h1 = cs_O ad S1 h) 0 [(0, .ref (ad (0, 12)))] [] (cs_O ad S h) 0 0) {g : sp_G} {c : Nat} {q : sp_C} (hg : cs_g S1 g) (hw : sp_wg g) (hc : g.2.2.2[c]? = some q) (hx : x - 100 = nI c) (hne : ¬ nI q.1 = nI t) {Q : ax_P} (hq : Q (.inl (some .null)) (cs_O ad S1 h)) : AW G mX4_parseValue (d + 2) 0 0 Q 0 [(0, .ref (ad (0, 12))), (1, .int (nI t))] [] (cs_O ad S h) 0 0 := by
  refine ax_aload_n dX4_parseValue_0 rfl ?_
  refine ax_callV (b := (ad (0, 12))) (av := []) (rest := []) (mc' := 0) (ms' := 0) dX4_parseValue_1 rfl lkX4_40 (cs_get hi (cs_k0 (by decide))) rfl (Nat.le_of_ble_eq_true rfl) (Nat.le_of_ble_eq_true rfl) (Nat.le_refl 0) (Nat.le_refl 0) (hnx) (fun E9 h9 q9 => by cases q9.1) (fun v9 h9 q9 => ?_)
  obtain ⟨e9, rfl⟩ := q9
  cases e9
  show AW G mX4_parseValue (d + 2) 0 0 Q 4 [(0, .ref (ad (0, 12))), (1, .int (nI t))] [.int x] (cs_O ad S1 h) 0 0
  refine ax_bipush (v := 100) dX4_parseValue_4 (by decide) ?_
  refine ax_isub dX4_parseValue_6 ?_
  refine ax_top (y := (nI c)) (hx) ?_
  refine ax_istore_n dX4_parseValue_7 (by decide) ?_
  refine ax_sub (lv' := [(0, .ref (ad (0, 12))), (1, .int (nI t)), (2, .int (nI c))]) (fun _ z => z) ?_
  refine ax_aload_n dX4_parseValue_8 rfl ?_
  refine ax_get (v := .ref (ad (0, 1))) dX4_parseValue_9 fkX4_9 (cs_get hi (cs_k0 (by decide))) rfl ?_
  refine ax_iload_n dX4_parseValue_12 rfl ?_
  refine ax_callV (b := (ad (0, 1))) (av := [.int (nI c)]) (rest := []) (mc' := 0) (ms' := 0) dX4_parseValue_13 rfl lkX4_44 (cs_get hi (cs_k0 (by decide))) rfl (Nat.le_of_ble_eq_true rfl) (Nat.le_of_ble_eq_true rfl) (Nat.le_refl 0) (Nat.le_refl 0) (cg_hasS hi _ S1 h hg.2.2.2.1 hw.2.2.2.1 (List.getElem?_eq_some_iff.mp hc).1) (fun E9 h9 q9 => by cases q9.1) (fun v9 h9 q9 => ?_)
  obtain ⟨e9, rfl⟩ := q9
  cases e9
  show AW G mX4_parseValue (d + 2) 0 0 Q 16 [(0, .ref (ad (0, 12))), (1, .int (nI t)), (2, .int (nI c))] [.int 1] (cs_O ad S1 h) 0 0
  refine ax_if_eq (tgt := 31) dX4_parseValue_16 (by decide) (fun z => absurd z (by decide)) (fun _ => ?_)
  refine ax_aload_n dX4_parseValue_19 rfl ?_
  refine ax_get (v := .ref (ad (0, 1))) dX4_parseValue_20 fkX4_9 (cs_get hi (cs_k0 (by decide))) rfl ?_
  refine ax_iload_n dX4_parseValue_23 rfl ?_
  refine ax_callV (b := (ad (0, 1))) (av := [.int (nI c)]) (rest := []) (mc' := 0) (ms' := 0) dX4_parseValue_24 rfl lkX4_50 (cs_get hi (cs_k0 (by decide))) rfl (Nat.le_of_ble_eq_true rfl) (Nat.le_of_ble_eq_true rfl) (Nat.le_refl 0) (Nat.le_refl 0) (cg_typeOf hi d S1 h hg hw hc) (fun E9 h9 q9 => by cases q9.1) (fun v9 h9 q9 => ?_)
  obtain ⟨e9, rfl⟩ := q9
  cases e9
  show AW G mX4_parseValue (d + 2) 0 0 Q 27 [(0, .ref (ad (0, 12))), (1, .int (nI t)), (2, .int (nI c))] [.int (nI q.1)] (cs_O ad S1 h) 0 0
  refine ax_iload_n dX4_parseValue_27 rfl ?_
  refine ax_icmp_eq (tgt := 33) dX4_parseValue_28 (by decide) (fun z => absurd z hne) (fun _ => ?_)
  refine ax_null dX4_parseValue_31 ?_
  exact ax_aret (st := []) dX4_parseValue_32 rfl (Or.inl ⟨_, rfl⟩) (Or.inl rfl) hq
set_option maxRecDepth 100000 in
set_option maxHeartbeats 4000000 in
theorem pv_full (hi : cs_inj ad) (d : Nat) (S S1 : cs_S) (h : ax_H) {x : Int32} {t : Nat} (hnx : AW G mX4_next (d + 1) 0 0 (fun r h1 => r = .inl (some (.int x)) ∧ h1 = cs_O ad S1 h) 0 [(0, .ref (ad (0, 12)))] [] (cs_O ad S h) 0 0) {g : sp_G} {c : Nat} {q : sp_C} (hg : cs_g S1 g) (hw : sp_wg g) (hc : g.2.2.2[c]? = some q) (hx : x - 100 = nI c) (he : nI q.1 = nI t) (h8 : S1.1 8 = nI 8) {Q : ax_P} (hq : Q (.inl (some .null)) (cs_O ad S1 h)) : AW G mX4_parseValue (d + 2) 0 0 Q 0 [(0, .ref (ad (0, 12))), (1, .int (nI t))] [] (cs_O ad S h) 0 0 := by
  refine ax_aload_n dX4_parseValue_0 rfl ?_
  refine ax_callV (b := (ad (0, 12))) (av := []) (rest := []) (mc' := 0) (ms' := 0) dX4_parseValue_1 rfl lkX4_40 (cs_get hi (cs_k0 (by decide))) rfl (Nat.le_of_ble_eq_true rfl) (Nat.le_of_ble_eq_true rfl) (Nat.le_refl 0) (Nat.le_refl 0) (hnx) (fun E9 h9 q9 => by cases q9.1) (fun v9 h9 q9 => ?_)
  obtain ⟨e9, rfl⟩ := q9
  cases e9
  show AW G mX4_parseValue (d + 2) 0 0 Q 4 [(0, .ref (ad (0, 12))), (1, .int (nI t))] [.int x] (cs_O ad S1 h) 0 0
  refine ax_bipush (v := 100) dX4_parseValue_4 (by decide) ?_
  refine ax_isub dX4_parseValue_6 ?_
  refine ax_top (y := (nI c)) (hx) ?_
  refine ax_istore_n dX4_parseValue_7 (by decide) ?_
  refine ax_sub (lv' := [(0, .ref (ad (0, 12))), (1, .int (nI t)), (2, .int (nI c))]) (fun _ z => z) ?_
  refine ax_aload_n dX4_parseValue_8 rfl ?_
  refine ax_get (v := .ref (ad (0, 1))) dX4_parseValue_9 fkX4_9 (cs_get hi (cs_k0 (by decide))) rfl ?_
  refine ax_iload_n dX4_parseValue_12 rfl ?_
  refine ax_callV (b := (ad (0, 1))) (av := [.int (nI c)]) (rest := []) (mc' := 0) (ms' := 0) dX4_parseValue_13 rfl lkX4_44 (cs_get hi (cs_k0 (by decide))) rfl (Nat.le_of_ble_eq_true rfl) (Nat.le_of_ble_eq_true rfl) (Nat.le_refl 0) (Nat.le_refl 0) (cg_hasS hi _ S1 h hg.2.2.2.1 hw.2.2.2.1 (List.getElem?_eq_some_iff.mp hc).1) (fun E9 h9 q9 => by cases q9.1) (fun v9 h9 q9 => ?_)
  obtain ⟨e9, rfl⟩ := q9
  cases e9
  show AW G mX4_parseValue (d + 2) 0 0 Q 16 [(0, .ref (ad (0, 12))), (1, .int (nI t)), (2, .int (nI c))] [.int 1] (cs_O ad S1 h) 0 0
  refine ax_if_eq (tgt := 31) dX4_parseValue_16 (by decide) (fun z => absurd z (by decide)) (fun _ => ?_)
  refine ax_aload_n dX4_parseValue_19 rfl ?_
  refine ax_get (v := .ref (ad (0, 1))) dX4_parseValue_20 fkX4_9 (cs_get hi (cs_k0 (by decide))) rfl ?_
  refine ax_iload_n dX4_parseValue_23 rfl ?_
  refine ax_callV (b := (ad (0, 1))) (av := [.int (nI c)]) (rest := []) (mc' := 0) (ms' := 0) dX4_parseValue_24 rfl lkX4_50 (cs_get hi (cs_k0 (by decide))) rfl (Nat.le_of_ble_eq_true rfl) (Nat.le_of_ble_eq_true rfl) (Nat.le_refl 0) (Nat.le_refl 0) (cg_typeOf hi d S1 h hg hw hc) (fun E9 h9 q9 => by cases q9.1) (fun v9 h9 q9 => ?_)
  obtain ⟨e9, rfl⟩ := q9
  cases e9
  show AW G mX4_parseValue (d + 2) 0 0 Q 27 [(0, .ref (ad (0, 12))), (1, .int (nI t)), (2, .int (nI c))] [.int (nI q.1)] (cs_O ad S1 h) 0 0
  refine ax_iload_n dX4_parseValue_27 rfl ?_
  refine ax_icmp_eq (tgt := 33) dX4_parseValue_28 (by decide) (fun _ => ?_) (fun z => absurd he z)
  refine ax_aload_n dX4_parseValue_33 rfl ?_
  refine ax_get (v := .int (nI 8)) dX4_parseValue_34 fkX4_26 (cs_get hi (cs_k0 (by decide))) (congrArg (fun z => some (Value.int z)) (h8)) ?_
  refine ax_if_lt (tgt := 61) dX4_parseValue_37 (by decide) (fun z => absurd z (by decide)) (fun _ => ?_)
  refine ax_aload_n dX4_parseValue_40 rfl ?_
  refine ax_get (v := .int (nI 8)) dX4_parseValue_41 fkX4_26 (cs_get hi (cs_k0 (by decide))) (congrArg (fun z => some (Value.int z)) (h8)) ?_
  refine ax_bipush (v := 8) dX4_parseValue_44 (by decide) ?_
  refine ax_icmp_ge (tgt := 61) dX4_parseValue_46 (by decide) (fun _ => ?_) (fun z => absurd (by decide) z)
  refine ax_null dX4_parseValue_61 ?_
  exact ax_aret (st := []) dX4_parseValue_62 rfl (Or.inl ⟨_, rfl⟩) (Or.inl rfl) hq
set_option maxRecDepth 100000 in
set_option maxHeartbeats 4000000 in
theorem pv_open (hi : cs_inj ad) (d : Nat) (S S1 : cs_S) (h : ax_H) {x : Int32} {t op : Nat} (hnx : AW G mX4_next (d + 1) 0 0 (fun r h1 => r = .inl (some (.int x)) ∧ h1 = cs_O ad S1 h) 0 [(0, .ref (ad (0, 12)))] [] (cs_O ad S h) 0 0) {g : sp_G} {c : Nat} {q : sp_C} (hg : cs_g S1 g) (hw : sp_wg g) (hc : g.2.2.2[c]? = some q) (hx : x - 100 = nI c) (he : nI q.1 = nI t) (hop : op < 8) (h8 : S1.1 8 = nI op) (hf : st_fix S1) {Q : ax_P} (k : AW G mX4_parseValue (d + 2) 0 0 Q 92 [(0, .ref (ad (0, 12))), (1, .int (nI t)), (2, .int (nI c)), (3, .ref (ad (1, 304 + op))), (4, .int 0)] [] (cs_O ad (cs_setV (cs_setS S1 8 (nI (op + 1))) (304 + op) (vr_beg (nI t) (nI c)) (cs_vn (cs_setS S1 8 (nI (op + 1))) (304 + op)) (cs_vp (cs_setS S1 8 (nI (op + 1))) (304 + op))) h) 0 0) : AW G mX4_parseValue (d + 2) 0 0 Q 0 [(0, .ref (ad (0, 12))), (1, .int (nI t))] [] (cs_O ad S h) 0 0 := by
  have hv : 304 + op < 312 := by omega
  refine ax_aload_n dX4_parseValue_0 rfl ?_
  refine ax_callV (b := (ad (0, 12))) (av := []) (rest := []) (mc' := 0) (ms' := 0) dX4_parseValue_1 rfl lkX4_40 (cs_get hi (cs_k0 (by decide))) rfl (Nat.le_of_ble_eq_true rfl) (Nat.le_of_ble_eq_true rfl) (Nat.le_refl 0) (Nat.le_refl 0) (hnx) (fun E9 h9 q9 => by cases q9.1) (fun v9 h9 q9 => ?_)
  obtain ⟨e9, rfl⟩ := q9
  cases e9
  show AW G mX4_parseValue (d + 2) 0 0 Q 4 [(0, .ref (ad (0, 12))), (1, .int (nI t))] [.int x] (cs_O ad S1 h) 0 0
  refine ax_bipush (v := 100) dX4_parseValue_4 (by decide) ?_
  refine ax_isub dX4_parseValue_6 ?_
  refine ax_top (y := (nI c)) (hx) ?_
  refine ax_istore_n dX4_parseValue_7 (by decide) ?_
  refine ax_sub (lv' := [(0, .ref (ad (0, 12))), (1, .int (nI t)), (2, .int (nI c))]) (fun _ z => z) ?_
  refine ax_aload_n dX4_parseValue_8 rfl ?_
  refine ax_get (v := .ref (ad (0, 1))) dX4_parseValue_9 fkX4_9 (cs_get hi (cs_k0 (by decide))) rfl ?_
  refine ax_iload_n dX4_parseValue_12 rfl ?_
  refine ax_callV (b := (ad (0, 1))) (av := [.int (nI c)]) (rest := []) (mc' := 0) (ms' := 0) dX4_parseValue_13 rfl lkX4_44 (cs_get hi (cs_k0 (by decide))) rfl (Nat.le_of_ble_eq_true rfl) (Nat.le_of_ble_eq_true rfl) (Nat.le_refl 0) (Nat.le_refl 0) (cg_hasS hi _ S1 h hg.2.2.2.1 hw.2.2.2.1 (List.getElem?_eq_some_iff.mp hc).1) (fun E9 h9 q9 => by cases q9.1) (fun v9 h9 q9 => ?_)
  obtain ⟨e9, rfl⟩ := q9
  cases e9
  show AW G mX4_parseValue (d + 2) 0 0 Q 16 [(0, .ref (ad (0, 12))), (1, .int (nI t)), (2, .int (nI c))] [.int 1] (cs_O ad S1 h) 0 0
  refine ax_if_eq (tgt := 31) dX4_parseValue_16 (by decide) (fun z => absurd z (by decide)) (fun _ => ?_)
  refine ax_aload_n dX4_parseValue_19 rfl ?_
  refine ax_get (v := .ref (ad (0, 1))) dX4_parseValue_20 fkX4_9 (cs_get hi (cs_k0 (by decide))) rfl ?_
  refine ax_iload_n dX4_parseValue_23 rfl ?_
  refine ax_callV (b := (ad (0, 1))) (av := [.int (nI c)]) (rest := []) (mc' := 0) (ms' := 0) dX4_parseValue_24 rfl lkX4_50 (cs_get hi (cs_k0 (by decide))) rfl (Nat.le_of_ble_eq_true rfl) (Nat.le_of_ble_eq_true rfl) (Nat.le_refl 0) (Nat.le_refl 0) (cg_typeOf hi d S1 h hg hw hc) (fun E9 h9 q9 => by cases q9.1) (fun v9 h9 q9 => ?_)
  obtain ⟨e9, rfl⟩ := q9
  cases e9
  show AW G mX4_parseValue (d + 2) 0 0 Q 27 [(0, .ref (ad (0, 12))), (1, .int (nI t)), (2, .int (nI c))] [.int (nI q.1)] (cs_O ad S1 h) 0 0
  refine ax_iload_n dX4_parseValue_27 rfl ?_
  refine ax_icmp_eq (tgt := 33) dX4_parseValue_28 (by decide) (fun _ => ?_) (fun z => absurd he z)
  refine ax_aload_n dX4_parseValue_33 rfl ?_
  refine ax_get (v := .int (nI op)) dX4_parseValue_34 fkX4_26 (cs_get hi (cs_k0 (by decide))) (congrArg (fun z => some (Value.int z)) (h8)) ?_
  refine ax_if_lt (tgt := 61) dX4_parseValue_37 (by decide) (fun z => absurd z (nI_pos (by omega))) (fun _ => ?_)
  refine ax_aload_n dX4_parseValue_40 rfl ?_
  refine ax_get (v := .int (nI op)) dX4_parseValue_41 fkX4_26 (cs_get hi (cs_k0 (by decide))) (congrArg (fun z => some (Value.int z)) (h8)) ?_
  refine ax_bipush (v := 8) dX4_parseValue_44 (by decide) ?_
  refine ax_icmp_ge (tgt := 61) dX4_parseValue_46 (by decide) (fun z => absurd z (il_nle 8 op hop)) (fun _ => ?_)
  refine ax_aload_n dX4_parseValue_49 rfl ?_
  refine ax_get (v := .ref (ad (0, 14))) dX4_parseValue_50 fkX4_21 (cs_get hi (cs_k0 (by decide))) rfl ?_
  refine ax_aload_n dX4_parseValue_53 rfl ?_
  refine ax_get (v := .int (nI op)) dX4_parseValue_54 fkX4_26 (cs_get hi (cs_k0 (by decide))) (congrArg (fun z => some (Value.int z)) (h8)) ?_
  refine ax_caald dX4_parseValue_57 (cs_get hi (cs_k0 (by decide))) (pk_in op 8 hop) (cs_rfs (w := 304 + op) (by rw [nI_clamp (by omega)]; exact hf.2.2 _ hop)) ?_
  refine ax_ifnonnull (tgt := 63) dX4_parseValue_58 (by decide) ?_
  refine ax_aload_n dX4_parseValue_63 rfl ?_
  refine ax_get (v := .ref (ad (0, 14))) dX4_parseValue_64 fkX4_21 (cs_get hi (cs_k0 (by decide))) rfl ?_
  refine ax_aload_n dX4_parseValue_67 rfl ?_
  refine ax_get (v := .int (nI op)) dX4_parseValue_68 fkX4_26 (cs_get hi (cs_k0 (by decide))) (congrArg (fun z => some (Value.int z)) (h8)) ?_
  refine ax_caald dX4_parseValue_71 (cs_get hi (cs_k0 (by decide))) (pk_in op 8 hop) (cs_rfs (w := 304 + op) (by rw [nI_clamp (by omega)]; exact hf.2.2 _ hop)) ?_
  refine ax_astore_n dX4_parseValue_72 (by decide) ?_
  refine ax_sub (lv' := [(0, .ref (ad (0, 12))), (1, .int (nI t)), (2, .int (nI c)), (3, .ref (ad (1, 304 + op)))]) (fun _ z => z) ?_
  refine ax_aload_n dX4_parseValue_73 rfl ?_
  refine ax_dup dX4_parseValue_74 rfl ?_
  refine ax_get (v := .int (nI op)) dX4_parseValue_75 fkX4_26 (cs_get hi (cs_k0 (by decide))) (congrArg (fun z => some (Value.int z)) (h8)) ?_
  refine ax_iconst (v := 1) dX4_parseValue_78 (by decide) ?_
  refine ax_iadd dX4_parseValue_79 ?_
  refine ax_top (y := (nI (op + 1))) (nI_1 op) ?_
  refine ax_put dX4_parseValue_80 fpX4_26 (cs_get hi (cs_k0 (by decide))) rfl rfl (Nat.le_of_ble_eq_true rfl) ?_
  refine ax_eqh (cs_ps8 hi) ?_
  refine ax_aload_n dX4_parseValue_83 rfl ?_
  refine ax_iload_n dX4_parseValue_84 rfl ?_
  refine ax_iload_n dX4_parseValue_85 rfl ?_
  refine ax_callV (b := (ad (1, 304 + op))) (av := [.int (nI t), .int (nI c)]) (rest := []) (mc' := 0) (ms' := 0) dX4_parseValue_86 rfl lkX4_54 (cs_get hi (cs_k1 hv)) rfl (Nat.le_of_ble_eq_true rfl) (Nat.le_of_ble_eq_true rfl) (Nat.le_refl 0) (Nat.le_refl 0) (cv_begin hi _ (cs_setS S1 8 (nI (op + 1))) h hv (nI t) (nI c)) (fun E9 h9 q9 => by cases q9.1) (fun v9 h9 q9 => ?_)
  obtain ⟨e9, rfl⟩ := q9
  cases e9
  show AW G mX4_parseValue (d + 2) 0 0 Q 89 [(0, .ref (ad (0, 12))), (1, .int (nI t)), (2, .int (nI c)), (3, .ref (ad (1, 304 + op)))] [] (cs_O ad (cs_setV (cs_setS S1 8 (nI (op + 1))) (304 + op) (vr_beg (nI t) (nI c)) (cs_vn (cs_setS S1 8 (nI (op + 1))) (304 + op)) (cs_vp (cs_setS S1 8 (nI (op + 1))) (304 + op))) h) 0 0
  refine ax_iconst (v := 0) dX4_parseValue_89 (by decide) ?_
  refine ax_istore dX4_parseValue_90 (by decide) ?_
  refine ax_sub (lv' := [(0, .ref (ad (0, 12))), (1, .int (nI t)), (2, .int (nI c)), (3, .ref (ad (1, 304 + op))), (4, .int 0)]) (fun _ z => z) ?_
  exact k
set_option maxRecDepth 100000 in
set_option maxHeartbeats 4000000 in
theorem pv_skip (hi : cs_inj ad) (d : Nat) (S : cs_S) (h : ax_H) {g : sp_G} {c k op t : Nat} {q : sp_C} (hg : cs_g S g) (hw : sp_wg g) (hc : g.2.2.2[c]? = some q) (hk : k < 3) (h10 : sp_par q k = 10) {Q : ax_P} (k9 : AW G mX4_parseValue (d + 2) 0 0 Q 92 [(0, .ref (ad (0, 12))), (1, .int (nI t)), (2, .int (nI c)), (3, .ref (ad (1, 304 + op))), (4, .int (nI (k + 1)))] [] (cs_O ad S h) 0 0) : AW G mX4_parseValue (d + 2) 0 0 Q 92 [(0, .ref (ad (0, 12))), (1, .int (nI t)), (2, .int (nI c)), (3, .ref (ad (1, 304 + op))), (4, .int (nI k))] [] (cs_O ad S h) 0 0 := by
  refine ax_iload dX4_parseValue_92 rfl ?_
  refine ax_iconst (v := 3) dX4_parseValue_94 (by decide) ?_
  refine ax_icmp_ge (tgt := 134) dX4_parseValue_95 (by decide) (fun z => absurd z (il_nle 3 k hk)) (fun _ => ?_)
  refine ax_aload_n dX4_parseValue_98 rfl ?_
  refine ax_get (v := .ref (ad (0, 1))) dX4_parseValue_99 fkX4_9 (cs_get hi (cs_k0 (by decide))) rfl ?_
  refine ax_iload_n dX4_parseValue_102 rfl ?_
  refine ax_iload dX4_parseValue_103 rfl ?_
  refine ax_callV (b := (ad (0, 1))) (av := [.int (nI c), .int (nI k)]) (rest := []) (mc' := 0) (ms' := 0) dX4_parseValue_105 rfl lkX4_58 (cs_get hi (cs_k0 (by decide))) rfl (Nat.le_of_ble_eq_true rfl) (Nat.le_of_ble_eq_true rfl) (Nat.le_refl 0) (Nat.le_refl 0) (cg_parameter hi d S h hg hw hc (by omega)) (fun E9 h9 q9 => by cases q9.1) (fun v9 h9 q9 => ?_)
  obtain ⟨e9, rfl⟩ := q9
  cases e9
  show AW G mX4_parseValue (d + 2) 0 0 Q 108 [(0, .ref (ad (0, 12))), (1, .int (nI t)), (2, .int (nI c)), (3, .ref (ad (1, 304 + op))), (4, .int (nI k))] [.int (sp_pI (sp_par q k))] (cs_O ad S h) 0 0
  refine ax_istore dX4_parseValue_108 (by decide) ?_
  refine ax_sub (lv' := [(0, .ref (ad (0, 12))), (1, .int (nI t)), (2, .int (nI c)), (3, .ref (ad (1, 304 + op))), (4, .int (nI k)), (5, .int (sp_pI (sp_par q k)))]) (fun _ z => z) ?_
  refine ax_iload dX4_parseValue_110 rfl ?_
  refine ax_iconst (v := (-1)) dX4_parseValue_112 (by decide) ?_
  refine ax_icmp_eq (tgt := 128) dX4_parseValue_113 (by decide) (fun _ => ?_) (fun z => absurd (by rw [h10]; decide) z)
  refine ax_iinc (v := nI (k + 1)) dX4_parseValue_128 rfl (nI_1 k) (by decide) ?_
  refine ax_sub (lv' := [(0, .ref (ad (0, 12))), (1, .int (nI t)), (2, .int (nI c)), (3, .ref (ad (1, 304 + op))), (4, .int (nI (k + 1))), (5, .int (sp_pI (sp_par q k)))]) (fun _ z => z) ?_
  refine ax_goto (tgt := 92) dX4_parseValue_131 (by decide) ?_
  exact ax_sub (lv' := [(0, .ref (ad (0, 12))), (1, .int (nI t)), (2, .int (nI c)), (3, .ref (ad (1, 304 + op))), (4, .int (nI (k + 1)))]) (fun _ hz => List.take_subset 5 _ hz) k9
theorem sp_pI_ne {p : Nat} (h : p ≠ 10) (hp : p ≤ 10) : ¬ sp_pI p = -1 := by
  unfold sp_pI
  rw [if_neg h]
  intro z
  have h1 : ∀ p, p < 10 → ¬ nI p = -1 := by decide +kernel
  exact h1 p (by omega) z

set_option maxRecDepth 100000 in
set_option maxHeartbeats 4000000 in
theorem pv_turn (hi : cs_inj ad) (d : Nat) (S : cs_S) (h : ax_H) {g : sp_G} {c k op t : Nat} {q : sp_C} (hg : cs_g S g) (hw : sp_wg g) (hc : g.2.2.2[c]? = some q) (hk : k < 3) (h10 : sp_par q k ≠ 10) (hp9 : sp_par q k ≤ 10) {R0 R1 : cs_S → Prop} (hpa : AW G mX4_parseArgument (d + 1) 0 0 (fun r h1 => ∃ (b : Int32) (S1 : cs_S), r = .inl (some (.int b)) ∧ h1 = cs_O ad S1 h ∧ ((b = 0 ∧ R0 S1) ∨ (b = 1 ∧ R1 S1))) 0 [(0, .ref (ad (0, 12))), (1, .ref (ad (1, 304 + op))), (2, .int (sp_pI (sp_par q k)))] [] (cs_O ad S h) 0 0) {Q : ax_P} (k0 : ∀ S1, R0 S1 → Q (.inl (some .null)) (cs_O ad S1 h)) (k1 : ∀ S1, R1 S1 → AW G mX4_parseValue (d + 2) 0 0 Q 92 [(0, .ref (ad (0, 12))), (1, .int (nI t)), (2, .int (nI c)), (3, .ref (ad (1, 304 + op))), (4, .int (nI (k + 1)))] [] (cs_O ad S1 h) 0 0) : AW G mX4_parseValue (d + 2) 0 0 Q 92 [(0, .ref (ad (0, 12))), (1, .int (nI t)), (2, .int (nI c)), (3, .ref (ad (1, 304 + op))), (4, .int (nI k))] [] (cs_O ad S h) 0 0 := by
  refine ax_iload dX4_parseValue_92 rfl ?_
  refine ax_iconst (v := 3) dX4_parseValue_94 (by decide) ?_
  refine ax_icmp_ge (tgt := 134) dX4_parseValue_95 (by decide) (fun z => absurd z (il_nle 3 k hk)) (fun _ => ?_)
  refine ax_aload_n dX4_parseValue_98 rfl ?_
  refine ax_get (v := .ref (ad (0, 1))) dX4_parseValue_99 fkX4_9 (cs_get hi (cs_k0 (by decide))) rfl ?_
  refine ax_iload_n dX4_parseValue_102 rfl ?_
  refine ax_iload dX4_parseValue_103 rfl ?_
  refine ax_callV (b := (ad (0, 1))) (av := [.int (nI c), .int (nI k)]) (rest := []) (mc' := 0) (ms' := 0) dX4_parseValue_105 rfl lkX4_58 (cs_get hi (cs_k0 (by decide))) rfl (Nat.le_of_ble_eq_true rfl) (Nat.le_of_ble_eq_true rfl) (Nat.le_refl 0) (Nat.le_refl 0) (cg_parameter hi d S h hg hw hc (by omega)) (fun E9 h9 q9 => by cases q9.1) (fun v9 h9 q9 => ?_)
  obtain ⟨e9, rfl⟩ := q9
  cases e9
  show AW G mX4_parseValue (d + 2) 0 0 Q 108 [(0, .ref (ad (0, 12))), (1, .int (nI t)), (2, .int (nI c)), (3, .ref (ad (1, 304 + op))), (4, .int (nI k))] [.int (sp_pI (sp_par q k))] (cs_O ad S h) 0 0
  refine ax_istore dX4_parseValue_108 (by decide) ?_
  refine ax_sub (lv' := [(0, .ref (ad (0, 12))), (1, .int (nI t)), (2, .int (nI c)), (3, .ref (ad (1, 304 + op))), (4, .int (nI k)), (5, .int (sp_pI (sp_par q k)))]) (fun _ z => z) ?_
  refine ax_iload dX4_parseValue_110 rfl ?_
  refine ax_iconst (v := (-1)) dX4_parseValue_112 (by decide) ?_
  refine ax_icmp_eq (tgt := 128) dX4_parseValue_113 (by decide) (fun z => absurd z (sp_pI_ne h10 hp9)) (fun _ => ?_)
  refine ax_aload_n dX4_parseValue_116 rfl ?_
  refine ax_aload_n dX4_parseValue_117 rfl ?_
  refine ax_iload dX4_parseValue_118 rfl ?_
  refine ax_callV (b := (ad (0, 12))) (av := [.ref (ad (1, 304 + op)), .int (sp_pI (sp_par q k))]) (rest := []) (mc' := 0) (ms' := 0) dX4_parseValue_120 rfl lkX4_62 (cs_get hi (cs_k0 (by decide))) rfl (Nat.le_of_ble_eq_true rfl) (Nat.le_of_ble_eq_true rfl) (Nat.le_refl 0) (Nat.le_refl 0) (hpa) (fun E9 h9 q9 => by obtain ⟨_, _, z, _⟩ := q9; cases z) (fun v9 h9 q9 => ?_)
  obtain ⟨b9, S1, e9, rfl, hb⟩ := q9
  cases e9
  show AW G mX4_parseValue (d + 2) 0 0 Q 123 [(0, .ref (ad (0, 12))), (1, .int (nI t)), (2, .int (nI c)), (3, .ref (ad (1, 304 + op))), (4, .int (nI k)), (5, .int (sp_pI (sp_par q k)))] [.int b9] (cs_O ad S1 h) 0 0
  refine ax_if_ne (tgt := 128) dX4_parseValue_123 (by decide) (fun c1 => ?_) (fun c1 => ?_)
  · refine ax_iinc (v := nI (k + 1)) dX4_parseValue_128 rfl (nI_1 k) (by decide) ?_
    refine ax_sub (lv' := [(0, .ref (ad (0, 12))), (1, .int (nI t)), (2, .int (nI c)), (3, .ref (ad (1, 304 + op))), (4, .int (nI (k + 1))), (5, .int (sp_pI (sp_par q k)))]) (fun _ z => z) ?_
    refine ax_goto (tgt := 92) dX4_parseValue_131 (by decide) ?_
    refine ax_sub (lv' := [(0, .ref (ad (0, 12))), (1, .int (nI t)), (2, .int (nI c)), (3, .ref (ad (1, 304 + op))), (4, .int (nI (k + 1)))]) (fun _ hz => List.take_subset 5 _ hz) ?_
    rcases hb with ⟨z1, _⟩ | ⟨_, z⟩
    · exact absurd z1 c1
    · exact k1 S1 z
  · refine ax_null dX4_parseValue_126 ?_
    refine ax_aret (st := []) dX4_parseValue_127 rfl (Or.inl ⟨_, rfl⟩) (Or.inl rfl) ?_
    rcases hb with ⟨_, z⟩ | ⟨z1, _⟩
    · exact k0 S1 z
    · rw [z1] at c1; exact absurd c1 (by decide)
set_option maxRecDepth 100000 in
set_option maxHeartbeats 4000000 in
theorem pv_end (hi : cs_inj ad) (d : Nat) (S : cs_S) (h : ax_H) {g : sp_G} {c op t : Nat} {q : sp_C} (hg : cs_g S g) (hw : sp_wg g) (hc : g.2.2.2[c]? = some q) (hv : 304 + op < 312) {xs : List sp_X} (hok : sp_ok (cs_vf S (304 + op)) (cs_vn S (304 + op)) (cs_vp S (304 + op)) t c xs) (hgx : sp_g xs) {Q : ax_P} (q0 : sp_cond q.2.2.2.2 xs = false → Q (.inl (some .null)) (cs_O ad S h)) (q1 : sp_cond q.2.2.2.2 xs = true → Q (.inl (some (.ref (ad (1, 304 + op))))) (cs_O ad S h)) : AW G mX4_parseValue (d + 2) 0 0 Q 92 [(0, .ref (ad (0, 12))), (1, .int (nI t)), (2, .int (nI c)), (3, .ref (ad (1, 304 + op))), (4, .int (nI 3))] [] (cs_O ad S h) 0 0 := by
  refine ax_iload dX4_parseValue_92 rfl ?_
  refine ax_iconst (v := 3) dX4_parseValue_94 (by decide) ?_
  refine ax_icmp_ge (tgt := 134) dX4_parseValue_95 (by decide) (fun _ => ?_) (fun z => absurd (by decide) z)
  refine ax_aload_n dX4_parseValue_134 rfl ?_
  refine ax_aload_n dX4_parseValue_135 rfl ?_
  refine ax_get (v := .ref (ad (0, 1))) dX4_parseValue_136 fkX4_9 (cs_get hi (cs_k0 (by decide))) rfl ?_
  refine ax_iload_n dX4_parseValue_139 rfl ?_
  refine ax_callV (b := (ad (0, 1))) (av := [.int (nI c)]) (rest := [.ref (ad (1, 304 + op))]) (mc' := 0) (ms' := 0) dX4_parseValue_140 rfl lkX4_66 (cs_get hi (cs_k0 (by decide))) rfl (Nat.le_of_ble_eq_true rfl) (Nat.le_of_ble_eq_true rfl) (Nat.le_refl 0) (Nat.le_refl 0) (cg_conditionOf hi d S h hg hw hc) (fun E9 h9 q9 => by cases q9.1) (fun v9 h9 q9 => ?_)
  obtain ⟨e9, rfl⟩ := q9
  cases e9
  show AW G mX4_parseValue (d + 2) 0 0 Q 143 [(0, .ref (ad (0, 12))), (1, .int (nI t)), (2, .int (nI c)), (3, .ref (ad (1, 304 + op))), (4, .int (nI 3))] [.int (nI q.2.2.2.2), .ref (ad (1, 304 + op))] (cs_O ad S h) 0 0
  refine ax_callV (b := (ad (1, 304 + op))) (av := [.int (nI q.2.2.2.2)]) (rest := []) (mc' := 0) (ms' := 0) dX4_parseValue_143 rfl lkX4_69 (cs_get hi (cs_k1 hv)) rfl (Nat.le_of_ble_eq_true rfl) (Nat.le_of_ble_eq_true rfl) (Nat.le_refl 0) (Nat.le_refl 0) (ch_fits hi d S h hv hok hgx (hw.2.2.2.2 q (List.mem_of_getElem? hc)).2.2.2.2.2) (fun E9 h9 q9 => by cases q9.1) (fun v9 h9 q9 => ?_)
  obtain ⟨e9, rfl⟩ := q9
  cases e9
  show AW G mX4_parseValue (d + 2) 0 0 Q 146 [(0, .ref (ad (0, 12))), (1, .int (nI t)), (2, .int (nI c)), (3, .ref (ad (1, 304 + op))), (4, .int (nI 3))] [.int (if sp_cond q.2.2.2.2 xs then 1 else 0)] (cs_O ad S h) 0 0
  refine ax_if_eq (tgt := 153) dX4_parseValue_146 (by decide) (fun c1 => ?_) (fun c1 => ?_)
  · refine ax_null dX4_parseValue_153 ?_
    exact ax_aret (st := []) dX4_parseValue_154 rfl (Or.inl ⟨_, rfl⟩) (Or.inl rfl) (q0 (by cases hb : sp_cond q.2.2.2.2 xs with | false => rfl | true => rw [hb] at c1; exact absurd c1 (by decide)))
  · refine ax_aload_n dX4_parseValue_149 rfl ?_
    refine ax_goto (tgt := 154) dX4_parseValue_150 (by decide) ?_
    exact ax_aret (st := []) dX4_parseValue_154 rfl (Or.inl ⟨_, rfl⟩) (Or.inr ⟨_, rfl⟩) (q1 (by cases hb : sp_cond q.2.2.2.2 xs with | true => rfl | false => rw [hb] at c1; exact absurd rfl c1))
set_option maxRecDepth 100000 in
set_option maxHeartbeats 4000000 in
theorem pa_lo (hi : cs_inj ad) (d : Nat) (S S1 : cs_S) (h : ax_H) {x : Int32} {op lo : Nat} (hnx : AW G mX4_next (d + 1) 0 0 (fun r h1 => r = .inl (some (.int x)) ∧ h1 = cs_O ad S1 h) 0 [(0, .ref (ad (0, 12)))] [] (cs_O ad S h) 0 0) (h0 : S1.1 0 = nI lo) (hlt : x < nI lo) {Q : ax_P} (hq : Q (.inl (some (.int 0))) (cs_O ad S1 h)) : AW G mX4_parseArgument (d + 2) 0 0 Q 0 [(0, .ref (ad (0, 12))), (1, .ref (ad (1, 304 + op))), (2, .int (nI 9))] [] (cs_O ad S h) 0 0 := by
  refine ax_iload_n dX4_parseArgument_0 rfl ?_
  refine ax_bipush (v := 9) dX4_parseArgument_1 (by decide) ?_
  refine ax_icmp_ne (tgt := 42) dX4_parseArgument_3 (by decide) (fun z => absurd rfl z) (fun _ => ?_)
  refine ax_aload_n dX4_parseArgument_6 rfl ?_
  refine ax_callV (b := (ad (0, 12))) (av := []) (rest := []) (mc' := 0) (ms' := 0) dX4_parseArgument_7 rfl lkX4_40 (cs_get hi (cs_k0 (by decide))) rfl (Nat.le_of_ble_eq_true rfl) (Nat.le_of_ble_eq_true rfl) (Nat.le_refl 0) (Nat.le_refl 0) (hnx) (fun E9 h9 q9 => by cases q9.1) (fun v9 h9 q9 => ?_)
  obtain ⟨e9, rfl⟩ := q9
  cases e9
  show AW G mX4_parseArgument (d + 2) 0 0 Q 10 [(0, .ref (ad (0, 12))), (1, .ref (ad (1, 304 + op))), (2, .int (nI 9))] [.int x] (cs_O ad S1 h) 0 0
  refine ax_istore_n dX4_parseArgument_10 (by decide) ?_
  refine ax_sub (lv' := [(0, .ref (ad (0, 12))), (1, .ref (ad (1, 304 + op))), (2, .int (nI 9)), (3, .int x)]) (fun _ z => z) ?_
  refine ax_iload_n dX4_parseArgument_11 rfl ?_
  refine ax_aload_n dX4_parseArgument_12 rfl ?_
  refine ax_get (v := .ref (ad (0, 1))) dX4_parseArgument_13 fkX4_9 (cs_get hi (cs_k0 (by decide))) rfl ?_
  refine ax_get (v := .int (nI lo)) dX4_parseArgument_16 fkX4_72 (cs_get hi (cs_k0 (by decide))) (congrArg (fun z => some (Value.int z)) (h0)) ?_
  refine ax_icmp_lt (tgt := 33) dX4_parseArgument_19 (by decide) (fun _ => ?_) (fun z => absurd hlt z)
  refine ax_iconst (v := 0) dX4_parseArgument_33 (by decide) ?_
  exact ax_iret (st := []) dX4_parseArgument_34 rfl rfl hq
set_option maxRecDepth 100000 in
set_option maxHeartbeats 4000000 in
theorem pa_hi (hi : cs_inj ad) (d : Nat) (S S1 : cs_S) (h : ax_H) {x : Int32} {op lo hi2 : Nat} (hnx : AW G mX4_next (d + 1) 0 0 (fun r h1 => r = .inl (some (.int x)) ∧ h1 = cs_O ad S1 h) 0 [(0, .ref (ad (0, 12)))] [] (cs_O ad S h) 0 0) (h0 : S1.1 0 = nI lo) (h1 : S1.1 1 = nI hi2) (hlt : ¬ x < nI lo) (hle : ¬ x ≤ nI hi2) {Q : ax_P} (hq : Q (.inl (some (.int 0))) (cs_O ad S1 h)) : AW G mX4_parseArgument (d + 2) 0 0 Q 0 [(0, .ref (ad (0, 12))), (1, .ref (ad (1, 304 + op))), (2, .int (nI 9))] [] (cs_O ad S h) 0 0 := by
  refine ax_iload_n dX4_parseArgument_0 rfl ?_
  refine ax_bipush (v := 9) dX4_parseArgument_1 (by decide) ?_
  refine ax_icmp_ne (tgt := 42) dX4_parseArgument_3 (by decide) (fun z => absurd rfl z) (fun _ => ?_)
  refine ax_aload_n dX4_parseArgument_6 rfl ?_
  refine ax_callV (b := (ad (0, 12))) (av := []) (rest := []) (mc' := 0) (ms' := 0) dX4_parseArgument_7 rfl lkX4_40 (cs_get hi (cs_k0 (by decide))) rfl (Nat.le_of_ble_eq_true rfl) (Nat.le_of_ble_eq_true rfl) (Nat.le_refl 0) (Nat.le_refl 0) (hnx) (fun E9 h9 q9 => by cases q9.1) (fun v9 h9 q9 => ?_)
  obtain ⟨e9, rfl⟩ := q9
  cases e9
  show AW G mX4_parseArgument (d + 2) 0 0 Q 10 [(0, .ref (ad (0, 12))), (1, .ref (ad (1, 304 + op))), (2, .int (nI 9))] [.int x] (cs_O ad S1 h) 0 0
  refine ax_istore_n dX4_parseArgument_10 (by decide) ?_
  refine ax_sub (lv' := [(0, .ref (ad (0, 12))), (1, .ref (ad (1, 304 + op))), (2, .int (nI 9)), (3, .int x)]) (fun _ z => z) ?_
  refine ax_iload_n dX4_parseArgument_11 rfl ?_
  refine ax_aload_n dX4_parseArgument_12 rfl ?_
  refine ax_get (v := .ref (ad (0, 1))) dX4_parseArgument_13 fkX4_9 (cs_get hi (cs_k0 (by decide))) rfl ?_
  refine ax_get (v := .int (nI lo)) dX4_parseArgument_16 fkX4_72 (cs_get hi (cs_k0 (by decide))) (congrArg (fun z => some (Value.int z)) (h0)) ?_
  refine ax_icmp_lt (tgt := 33) dX4_parseArgument_19 (by decide) (fun z => absurd z hlt) (fun _ => ?_)
  refine ax_iload_n dX4_parseArgument_22 rfl ?_
  refine ax_aload_n dX4_parseArgument_23 rfl ?_
  refine ax_get (v := .ref (ad (0, 1))) dX4_parseArgument_24 fkX4_9 (cs_get hi (cs_k0 (by decide))) rfl ?_
  refine ax_get (v := .int (nI hi2)) dX4_parseArgument_27 fkX4_75 (cs_get hi (cs_k0 (by decide))) (congrArg (fun z => some (Value.int z)) (h1)) ?_
  refine ax_icmp_le (tgt := 35) dX4_parseArgument_30 (by decide) (fun z => absurd z hle) (fun _ => ?_)
  refine ax_iconst (v := 0) dX4_parseArgument_33 (by decide) ?_
  exact ax_iret (st := []) dX4_parseArgument_34 rfl rfl hq
set_option maxRecDepth 100000 in
set_option maxHeartbeats 4000000 in
theorem pa_num (hi : cs_inj ad) (d : Nat) (S S1 : cs_S) (h : ax_H) {a op lo hi2 : Nat} (hnx : AW G mX4_next (d + 1) 0 0 (fun r h1 => r = .inl (some (.int (nI a))) ∧ h1 = cs_O ad S1 h) 0 [(0, .ref (ad (0, 12)))] [] (cs_O ad S h) 0 0) (h0 : S1.1 0 = nI lo) (h1 : S1.1 1 = nI hi2) (hla : lo ≤ a) (hah : a ≤ hi2) (hh5 : hi2 ≤ 5) (hv : 304 + op < 312) (h30 : ¬ cs_vf S1 (304 + op) 3 < 0) (h33 : cs_vf S1 (304 + op) 3 < 3) {Q : ax_P} (hq : Q (.inl (some (.int 1))) (cs_O ad (cs_setV S1 (304 + op) (vr_num (cs_vf S1 (304 + op)) (nI a)) (upd (cs_vn S1 (304 + op)) (cs_vf S1 (304 + op) 3).toNatClampNeg (nI a)) (va_up (cs_vp S1 (304 + op)) (cs_vf S1 (304 + op) 3).toNatClampNeg none)) h)) : AW G mX4_parseArgument (d + 2) 0 0 Q 0 [(0, .ref (ad (0, 12))), (1, .ref (ad (1, 304 + op))), (2, .int (nI 9))] [] (cs_O ad S h) 0 0 := by
  refine ax_iload_n dX4_parseArgument_0 rfl ?_
  refine ax_bipush (v := 9) dX4_parseArgument_1 (by decide) ?_
  refine ax_icmp_ne (tgt := 42) dX4_parseArgument_3 (by decide) (fun z => absurd rfl z) (fun _ => ?_)
  refine ax_aload_n dX4_parseArgument_6 rfl ?_
  refine ax_callV (b := (ad (0, 12))) (av := []) (rest := []) (mc' := 0) (ms' := 0) dX4_parseArgument_7 rfl lkX4_40 (cs_get hi (cs_k0 (by decide))) rfl (Nat.le_of_ble_eq_true rfl) (Nat.le_of_ble_eq_true rfl) (Nat.le_refl 0) (Nat.le_refl 0) (hnx) (fun E9 h9 q9 => by cases q9.1) (fun v9 h9 q9 => ?_)
  obtain ⟨e9, rfl⟩ := q9
  cases e9
  show AW G mX4_parseArgument (d + 2) 0 0 Q 10 [(0, .ref (ad (0, 12))), (1, .ref (ad (1, 304 + op))), (2, .int (nI 9))] [.int (nI a)] (cs_O ad S1 h) 0 0
  refine ax_istore_n dX4_parseArgument_10 (by decide) ?_
  refine ax_sub (lv' := [(0, .ref (ad (0, 12))), (1, .ref (ad (1, 304 + op))), (2, .int (nI 9)), (3, .int (nI a))]) (fun _ z => z) ?_
  refine ax_iload_n dX4_parseArgument_11 rfl ?_
  refine ax_aload_n dX4_parseArgument_12 rfl ?_
  refine ax_get (v := .ref (ad (0, 1))) dX4_parseArgument_13 fkX4_9 (cs_get hi (cs_k0 (by decide))) rfl ?_
  refine ax_get (v := .int (nI lo)) dX4_parseArgument_16 fkX4_72 (cs_get hi (cs_k0 (by decide))) (congrArg (fun z => some (Value.int z)) (h0)) ?_
  refine ax_icmp_lt (tgt := 33) dX4_parseArgument_19 (by decide) (fun z => absurd z (il_nlt a lo hla)) (fun _ => ?_)
  refine ax_iload_n dX4_parseArgument_22 rfl ?_
  refine ax_aload_n dX4_parseArgument_23 rfl ?_
  refine ax_get (v := .ref (ad (0, 1))) dX4_parseArgument_24 fkX4_9 (cs_get hi (cs_k0 (by decide))) rfl ?_
  refine ax_get (v := .int (nI hi2)) dX4_parseArgument_27 fkX4_75 (cs_get hi (cs_k0 (by decide))) (congrArg (fun z => some (Value.int z)) (h1)) ?_
  refine ax_icmp_le (tgt := 35) dX4_parseArgument_30 (by decide) (fun _ => ?_) (fun z => absurd (il_le a hi2 hah) z)
  refine ax_aload_n dX4_parseArgument_35 rfl ?_
  refine ax_iload_n dX4_parseArgument_36 rfl ?_
  refine ax_callV (b := (ad (1, 304 + op))) (av := [.int (nI a)]) (rest := []) (mc' := 0) (ms' := 0) dX4_parseArgument_37 rfl lkX4_78 (cs_get hi (cs_k1 hv)) rfl (Nat.le_of_ble_eq_true rfl) (Nat.le_of_ble_eq_true rfl) (Nat.le_refl 0) (Nat.le_refl 0) (cv_num hi d S1 h hv (nI a) h30 h33) (fun E9 h9 q9 => by cases q9.1) (fun v9 h9 q9 => ?_)
  obtain ⟨e9, rfl⟩ := q9
  cases e9
  show AW G mX4_parseArgument (d + 2) 0 0 Q 40 [(0, .ref (ad (0, 12))), (1, .ref (ad (1, 304 + op))), (2, .int (nI 9)), (3, .int (nI a))] [] (cs_O ad (cs_setV S1 (304 + op) (vr_num (cs_vf S1 (304 + op)) (nI a)) (upd (cs_vn S1 (304 + op)) (cs_vf S1 (304 + op) 3).toNatClampNeg (nI a)) (va_up (cs_vp S1 (304 + op)) (cs_vf S1 (304 + op) 3).toNatClampNeg none)) h) 0 0
  refine ax_iconst (v := 1) dX4_parseArgument_40 (by decide) ?_
  exact ax_iret (st := []) dX4_parseArgument_41 rfl rfl hq
set_option maxRecDepth 100000 in
set_option maxHeartbeats 4000000 in
theorem pa_part (hi : cs_inj ad) (d : Nat) (S : cs_S) (h : ax_H) {op op2 u : Nat} (hu : u < 4) (hv : 304 + op < 312) (hop : op < op2) {R0 R1 : cs_S → Prop} (hw0 : ∀ S1, R1 S1 → op2 < 8) (h30 : ∀ S1, R1 S1 → ¬ cs_vf S1 (304 + op) 3 < 0 ∧ cs_vf S1 (304 + op) 3 < 3) (hpv : AW G mX4_parseValue (d + 1) 0 0 (fun r h1 => ∃ S1, h1 = cs_O ad S1 h ∧ ((r = .inl (some .null) ∧ R0 S1) ∨ (r = .inl (some (.ref (ad (1, 304 + op2)))) ∧ R1 S1))) 0 [(0, .ref (ad (0, 12))), (1, .int (nI u))] [] (cs_O ad S h) 0 0) {Q : ax_P} (k0 : ∀ S1, R0 S1 → Q (.inl (some (.int 0))) (cs_O ad S1 h)) (k1 : ∀ S1, R1 S1 → Q (.inl (some (.int 1))) (cs_O ad (cs_setV S1 (304 + op) (vr_part (cs_vf S1 (304 + op)) (cs_vf S1 (304 + op2))) (upd (cs_vn S1 (304 + op)) (cs_vf S1 (304 + op) 3).toNatClampNeg 0) (va_up (cs_vp S1 (304 + op)) (cs_vf S1 (304 + op) 3).toNatClampNeg (some (304 + op2)))) h)) : AW G mX4_parseArgument (d + 2) 0 0 Q 0 [(0, .ref (ad (0, 12))), (1, .ref (ad (1, 304 + op))), (2, .int (nI u))] [] (cs_O ad S h) 0 0 := by
  refine ax_iload_n dX4_parseArgument_0 rfl ?_
  refine ax_bipush (v := 9) dX4_parseArgument_1 (by decide) ?_
  refine ax_icmp_ne (tgt := 42) dX4_parseArgument_3 (by decide) (fun _ => ?_) (fun z => absurd z (il_ne u 9 (by omega)))
  refine ax_aload_n dX4_parseArgument_42 rfl ?_
  refine ax_iload_n dX4_parseArgument_43 rfl ?_
  refine ax_callV (b := (ad (0, 12))) (av := [.int (nI u)]) (rest := []) (mc' := 0) (ms' := 0) dX4_parseArgument_44 rfl lkX4_36 (cs_get hi (cs_k0 (by decide))) rfl (Nat.le_of_ble_eq_true rfl) (Nat.le_of_ble_eq_true rfl) (Nat.le_refl 0) (Nat.le_refl 0) hpv (fun E9 h9 q9 => by obtain ⟨_, _, ⟨z, _⟩ | ⟨z, _⟩⟩ := q9 <;> cases z) (fun v9 h9 q9 => ?_)
  obtain ⟨S1, rfl, ⟨e9, o1⟩ | ⟨e9, o1⟩⟩ := q9
  · cases e9
    show AW G mX4_parseArgument (d + 2) 0 0 Q 47 [(0, .ref (ad (0, 12))), (1, .ref (ad (1, 304 + op))), (2, .int (nI u))] [.null] (cs_O ad S1 h) 0 0
    refine ax_astore_nN dX4_parseArgument_47 (by decide) ?_
    refine ax_sub (lv' := [(0, .ref (ad (0, 12))), (1, .ref (ad (1, 304 + op))), (2, .int (nI u)), (3, .null)]) (fun _ z => z) ?_
    refine ax_aload_nN dX4_parseArgument_48 rfl ?_
    refine ax_ifnonnullN dX4_parseArgument_49 ?_
    refine ax_iconst (v := 0) dX4_parseArgument_52 (by decide) ?_
    exact ax_iret (st := []) dX4_parseArgument_53 rfl rfl (k0 S1 o1)
  · cases e9
    have hw : 304 + op2 < 312 := by have := hw0 S1 o1; omega
    show AW G mX4_parseArgument (d + 2) 0 0 Q 47 [(0, .ref (ad (0, 12))), (1, .ref (ad (1, 304 + op))), (2, .int (nI u))] [.ref (ad (1, 304 + op2))] (cs_O ad S1 h) 0 0
    refine ax_astore_n dX4_parseArgument_47 (by decide) ?_
    refine ax_sub (lv' := [(0, .ref (ad (0, 12))), (1, .ref (ad (1, 304 + op))), (2, .int (nI u)), (3, .ref (ad (1, 304 + op2)))]) (fun _ z => z) ?_
    refine ax_aload_n dX4_parseArgument_48 rfl ?_
    refine ax_ifnonnull (tgt := 54) dX4_parseArgument_49 (by decide) ?_
    refine ax_aload_n dX4_parseArgument_54 rfl ?_
    refine ax_aload_n dX4_parseArgument_55 rfl ?_
    refine ax_callV (b := (ad (1, 304 + op))) (av := [.ref (ad (1, 304 + op2))]) (rest := []) (mc' := 0) (ms' := 0) dX4_parseArgument_56 rfl lkX4_82 (cs_get hi (cs_k1 hv)) rfl (Nat.le_of_ble_eq_true rfl) (Nat.le_of_ble_eq_true rfl) (Nat.le_refl 0) (Nat.le_refl 0) (cv_part hi d S1 h hv hw (by omega) (h30 S1 o1).1 (h30 S1 o1).2) (fun E9 h9 q9 => by cases q9.1) (fun v9 h9 q9 => ?_)
    obtain ⟨e9, rfl⟩ := q9
    cases e9
    show AW G mX4_parseArgument (d + 2) 0 0 Q 59 [(0, .ref (ad (0, 12))), (1, .ref (ad (1, 304 + op))), (2, .int (nI u)), (3, .ref (ad (1, 304 + op2)))] [] (cs_O ad (cs_setV S1 (304 + op) (vr_part (cs_vf S1 (304 + op)) (cs_vf S1 (304 + op2))) (upd (cs_vn S1 (304 + op)) (cs_vf S1 (304 + op) 3).toNatClampNeg 0) (va_up (cs_vp S1 (304 + op)) (cs_vf S1 (304 + op) 3).toNatClampNeg (some (304 + op2)))) h) 0 0
    refine ax_iconst (v := 1) dX4_parseArgument_59 (by decide) ?_
    exact ax_iret (st := []) dX4_parseArgument_60 rfl rfl (k1 S1 o1)
end PAR

