/-! ===== all values of a size; the table ===== -/
def sp_lvl (g : sp_G) (T0 : List sp_E) (s : Nat) (cs : List Nat) : List sp_E := cs.flatMap (fun c => match g.2.2.2[c]? with
  | some q => (sp_ext T0 g.1 g.2.1 q 4 [] s).map (fun ys => (q.1, c, ys))
  | none => [])
/-- the table and the horizon: as many sizes as j more are tried -/
def sp_mk (g : sp_G) : Nat → List sp_E → Nat → List sp_E × Nat
  | 0, T, s => (T, s)
  | j + 1, T, s => if (sp_pushes (T, false) (sp_lvl g T s (List.range g.2.2.2.length))).2 then (T, s) else sp_mk g j (sp_pushes (T, false) (sp_lvl g T s (List.range g.2.2.2.length))).1 (s + 1)
def sp_tab (g : sp_G) : List sp_E × Nat := sp_mk g 8 [] 0
theorem sp_ah10 {ty k : Nat} {q : sp_C} (hq : sp_wc ty q) (h : sp_par q k = 10) : sp_ah q k = 0 := by
  have g1 := hq.2.2.1
  have g2 := hq.2.2.2.1
  match k, h with
  | 0, h =>
    have z0 : q.2.1 = 10 := h
    have z1 := g1 z0
    have z2 := g2 z1
    simp [sp_ah, sp_isT, z0, z1, z2]
  | 1, h =>
    have z1 : q.2.2.1 = 10 := h
    have z2 := g2 z1
    simp [sp_ah, sp_isT, z1, z2]
  | 2, h =>
    have z2 : q.2.2.2.1 = 10 := h
    simp [sp_ah, sp_isT, z2]
  | k + 3, _ => rfl
theorem sp_ext_size {T0 : List sp_E} (hs : sp_srt T0) {lo hi ty : Nat} {q : sp_C} (hq : sp_wc ty q) : ∀ (n : Nat) (xs : List sp_X) (left : Nat) (ys : List sp_X), ys ∈ sp_ext T0 lo hi q n xs left → sp_size ys = sp_size xs + left := by
  intro n
  induction n with
  | zero => intro xs left ys h; cases h
  | succ n ih =>
    intro xs left ys h
    unfold sp_ext at h
    by_cases hwr : (if sp_ah q xs.length = 0 then left ≠ 0 else left < sp_ah q xs.length)
    · rw [if_pos hwr] at h; cases h
    rw [if_neg hwr] at h
    by_cases hho : ((sp_par q xs.length = 10 ∨ q.2.2.2.2 ≠ 5) ∧ sp_cond q.2.2.2.2 xs = false)
    · rw [if_pos hho] at h; cases h
    rw [if_neg hho] at h
    by_cases h10 : sp_par q xs.length = 10
    · rw [if_pos h10] at h
      rw [if_pos (sp_ah10 hq h10)] at hwr
      simp at h
      rw [h]; omega
    rw [if_neg h10] at h
    by_cases h9 : sp_par q xs.length = 9
    · rw [if_pos h9] at h
      obtain ⟨m, -, hm⟩ := List.mem_flatMap.mp h
      have := ih _ _ _ hm
      rw [sp_size_app] at this
      simpa [sp_size] using this
    · rw [if_neg h9] at h
      obtain ⟨v, hv, hm⟩ := List.mem_flatMap.mp h
      have hv1 := List.mem_of_mem_drop hv
      obtain ⟨r, hr⟩ := List.getElem?_of_mem hv1
      have hr2 := (List.getElem?_eq_some_iff.mp hr).1
      rw [List.length_take] at hr2
      rw [List.getElem?_take, if_pos (by omega)] at hr
      obtain ⟨e, e1, e2, e3, e4⟩ := sp_upto_in hs hr (z := left - (sp_ah q xs.length - 1)) (by omega)
      rw [e1] at hm
      simp only at hm
      split at hm
      · cases hm
      · have := ih _ _ _ hm
        rw [sp_size_app] at this
        have h5 : sp_size [.inr (sp_att v e)] = 1 + sp_size e.2.2 := rfl
        unfold sp_sz at e4
        omega
theorem sp_pushes_mem {p : List sp_E × Bool} {l : List sp_E} {P : sp_E → Prop} (h1 : ∀ e ∈ p.1, P e) (h2 : ∀ e ∈ l, P e) : ∀ e ∈ (sp_pushes p l).1, P e := by
  induction l generalizing p with
  | nil => exact h1
  | cons a r ih =>
    refine ih (p := sp_push p a) ?_ (fun e he => h2 e (List.mem_cons_of_mem _ he))
    intro e he
    unfold sp_push at he
    split at he
    · exact h1 e he
    split at he
    · exact h1 e he
    · rcases List.mem_append.mp he with z | z
      · exact h1 e z
      · simp at z; rw [z]; exact h2 a List.mem_cons_self
theorem sp_pushes_pre (p : List sp_E × Bool) (l : List sp_E) : ∃ r, (sp_pushes p l).1 = p.1 ++ r ∧ ∀ e ∈ r, e ∈ l := by
  induction l generalizing p with
  | nil => exact ⟨[], (List.append_nil _).symm, fun e he => by cases he⟩
  | cons a l ih =>
    obtain ⟨r, h1, h2⟩ := ih (sp_push p a)
    have h3 : (sp_pushes p (a :: l)).1 = (sp_push p a).1 ++ r := h1
    rw [h3]
    by_cases hp : p.2 = true
    · have : sp_push p a = p := if_pos hp
      rw [this]
      exact ⟨r, rfl, fun e he => List.mem_cons_of_mem _ (h2 e he)⟩
    by_cases hl : p.1.length = 300
    · have : sp_push p a = (p.1, true) := by unfold sp_push; rw [if_neg hp, if_pos hl]
      rw [this]
      exact ⟨r, rfl, fun e he => List.mem_cons_of_mem _ (h2 e he)⟩
    · have : sp_push p a = (p.1 ++ [a], false) := by unfold sp_push; rw [if_neg hp, if_neg hl]
      rw [this]
      refine ⟨a :: r, by simp, fun e he => ?_⟩
      rcases List.mem_cons.mp he with z | z
      · rw [z]; exact List.mem_cons_self
      · exact List.mem_cons_of_mem _ (h2 e z)
/-- the sizes so far -/
def sp_le (T : List sp_E) (s : Nat) : Prop := ∀ e ∈ T, sp_sz e ≤ s
theorem sp_lvl_size {g : sp_G} (hw : sp_wg g) {T0 : List sp_E} (hs : sp_srt T0) {s : Nat} {cs : List Nat} : ∀ e ∈ sp_lvl g T0 s cs, sp_sz e = s + 1 := by
  intro e he
  obtain ⟨c, -, hc⟩ := List.mem_flatMap.mp he
  cases hq : g.2.2.2[c]? with
  | none => rw [hq] at hc; cases hc
  | some q =>
    rw [hq] at hc
    obtain ⟨ys, hy, rfl⟩ := List.mem_map.mp hc
    have := sp_ext_size hs (hw.2.2.2.2 q (List.mem_of_getElem? hq)) 4 [] s ys hy
    show 1 + sp_size ys = s + 1
    rw [this]; simp [sp_size]; omega
theorem sp_srt_app {T r : List sp_E} {s : Nat} (hs : sp_srt T) (hl : sp_le T s) (hr : ∀ e ∈ r, sp_sz e = s + 1) : sp_srt (T ++ r) := by
  intro v w e f hvw he hf
  by_cases hw : w < T.length
  · rw [List.getElem?_append_left hw] at hf
    rw [List.getElem?_append_left (by omega)] at he
    exact hs v w e f hvw he hf
  · rw [List.getElem?_append_right (by omega)] at hf
    have h2 := hr f (List.mem_of_getElem? hf)
    by_cases hv : v < T.length
    · rw [List.getElem?_append_left hv] at he
      have := hl e (List.mem_of_getElem? he)
      omega
    · rw [List.getElem?_append_right (by omega)] at he
      have := hr e (List.mem_of_getElem? he)
      omega
theorem sp_upto_app {T r : List sp_E} {s : Nat} (hr : ∀ e ∈ r, sp_sz e = s + 1) (t z : Nat) (hz : z ≤ s) : sp_upto (T ++ r) t z = sp_upto T t z := by
  unfold sp_upto
  rw [List.countP_append]
  have : r.countP (fun e => e.1 == t && decide (1 + sp_size e.2.2 ≤ z)) = 0 := by
    rw [List.countP_eq_zero]
    intro e he hc
    have h1 := hr e he
    simp at hc
    unfold sp_sz at h1
    omega
  omega
theorem sp_upto_all {T : List sp_E} {s : Nat} (h : sp_le T s) (t : Nat) : sp_upto T t s = sp_cnt T t := by
  unfold sp_upto sp_cnt
  apply List.countP_congr
  intro e he
  have := h e he
  unfold sp_sz at this
  simp; intro _; omega
/-- what a making of values leaves as it was -/
def st_sm (S S' : cs_S) : Prop := (∀ i, i ≠ 4 → i ≠ 5 → S'.1 i = S.1 i) ∧ (∀ i, i ≠ 9 → S'.2.1 i = S.2.1 i) ∧ (∀ i, i ≠ 8 → S'.2.2.1 i = S.2.2.1 i) ∧ (∀ v, 304 ≤ v → cs_vf S' v = cs_vf S v ∧ cs_vn S' v = cs_vn S v ∧ cs_vp S' v = cs_vp S v) ∧ S'.2.2.2.2.2.2 = S.2.2.2.2.2.2
theorem st_sm_rfl (S : cs_S) : st_sm S S := ⟨fun _ _ _ => rfl, fun _ _ => rfl, fun _ _ => rfl, fun _ _ => ⟨rfl, rfl, rfl⟩, rfl⟩
theorem st_sm_tr {S1 S2 S3 : cs_S} (h1 : st_sm S1 S2) (h2 : st_sm S2 S3) : st_sm S1 S3 :=
  ⟨fun i a b => (h2.1 i a b).trans (h1.1 i a b), fun i a => (h2.2.1 i a).trans (h1.2.1 i a), fun i a => (h2.2.2.1 i a).trans (h1.2.2.1 i a), fun v a => ⟨(h2.2.2.2.1 v a).1.trans (h1.2.2.2.1 v a).1, (h2.2.2.2.1 v a).2.1.trans (h1.2.2.2.1 v a).2.1, (h2.2.2.2.1 v a).2.2.trans (h1.2.2.2.1 v a).2.2⟩, h2.2.2.2.2.trans h1.2.2.2.2⟩
theorem st_sm_of {k : Nat} {S S' : cs_S} (h : st_same k S S') : st_sm S S' := ⟨h.1, h.2.1, h.2.2.1, fun v a => h.2.2.2.1 v (by omega) (Or.inr a), h.2.2.2.2⟩
theorem st_sm_cp {v : Nat} {S S' : cs_S} (h : st_cp v S S') (hv : v < 304) : st_sm S S' := ⟨fun i _ _ => by rw [h.1], fun i _ => by rw [h.2.1], fun i _ => by rw [h.2.2.1], fun w a => h.2.2.2.1 w (by omega), h.2.2.2.2⟩
theorem ch_begin {G : ax_G} {ad : cs_K → Nat} (hi : cs_inj ad) (d : Nat) (S : cs_S) (h : ax_H) {v : Nat} (hv : v < 312) (t c : Nat) : AW G mX5_begin d 0 0 (fun r h1 => r = .inl none ∧ ∃ S1, h1 = cs_O ad S1 h ∧ st_cp v S S1 ∧ sp_ok (cs_vf S1 v) (cs_vn S1 v) (cs_vp S1 v) t c []) 0 [(0, .ref (ad (1, v))), (1, .int (nI t)), (2, .int (nI c))] [] (cs_O ad S h) 0 0 := by
  refine ax_mono (cv_begin hi d S h hv (nI t) (nI c)) ?_
  rintro r h1 ⟨e, rfl⟩
  refine ⟨e, _, rfl, st_cp_V, ?_⟩
  have := sp_beg t c (cs_vn S v) (cs_vp S v)
  simpa [cs_vf, cs_vn, cs_vp, cs_setV, va_up] using this
theorem sp_xs_nil {T0 : List sp_E} {lo hi : Nat} : sp_xs T0 lo hi [] := ⟨by simp, fun _ z => absurd z List.not_mem_nil, fun _ z => absurd z List.not_mem_nil⟩
def st_ou2 (g : sp_G) (T0 : List sp_E) (s : Nat) (p : List sp_E × Bool) (S S' : cs_S) : Prop := st_in g S' p.1 T0 s ∧ st_sm S S' ∧ S'.1 5 = (if p.2 then 1 else 0)

set_option maxRecDepth 100000 in
set_option maxHeartbeats 4000000 in
theorem lp_mks1 {G : ax_G} {ad : cs_K → Nat} (hi : cs_inj ad) {g : sp_G} {T0 : List sp_E} {s : Nat} (hw : sp_wg g) (hs7 : s ≤ 7) (hl0 : T0.length ≤ 300) (hsrt : sp_srt T0) (d : Nat) (h : ax_H) {Q : ax_P} (c : Nat) (q : sp_C) (S : cs_S) (T : List sp_E) (hc : g.2.2.2[c]? = some q) (hin : st_in g S T T0 s) (h5 : S.1 5 = 0)
    (k : ∀ S3 : cs_S, st_ou2 g T0 s (sp_pushes (T, false) ((sp_ext T0 g.1 g.2.1 q 4 [] s).map (fun ys => (q.1, c, ys)))) S S3 → AW G mX3_makeSize (d + 12) 0 0 Q 14 [(0, .ref (ad (0, 6))), (1, .int (nI (s + 1))), (2, .ref (ad (1, 300))), (3, .int (nI (c + 1)))] [] (cs_O ad S3 h) 0 0) :
    AW G mX3_makeSize (d + 12) 0 0 Q 14 [(0, .ref (ad (0, 6))), (1, .int (nI (s + 1))), (2, .ref (ad (1, 300))), (3, .int (nI c))] [] (cs_O ad S h) 0 0 := by
  have hlt : c < g.2.2.2.length := (List.getElem?_eq_some_iff.mp hc).1
  have hl6 := hw.2.2.2.1
  refine ax_iload_n dX3_makeSize_14 rfl ?_
  refine ax_aload_n dX3_makeSize_15 rfl ?_
  refine ax_get (v := .ref (ad (0, 1))) dX3_makeSize_16 fkX3_9 (cs_get hi (cs_k0 (by decide))) rfl ?_
  refine ax_get (v := .int (nI g.2.2.2.length)) dX3_makeSize_19 fkX3_74 (cs_get hi (cs_k0 (by decide))) (congrArg (fun z => some (Value.int z)) (hin.1.2.2.2.1)) ?_
  refine ax_icmp_ge (tgt := 59) dX3_makeSize_22 (by decide) (fun z => absurd z (il_nle g.2.2.2.length c hlt)) (fun _ => ?_)
  refine ax_aload_n dX3_makeSize_25 rfl ?_
  refine ax_get (v := .int 0) dX3_makeSize_26 fkX3_39 (cs_get hi (cs_k0 (by decide))) (congrArg (fun z => some (Value.int z)) (h5)) ?_
  refine ax_if_ne (tgt := 59) dX3_makeSize_29 (by decide) (fun z => absurd rfl z) (fun _ => ?_)
  refine ax_aload_n dX3_makeSize_32 rfl ?_
  refine ax_aload_n dX3_makeSize_33 rfl ?_
  refine ax_get (v := .ref (ad (0, 1))) dX3_makeSize_34 fkX3_9 (cs_get hi (cs_k0 (by decide))) rfl ?_
  refine ax_iload_n dX3_makeSize_37 rfl ?_
  refine ax_callV (b := (ad (0, 1))) (av := [.int (nI c)]) (rest := [.ref (ad (1, 300))]) (mc' := 0) (ms' := 0) dX3_makeSize_38 rfl lkX3_79 (cs_get hi (cs_k0 (by decide))) rfl (Nat.le_of_ble_eq_true rfl) (Nat.le_of_ble_eq_true rfl) (Nat.le_refl 0) (Nat.le_refl 0) (cg_typeOf hi _ S h hin.1 hw hc) (fun E9 h9 q9 => by cases q9.1) (fun v9 h9 q9 => ?_)
  obtain ⟨e9, rfl⟩ := q9
  cases e9
  show AW G mX3_makeSize (d + 12) 0 0 Q 41 [(0, .ref (ad (0, 6))), (1, .int (nI (s + 1))), (2, .ref (ad (1, 300))), (3, .int (nI c))] [.int (nI q.1), .ref (ad (1, 300))] (cs_O ad S h) 0 0
  refine ax_iload_n dX3_makeSize_41 rfl ?_
  refine ax_callV (b := (ad (1, 300))) (av := [.int (nI q.1), .int (nI c)]) (rest := []) (mc' := 0) (ms' := 0) dX3_makeSize_42 rfl lkX3_83 (cs_get hi (cs_k1 (by omega))) rfl (Nat.le_of_ble_eq_true rfl) (Nat.le_of_ble_eq_true rfl) (Nat.le_refl 0) (Nat.le_refl 0) (ch_begin hi _ S h (by omega) q.1 c) (fun E9 h9 q9 => by cases q9.1) (fun v9 h9 q9 => ?_)
  obtain ⟨e9, S1, rfl, cp1, ok1⟩ := q9
  cases e9
  show AW G mX3_makeSize (d + 12) 0 0 Q 45 [(0, .ref (ad (0, 6))), (1, .int (nI (s + 1))), (2, .ref (ad (1, 300))), (3, .int (nI c))] [] (cs_O ad S1 h) 0 0
  refine ax_aload_n dX3_makeSize_45 rfl ?_
  refine ax_aload_n dX3_makeSize_46 rfl ?_
  refine ax_iload_n dX3_makeSize_47 rfl ?_
  refine ax_iconst (v := 1) dX3_makeSize_48 (by decide) ?_
  refine ax_isub dX3_makeSize_49 ?_
  refine ax_top (nI_pred s) ?_
  refine ax_callV (b := (ad (0, 6))) (av := [.ref (ad (1, 300)), .int (nI s)]) (rest := []) (mc' := 0) (ms' := 0) dX3_makeSize_50 rfl lkX3_87 (cs_get hi (cs_k0 (by decide))) rfl (Nat.le_of_ble_eq_true rfl) (Nat.le_of_ble_eq_true rfl) (Nat.le_refl 0) (Nat.le_refl 0) (ch_extend hi hw hc hs7 hl0 hsrt 4 _ (by omega) S1 h T [] s 0 rfl rfl (st_cp_in cp1 (by omega) hin) (by rw [cp1.1]; exact h5) sp_xs_nil ok1 (by simp [sp_size])) (fun E9 h9 q9 => by cases q9.1) (fun v9 h9 q9 => ?_)
  obtain ⟨e9, S3, rfl, o9⟩ := q9
  cases e9
  show AW G mX3_makeSize (d + 12) 0 0 Q 53 [(0, .ref (ad (0, 6))), (1, .int (nI (s + 1))), (2, .ref (ad (1, 300))), (3, .int (nI c))] [] (cs_O ad S3 h) 0 0
  refine ax_iinc (v := nI (c + 1)) dX3_makeSize_53 rfl (nI_1 c) (by decide) ?_
  refine ax_sub (lv' := [(0, .ref (ad (0, 6))), (1, .int (nI (s + 1))), (2, .ref (ad (1, 300))), (3, .int (nI (c + 1)))]) (fun _ z => z) ?_
  refine ax_goto (tgt := 14) dX3_makeSize_56 (by decide) ?_
  exact k S3 ⟨o9.1, st_sm_tr (st_sm_cp cp1 (by omega)) (st_sm_of o9.2.1), o9.2.2⟩
set_option maxRecDepth 100000 in
set_option maxHeartbeats 4000000 in
theorem lp_mks0 {G : ax_G} {ad : cs_K → Nat} (hi : cs_inj ad) {g : sp_G} {T0 : List sp_E} {s : Nat} (hw : sp_wg g) (hs7 : s ≤ 7) (hl0 : T0.length ≤ 300) (hsrt : sp_srt T0) (d : Nat) (h : ax_H) {Q : ax_P} (c : Nat) (S : cs_S) {T : List sp_E} (hin : st_in g S T T0 s) (h59 : c = g.2.2.2.length ∨ (c < g.2.2.2.length ∧ S.1 5 = 1)) (hq : Q (.inl none) (cs_O ad S h)) : AW G mX3_makeSize (d + 12) 0 0 Q 14 [(0, .ref (ad (0, 6))), (1, .int (nI (s + 1))), (2, .ref (ad (1, 300))), (3, .int (nI c))] [] (cs_O ad S h) 0 0 := by
  have hl6 := hw.2.2.2.1
  rcases h59 with h59 | ⟨hlt, h5⟩
  · skip
    refine ax_iload_n dX3_makeSize_14 rfl ?_
    refine ax_aload_n dX3_makeSize_15 rfl ?_
    refine ax_get (v := .ref (ad (0, 1))) dX3_makeSize_16 fkX3_9 (cs_get hi (cs_k0 (by decide))) rfl ?_
    refine ax_get (v := .int (nI g.2.2.2.length)) dX3_makeSize_19 fkX3_74 (cs_get hi (cs_k0 (by decide))) (congrArg (fun z => some (Value.int z)) (hin.1.2.2.2.1)) ?_
    refine ax_icmp_ge (tgt := 59) dX3_makeSize_22 (by decide) (fun _ => ?_) (fun z => absurd (il_le g.2.2.2.length c (by omega)) z)
    exact ax_vret (st := []) dX3_makeSize_59 rfl hq
  · skip
    refine ax_iload_n dX3_makeSize_14 rfl ?_
    refine ax_aload_n dX3_makeSize_15 rfl ?_
    refine ax_get (v := .ref (ad (0, 1))) dX3_makeSize_16 fkX3_9 (cs_get hi (cs_k0 (by decide))) rfl ?_
    refine ax_get (v := .int (nI g.2.2.2.length)) dX3_makeSize_19 fkX3_74 (cs_get hi (cs_k0 (by decide))) (congrArg (fun z => some (Value.int z)) (hin.1.2.2.2.1)) ?_
    refine ax_icmp_ge (tgt := 59) dX3_makeSize_22 (by decide) (fun z => absurd z (il_nle g.2.2.2.length c hlt)) (fun _ => ?_)
    refine ax_aload_n dX3_makeSize_25 rfl ?_
    refine ax_get (v := .int 1) dX3_makeSize_26 fkX3_39 (cs_get hi (cs_k0 (by decide))) (congrArg (fun z => some (Value.int z)) (h5)) ?_
    refine ax_if_ne (tgt := 59) dX3_makeSize_29 (by decide) (fun _ => ?_) (fun z => absurd z (by decide))
    exact ax_vret (st := []) dX3_makeSize_59 rfl hq
theorem lp_mks {G : ax_G} {ad : cs_K → Nat} (hi : cs_inj ad) {g : sp_G} {T0 : List sp_E} {s : Nat} (hw : sp_wg g) (hs7 : s ≤ 7) (hl0 : T0.length ≤ 300) (hsrt : sp_srt T0) (d : Nat) (h : ax_H) {Q : ax_P} : ∀ (j c : Nat) (S : cs_S) (p : List sp_E × Bool), c + j = g.2.2.2.length → st_in g S p.1 T0 s → S.1 5 = (if p.2 then 1 else 0) → (∀ S', st_ou2 g T0 s (sp_pushes p (sp_lvl g T0 s (List.range' c j))) S S' → Q (.inl none) (cs_O ad S' h)) →
    AW G mX3_makeSize (d + 12) 0 0 Q 14 [(0, .ref (ad (0, 6))), (1, .int (nI (s + 1))), (2, .ref (ad (1, 300))), (3, .int (nI c))] [] (cs_O ad S h) 0 0 := by
  intro j
  induction j with
  | zero =>
    intro c S p hm hin h5 hQ
    exact lp_mks0 hi hw hs7 hl0 hsrt d h c S hin (Or.inl (by omega)) (hQ S ⟨hin, st_sm_rfl _, h5⟩)
  | succ j ih =>
    intro c S p hm hin h5 hQ
    cases hp : p.2 with
    | true =>
      rw [hp] at h5
      refine lp_mks0 hi hw hs7 hl0 hsrt d h c S hin (Or.inr ⟨by omega, h5⟩) (hQ S ?_)
      rw [sp_full hp]
      exact ⟨hin, st_sm_rfl _, by rw [hp]; exact h5⟩
    | false =>
      rw [hp] at h5
      obtain ⟨T, b⟩ := p
      cases hp
      have hq : g.2.2.2[c]? = some (g.2.2.2[c]'(by omega)) := List.getElem?_eq_getElem (by omega)
      refine lp_mks1 hi hw hs7 hl0 hsrt d h c _ S T hq hin h5 (fun S3 o9 => ?_)
      refine ih (c + 1) S3 _ (by omega) o9.1 o9.2.2 (fun S' o' => hQ S' ?_)
      rw [List.range'_succ, sp_lvl, List.flatMap_cons, sp_pushes_app, hq]
      exact ⟨o'.1, st_sm_tr o9.2.1 o'.2.1, o'.2.2⟩

set_option maxRecDepth 100000 in
set_option maxHeartbeats 4000000 in
theorem ch_makeSize {G : ax_G} {ad : cs_K → Nat} (hi : cs_inj ad) {g : sp_G} {T0 : List sp_E} {s : Nat} (hw : sp_wg g) (hs7 : s ≤ 7) (hl0 : T0.length ≤ 300) (hsrt : sp_srt T0) (d : Nat) (h : ax_H) {Q : ax_P} (S : cs_S) (T : List sp_E) (hin : st_in g S T T0 s) (h5 : S.1 5 = 0) (hQ : ∀ S', st_ou2 g T0 s (sp_pushes (T, false) (sp_lvl g T0 s (List.range g.2.2.2.length))) S S' → Q (.inl none) (cs_O ad S' h)) : AW G mX3_makeSize (d + 12) 0 0 Q 0 [(0, .ref (ad (0, 6))), (1, .int (nI (s + 1)))] [] (cs_O ad S h) 0 0 := by
  refine ax_aload_n dX3_makeSize_0 rfl ?_
  refine ax_get (v := .ref (ad (0, 11))) dX3_makeSize_1 fkX3_32 (cs_get hi (cs_k0 (by decide))) rfl ?_
  refine ax_iconst (v := 0) dX3_makeSize_4 (by decide) ?_
  refine ax_caald dX3_makeSize_5 (cs_get hi (cs_k0 (by decide))) (by unfold vp_in; decide) (cs_rfs (w := 300) (hin.2.1.2.1 0 (by decide))) ?_
  refine ax_astore_n dX3_makeSize_6 (by decide) ?_
  refine ax_sub (lv' := [(0, .ref (ad (0, 6))), (1, .int (nI (s + 1))), (2, .ref (ad (1, 300)))]) (fun _ z => z) ?_
  refine ax_aload_n dX3_makeSize_7 rfl ?_
  refine ax_ifnonnull (tgt := 12) dX3_makeSize_8 (by decide) ?_
  refine ax_iconst (v := 0) dX3_makeSize_12 (by decide) ?_
  refine ax_istore_n dX3_makeSize_13 (by decide) ?_
  refine ax_sub (lv' := [(0, .ref (ad (0, 6))), (1, .int (nI (s + 1))), (2, .ref (ad (1, 300))), (3, .int 0)]) (fun _ z => z) ?_
  exact lp_mks hi hw hs7 hl0 hsrt d h g.2.2.2.length 0 S (T, false) (by omega) hin h5 (by rw [← List.range_eq_range']; exact hQ)
