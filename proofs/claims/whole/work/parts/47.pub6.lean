/-! ===== reading a table's code; read ===== -/
theorem sp_ar_10 {q : sp_C} {k : Nat} (h : sp_ar q = k) (hk : k < 3) : sp_par q k = 10 := by
  unfold sp_ar at h
  by_cases h0 : q.2.1 = 10
  · rw [if_pos h0] at h; subst h; exact h0
  · rw [if_neg h0] at h
    by_cases h1 : q.2.2.1 = 10
    · rw [if_pos h1] at h; subst h; exact h1
    · rw [if_neg h1] at h
      by_cases h2 : q.2.2.2.1 = 10
      · rw [if_pos h2] at h; subst h; exact h2
      · rw [if_neg h2] at h; omega
theorem lk_lka {g : sp_G} {T : List sp_E} {q : sp_C} {xs : List sp_X} {n : Nat} (hx : sp_tyx g T q xs) (hl : xs.length = sp_ar q) (R : List Nat)
    (IH : ∀ p, .inr p ∈ xs → ∀ e', T[p.1]? = some e' → ∀ R', sp_look g n e'.1 (sp_cd T p.1 ++ R') = some ((sp_sz e', 1 + sp_max (sp_hts e'.2.2), sp_ints e'.2.2), R')) :
    ∀ (i k : Nat), k + i = xs.length → sp_lka (sp_look g n) g q (3 - k) k ((xs.take k).map sp_x0) (((xs.drop k).map (sp_pc T)).flatten ++ R) = some (xs.map sp_x0, R) := by
  have h3 := sp_ar_le q
  intro i
  induction i with
  | zero =>
    intro k hk
    have hk : k = xs.length := by omega
    subst hk
    rw [List.take_length, List.drop_length, List.map_nil, List.flatten_nil, List.nil_append]
    by_cases h : xs.length < 3
    · exact sp_lka_10 (sp_ar_10 hl.symm h)
    · rw [show 3 - xs.length = 0 by omega]; rfl
  | succ i ih =>
    intro k hk
    have hkl : k < xs.length := by omega
    have hxk := hx k xs[k] (List.getElem?_eq_getElem hkl)
    obtain ⟨j, hj⟩ : ∃ j, 3 - k = j + 1 := ⟨2 - k, by omega⟩
    have hj2 : 3 - (k + 1) = j := by omega
    have hi := ih (k + 1) (by omega)
    rw [hj2, List.take_succ_eq_append_getElem hkl, List.map_append] at hi
    rw [hj, List.drop_eq_getElem_cons hkl, List.map_cons, List.flatten_cons, List.append_assoc]
    cases he : xs[k] with
    | inl m =>
      rw [he] at hxk hi
      have hxk : sp_par q k = 9 ∧ g.1 ≤ m ∧ m ≤ g.2.1 := hxk
      rw [sp_lka_9 hxk.1]
      show (if g.1 ≤ m ∧ m ≤ g.2.1 then _ else none) = _
      rw [if_pos hxk.2]
      exact hi
    | inr p =>
      rw [he] at hxk hi
      obtain ⟨hp4, e', h1, h2, h3'⟩ := hxk
      have hm : Sum.inr p ∈ xs := by rw [← he]; exact List.getElem_mem hkl
      have hF := IH p hm e' h1 (((xs.drop (k + 1)).map (sp_pc T)).flatten ++ R)
      rw [h2] at hF
      rw [sp_lka_t (by omega)]
      show (match sp_look g n (sp_par q k) (sp_cd T p.1 ++ _) with | none => none | some p => _) = _
      rw [hF]
      rw [h3'] at hi
      exact hi
theorem lk_args {g : sp_G} {T : List sp_E} {q : sp_C} {c : Nat} {xs : List sp_X} {n : Nat} (hc : g.2.2.2[c]? = some q) (hx : sp_tyx g T q xs) (hl : xs.length = sp_ar q) (R : List Nat)
    (IH : ∀ p, .inr p ∈ xs → ∀ e', T[p.1]? = some e' → ∀ R', sp_look g n e'.1 (sp_cd T p.1 ++ R') = some ((sp_sz e', 1 + sp_max (sp_hts e'.2.2), sp_ints e'.2.2), R')) :
    sp_look g (n + 1) q.1 ((100 + c) :: ((xs.map (sp_pc T)).flatten ++ R)) = if sp_cond q.2.2.2.2 xs then some ((1 + sp_size xs, 1 + sp_max (sp_hts xs), sp_ints xs), R) else none := by
  have h := lk_lka hx hl R IH xs.length 0 (by omega)
  rw [List.take_zero, List.drop_zero, List.map_nil] at h
  show (if 100 ≤ 100 + c then (match g.2.2.2[100 + c - 100]? with | none => none | some q' => if q'.1 = q.1 then sp_node q' (sp_lka (sp_look g n) g q' 3 0 [] _) else none) else none) = _
  rw [if_pos (by omega), show 100 + c - 100 = c by omega, hc]
  show (if q.1 = q.1 then sp_node q (sp_lka (sp_look g n) g q 3 0 [] _) else none) = _
  rw [if_pos rfl, h]
  show (if sp_cond q.2.2.2.2 (xs.map sp_x0) then some ((1 + sp_size (xs.map sp_x0), 1 + sp_max (sp_hts (xs.map sp_x0)), sp_ints (xs.map sp_x0)), R) else none) = _
  rw [sp_x0_cond, sp_x0_size, sp_x0_hts, sp_x0_ints]
theorem lk_cd {g : sp_G} {T : List sp_E} (hw : sp_wT T) (ht : sp_ty g T) : ∀ (n v : Nat) (e : sp_E), T[v]? = some e → sp_sz e ≤ n → ∀ R, sp_look g n e.1 (sp_cd T v ++ R) = some ((sp_sz e, 1 + sp_max (sp_hts e.2.2), sp_ints e.2.2), R) := by
  intro n
  induction n with
  | zero => intro v e he hs; unfold sp_sz at hs; omega
  | succ n ih =>
    intro v e he hs R
    obtain ⟨q, a1, a2, a3, a4, a5⟩ := ht e (List.mem_of_getElem? he)
    rw [sp_cd_eq hw he, List.cons_append, ← a2, lk_args a1 a4 a3 R, if_pos a5]
    · rfl
    · intro p hp e' he' R'
      obtain ⟨e2, b1, b2, b3, b4⟩ := sp_part_lt hw he hp
      rw [b2] at he'
      cases he'
      exact ih p.1 _ b2 (by omega) R'
theorem lk_cd0 {g : sp_G} {T : List sp_E} (hw : sp_wT T) (ht : sp_ty g T) {n v : Nat} {e : sp_E} (he : T[v]? = some e) (hs : sp_sz e ≤ n) : sp_look g n e.1 (sp_cd T v) = some ((sp_sz e, 1 + sp_max (sp_hts e.2.2), sp_ints e.2.2), []) := by
  have := lk_cd hw ht n v e he hs []
  rwa [List.append_nil] at this
section PUB6
variable {G : ax_G} {ad : cs_K → Nat}

set_option maxRecDepth 100000 in
set_option maxHeartbeats 4000000 in
theorem ch_parse (hi : cs_inj ad) (d : Nat) (S : cs_S) (h : ax_H) {g : sp_G} (hw : sp_wg g) {tl : List Nat} (hg : cs_g S g) (hf : st_fix S) (htd : st_td tl S) {t : Nat} (ht : t < 4) {Q : ax_P} (q0 : (∀ p, sp_look g 41 t tl = some p → ¬ (p.2 = [] ∧ p.1.1 ≤ 8)) → ∀ S', st_dr 0 S S' → Q (.inl (some .null)) (cs_O ad S' h)) (q1 : ∀ p, sp_look g 41 t tl = some p → p.2 = [] → p.1.1 ≤ 8 → ∀ S', st_dr 0 S S' → st_dv g S' 0 p.1.1 t p tl → Q (.inl (some (.ref (ad (1, 304))))) (cs_O ad S' h)) : AW G mX4_parse (d + 19) 0 0 Q 0 [(0, .ref (ad (0, 12))), (1, .int (nI t))] [] (cs_O ad S h) 0 0 := by
  have hpv : AW G mX4_parseValue (d + 18) 0 0 (fun r h1 => ∃ S', h1 = cs_O ad S' h ∧ st_dr 0 (cs_setS (cs_setS S 8 0) 9 0) S' ∧ ((r = .inl (some .null) ∧ ∀ p, sp_look g 41 t tl = some p → 8 < 0 + p.1.1) ∨ ∃ p, r = .inl (some (.ref (ad (1, 304 + 0)))) ∧ sp_look g 41 t tl = some p ∧ 0 + p.1.1 ≤ 8 ∧ S'.1 9 = nI (tl.length - p.2.length) ∧ st_dv g S' 0 (0 + p.1.1) t p tl)) 0 [(0, .ref (ad (0, 12))), (1, .int (nI t))] [] (cs_O ad (cs_setS (cs_setS S 8 0) 9 0) h) 0 0 := by
    refine pv_val hi hw h 8 0 (by omega) 41 t 0 (cs_setS (cs_setS S 8 0) 9 0) (by rw [List.drop_zero]; have := htd.2.1; omega) (Nat.zero_le _) rfl rfl ⟨hg.1, hg.2.1, hg.2.2.1, hg.2.2.2.1, hg.2.2.2.2⟩ hf ⟨htd.1, htd.2⟩ ht d _ ⟨fun z S' hd => ?_, fun p hp h8 S' hd a8 a9 hdv => ?_⟩
    · rw [List.drop_zero] at z
      exact ⟨S', rfl, hd, Or.inl ⟨rfl, z⟩⟩
    · rw [List.drop_zero] at hp hdv
      exact ⟨S', rfl, hd, Or.inr ⟨p, rfl, hp, h8, a9, hdv⟩⟩
  refine ax_aload_n dX4_parse_0 rfl ?_
  refine ax_iconst (v := 0) dX4_parse_1 (by decide) ?_
  refine ax_put dX4_parse_2 fpX4_26 (cs_get hi (cs_k0 (by decide))) rfl rfl (Nat.le_of_ble_eq_true rfl) ?_
  refine ax_eqh (cs_ps8 hi) ?_
  refine ax_aload_n dX4_parse_5 rfl ?_
  refine ax_iconst (v := 0) dX4_parse_6 (by decide) ?_
  refine ax_put dX4_parse_7 fpX4_30 (cs_get hi (cs_k0 (by decide))) rfl rfl (Nat.le_of_ble_eq_true rfl) ?_
  refine ax_eqh (cs_ps9 hi) ?_
  refine ax_aload_n dX4_parse_10 rfl ?_
  refine ax_iload_n dX4_parse_11 rfl ?_
  refine ax_callV (b := (ad (0, 12))) (av := [.int (nI t)]) (rest := []) (mc' := 0) (ms' := 0) dX4_parse_12 rfl lkX4_36 (cs_get hi (cs_k0 (by decide))) rfl (Nat.le_of_ble_eq_true rfl) (Nat.le_of_ble_eq_true rfl) (by decide) (by decide) (hpv) (fun E9 h9 q9 => by obtain ⟨S1, -, -, (⟨e9, -⟩ | ⟨p, e9, -⟩)⟩ := q9 <;> cases e9) (fun v9 h9 q9 => ?_)
  obtain ⟨S1, rfl, o1, (⟨e9, o2⟩ | ⟨p, e9, o2, o3, o4, o5⟩)⟩ := q9
  · cases e9
    have hS : st_dr 0 S S1 := st_dr_tr (st_dr_tr (st_dr_s (Or.inl rfl)) (st_dr_s (Or.inr rfl))) o1
    have h10 : S1.1 10 = nI tl.length := (hS.1 10 (by decide) (by decide)).trans htd.1
    have hq := q0 (fun p hp z => by have := o2 p hp; omega) S1 hS
    show AW G mX4_parse (d + 19) 0 0 _ 15 [(0, .ref (ad (0, 12))), (1, .int (nI t))] [.null] (cs_O ad S1 h) 0 0
    by_cases c1 : S1.1 9 = nI tl.length
    · refine ax_astore_nN dX4_parse_15 (by decide) ?_
      refine ax_sub (lv' := [(0, .ref (ad (0, 12))), (1, .int (nI t)), (2, .null)]) (fun _ z => z) ?_
      refine ax_aload_n dX4_parse_16 rfl ?_
      refine ax_get (v := .int (S1.1 9)) dX4_parse_17 fkX4_30 (cs_get hi (cs_k0 (by decide))) rfl ?_
      refine ax_aload_n dX4_parse_20 rfl ?_
      refine ax_get (v := .int (nI tl.length)) dX4_parse_21 fkX4_33 (cs_get hi (cs_k0 (by decide))) (congrArg (fun z => some (Value.int z)) (h10)) ?_
      refine ax_icmp_ne (tgt := 31) dX4_parse_24 (by decide) (fun z => absurd c1 z) (fun _ => ?_)
      refine ax_aload_nN dX4_parse_27 rfl ?_
      refine ax_goto (tgt := 32) dX4_parse_28 (by decide) ?_
      exact ax_aret (st := []) dX4_parse_32 rfl (Or.inl ⟨_, rfl⟩) (Or.inl rfl) hq
    · refine ax_astore_nN dX4_parse_15 (by decide) ?_
      refine ax_sub (lv' := [(0, .ref (ad (0, 12))), (1, .int (nI t)), (2, .null)]) (fun _ z => z) ?_
      refine ax_aload_n dX4_parse_16 rfl ?_
      refine ax_get (v := .int (S1.1 9)) dX4_parse_17 fkX4_30 (cs_get hi (cs_k0 (by decide))) rfl ?_
      refine ax_aload_n dX4_parse_20 rfl ?_
      refine ax_get (v := .int (nI tl.length)) dX4_parse_21 fkX4_33 (cs_get hi (cs_k0 (by decide))) (congrArg (fun z => some (Value.int z)) (h10)) ?_
      refine ax_icmp_ne (tgt := 31) dX4_parse_24 (by decide) (fun _ => ?_) (fun z => absurd z c1)
      refine ax_null dX4_parse_31 ?_
      exact ax_aret (st := []) dX4_parse_32 rfl (Or.inl ⟨_, rfl⟩) (Or.inl rfl) hq
  · cases e9
    have hS : st_dr 0 S S1 := st_dr_tr (st_dr_tr (st_dr_s (Or.inl rfl)) (st_dr_s (Or.inr rfl))) o1
    have h10 : S1.1 10 = nI tl.length := (hS.1 10 (by decide) (by decide)).trans htd.1
    have hl40 := htd.2.1
    obtain ⟨-, -, -, -, L1, hL1, -⟩ := (sp_look_ok hw.2.1 41 t tl p o2).2
    have hpl : p.2.length ≤ tl.length := by rw [hL1, List.length_append]; omega
    show AW G mX4_parse (d + 19) 0 0 _ 15 [(0, .ref (ad (0, 12))), (1, .int (nI t))] [.ref (ad (1, 304))] (cs_O ad S1 h) 0 0
    by_cases c0 : p.2 = []
    · have hq := q1 p o2 c0 (by omega) S1 hS (by rw [Nat.zero_add] at o5; exact o5)
      have c1 : S1.1 9 = nI tl.length := by rw [o4, c0, List.length_nil, Nat.sub_zero]
      refine ax_astore_n dX4_parse_15 (by decide) ?_
      refine ax_sub (lv' := [(0, .ref (ad (0, 12))), (1, .int (nI t)), (2, .ref (ad (1, 304)))]) (fun _ z => z) ?_
      refine ax_aload_n dX4_parse_16 rfl ?_
      refine ax_get (v := .int (S1.1 9)) dX4_parse_17 fkX4_30 (cs_get hi (cs_k0 (by decide))) rfl ?_
      refine ax_aload_n dX4_parse_20 rfl ?_
      refine ax_get (v := .int (nI tl.length)) dX4_parse_21 fkX4_33 (cs_get hi (cs_k0 (by decide))) (congrArg (fun z => some (Value.int z)) (h10)) ?_
      refine ax_icmp_ne (tgt := 31) dX4_parse_24 (by decide) (fun z => absurd c1 z) (fun _ => ?_)
      refine ax_aload_n dX4_parse_27 rfl ?_
      refine ax_goto (tgt := 32) dX4_parse_28 (by decide) ?_
      exact ax_aret (st := []) dX4_parse_32 rfl (Or.inl ⟨_, rfl⟩) (Or.inr ⟨_, rfl⟩) hq
    · have hq := q0 (fun p' hp' z => by rw [o2] at hp'; cases hp'; exact c0 z.1) S1 hS
      have hpos : 0 < p.2.length := List.length_pos_iff.mpr c0
      have c1 : ¬ S1.1 9 = nI tl.length := by rw [o4]; exact il_ne (tl.length - p.2.length) tl.length (by omega)
      refine ax_astore_n dX4_parse_15 (by decide) ?_
      refine ax_sub (lv' := [(0, .ref (ad (0, 12))), (1, .int (nI t)), (2, .ref (ad (1, 304)))]) (fun _ z => z) ?_
      refine ax_aload_n dX4_parse_16 rfl ?_
      refine ax_get (v := .int (S1.1 9)) dX4_parse_17 fkX4_30 (cs_get hi (cs_k0 (by decide))) rfl ?_
      refine ax_aload_n dX4_parse_20 rfl ?_
      refine ax_get (v := .int (nI tl.length)) dX4_parse_21 fkX4_33 (cs_get hi (cs_k0 (by decide))) (congrArg (fun z => some (Value.int z)) (h10)) ?_
      refine ax_icmp_ne (tgt := 31) dX4_parse_24 (by decide) (fun _ => ?_) (fun z => absurd z c1)
      refine ax_null dX4_parse_31 ?_
      exact ax_aret (st := []) dX4_parse_32 rfl (Or.inl ⟨_, rfl⟩) (Or.inl rfl) hq
set_option maxRecDepth 100000 in
set_option maxHeartbeats 4000000 in
theorem fd_turn (hi : cs_inj ad) {g : sp_G} (hwg : sp_wg g) (d : Nat) (S : cs_S) (h : ax_H) {P : List sp_E × Nat} (hf : st_fin g P S) (hty : sp_ty g P.1) {t v b r w : Nat} {L : List Nat} (hv : v < 312) (h0 : cs_vf S v 0 = nI t) (hL : st_cod g S 8 v t L) (hr : r < b) (hb : b ≤ 300) (hw : (sp_of P.1 t)[r]? = some w) {Q : ax_P} (hq : L = sp_cd P.1 w → Q (.inl (some (.ref (ad (1, w))))) (cs_O ad S h)) (kk : L ≠ sp_cd P.1 w → AW G mX3_find (d + 11) 0 0 Q 28 [(0, .ref (ad (0, 6))), (1, .ref (ad (1, v))), (2, .int (nI b)), (3, .int (nI (r + 1)))] [] (cs_O ad S h) 0 0) : AW G mX3_find (d + 11) 0 0 Q 28 [(0, .ref (ad (0, 6))), (1, .ref (ad (1, v))), (2, .int (nI b)), (3, .int (nI r))] [] (cs_O ad S h) 0 0 := by
  obtain ⟨e, f1, f2, f3, f4, f5, f6, f7, f8, f9⟩ := fin_at hf hw
  have hdf : AW G mX5_differsFrom (d + 10) 0 0 (fun r h1 => ∃ k, r = .inl (some (.int (nI k))) ∧ sp_D 8 L (sp_cd P.1 w) k ∧ h1 = cs_O ad S h) 0 [(0, .ref (ad (1, v))), (1, .ref (ad (1, w)))] [] (cs_O ad S h) 0 0 :=
    ch_differs hi hwg (d + 9) S h hL (f2 ▸ st_fin_cod hwg hf hty f1) (by omega) (by omega) (fun r hr => ⟨r, rfl, hr, rfl⟩)
  have hk0 : ∀ k, sp_D 8 L (sp_cd P.1 w) k → nI k = 0 → k = 0 := fun k hD z => by
    rw [show (0 : Int32) = nI 0 by decide, nI_eq (by have := hD.2.2; omega) (by decide)] at z
    exact z
  refine ax_iload_n dX3_find_28 rfl ?_
  refine ax_iload_n dX3_find_29 rfl ?_
  refine ax_icmp_ge (tgt := 62) dX3_find_30 (by decide) (fun z => absurd z (il_nle b r hr)) (fun _ => ?_)
  refine ax_aload_n dX3_find_33 rfl ?_
  refine ax_aload_n dX3_find_34 rfl ?_
  refine ax_get (v := .int (nI t)) dX3_find_35 fkX3_49 (cs_get hi (cs_k1 hv)) (congrArg (fun z => some (Value.int z)) (h0)) ?_
  refine ax_iload_n dX3_find_38 rfl ?_
  refine ax_callV (b := (ad (0, 6))) (av := [.int (nI t), .int (nI r)]) (rest := []) (mc' := 0) (ms' := 0) dX3_find_39 rfl lkX3_59 (cs_get hi (cs_k0 (by decide))) rfl (Nat.le_of_ble_eq_true rfl) (Nat.le_of_ble_eq_true rfl) (by decide) (by decide) (ch_vat hi _ S h hf hw) (fun E9 h9 q9 => by cases q9.1) (fun v9 h9 q9 => ?_)
  obtain ⟨e9, rfl⟩ := q9
  cases e9
  show AW G mX3_find (d + 11) 0 0 _ 42 [(0, .ref (ad (0, 6))), (1, .ref (ad (1, v))), (2, .int (nI b)), (3, .int (nI r))] [.ref (ad (1, w))] (cs_O ad S h) 0 0
  refine ax_astore dX3_find_42 (by decide) ?_
  refine ax_sub (lv' := [(0, .ref (ad (0, 6))), (1, .ref (ad (1, v))), (2, .int (nI b)), (3, .int (nI r)), (4, .ref (ad (1, w)))]) (fun _ z => z) ?_
  refine ax_aload_n dX3_find_44 rfl ?_
  refine ax_aload dX3_find_45 rfl ?_
  refine ax_callV (b := (ad (1, v))) (av := [.ref (ad (1, w))]) (rest := []) (mc' := 0) (ms' := 0) dX3_find_47 rfl lkX3_63 (cs_get hi (cs_k1 hv)) rfl (Nat.le_of_ble_eq_true rfl) (Nat.le_of_ble_eq_true rfl) (by decide) (by decide) (hdf) (fun E9 h9 q9 => by obtain ⟨k9, e9, -⟩ := q9; cases e9) (fun v9 h9 q9 => ?_)
  obtain ⟨k9, e9, hD, rfl⟩ := q9
  cases e9
  show AW G mX3_find (d + 11) 0 0 _ 50 [(0, .ref (ad (0, 6))), (1, .ref (ad (1, v))), (2, .int (nI b)), (3, .int (nI r)), (4, .ref (ad (1, w)))] [.int (nI k9)] (cs_O ad S h) 0 0
  by_cases c0 : nI k9 = 0
  · refine ax_if_ne (tgt := 56) dX3_find_50 (by decide) (fun z => absurd c0 z) (fun _ => ?_)
    refine ax_aload dX3_find_53 rfl ?_
    exact ax_aret (st := []) dX3_find_55 rfl (Or.inl ⟨_, rfl⟩) (Or.inr ⟨_, rfl⟩) (hq ((sp_D0 hD).mp (hk0 k9 hD c0)))
  · refine ax_if_ne (tgt := 56) dX3_find_50 (by decide) (fun _ => ?_) (fun z => absurd z c0)
    refine ax_iinc (v := (nI (r + 1))) dX3_find_56 rfl (nI_1 r) (by decide) ?_
    refine ax_sub (lv' := [(0, .ref (ad (0, 6))), (1, .ref (ad (1, v))), (2, .int (nI b)), (3, .int (nI (r + 1))), (4, .ref (ad (1, w)))]) (fun _ z => z) ?_
    refine ax_goto (tgt := 28) dX3_find_59 (by decide) ?_
    exact ax_sub (fun q hq => List.mem_append_left [(4, Value.ref (ad (1, w)))] hq) (kk (fun z => c0 (by rw [(sp_D0 hD).mpr z]; decide)))
theorem fd_end (hi : cs_inj ad) (d : Nat) (S : cs_S) (h : ax_H) {v b : Nat} (hb : b ≤ 300) {Q : ax_P} (hq : Q (.inl (some .null)) (cs_O ad S h)) : AW G mX3_find (d + 11) 0 0 Q 28 [(0, .ref (ad (0, 6))), (1, .ref (ad (1, v))), (2, .int (nI b)), (3, .int (nI b))] [] (cs_O ad S h) 0 0 := by
  refine ax_iload_n dX3_find_28 rfl ?_
  refine ax_iload_n dX3_find_29 rfl ?_
  refine ax_icmp_ge (tgt := 62) dX3_find_30 (by decide) (fun _ => ?_) (fun z => absurd (il_le b b (Nat.le_refl _)) z)
  refine ax_null dX3_find_62 ?_
  exact ax_aret (st := []) dX3_find_63 rfl (Or.inl ⟨_, rfl⟩) (Or.inl rfl) hq

set_option maxRecDepth 100000 in
set_option maxHeartbeats 4000000 in
theorem ch_find (hi : cs_inj ad) {g : sp_G} (hwg : sp_wg g) (d : Nat) (S : cs_S) (h : ax_H) {P : List sp_E × Nat} (hf : st_fin g P S) (hty : sp_ty g P.1) {t v z : Nat} {L : List Nat} (hv : v < 312) (ht4 : t < 4) (h0 : cs_vf S v 0 = nI t) (h6 : cs_vf S v 6 = nI (z + 1)) (hL : st_cod g S 8 v t L) (hz : z + 1 ≤ P.2) (hsz : ∀ w e, P.1[w]? = some e → e.1 = t → sp_cd P.1 w = L → sp_sz e = z + 1) {Q : ax_P} (hq : Q (.inl (some (match (sp_of P.1 t).find? (fun w => decide (sp_cd P.1 w = L)) with | none => .null | some w => .ref (ad (1, w))))) (cs_O ad S h)) : AW G mX3_find (d + 11) 0 0 Q 0 [(0, .ref (ad (0, 6))), (1, .ref (ad (1, v)))] [] (cs_O ad S h) 0 0 := by
  have hT := hf.2.2.2.1.1
  have hs := hf.2.2.2.2.1
  have hc3 := sp_cnt_le P.1 t
  have hul := sp_upto_le P.1 t (z + 1)
  have hum := sp_upto_mono P.1 t (a := z) (b := z + 1) (by omega)
  have hsr : ∀ r w, (sp_of P.1 t)[r]? = some w → sp_cd P.1 w = L → sp_upto P.1 t z ≤ r ∧ r < sp_upto P.1 t (z + 1) := fun r w hw he => by
    obtain ⟨e, f1, f2, f3⟩ := sp_of_at hw
    have h1 := hsz w e f1 f2 he
    have h2 := sp_upto_cut hs f1 (z := z) (by omega)
    have h3 := sp_rk_upto hs f1 (z := z + 1) (by omega)
    have h4 : sp_rk P.1 w = sp_cnt (P.1.take w) e.1 := by unfold sp_rk; rw [f1]
    rw [f2] at h2 h3 h4
    omega
  have loop : ∀ (i r : Nat), r + i = sp_upto P.1 t (z + 1) → (∀ j w, j < r → (sp_of P.1 t)[j]? = some w → sp_cd P.1 w ≠ L) → AW G mX3_find (d + 11) 0 0 Q 28 [(0, .ref (ad (0, 6))), (1, .ref (ad (1, v))), (2, .int (nI (sp_upto P.1 t (z + 1)))), (3, .int (nI r))] [] (cs_O ad S h) 0 0 := by
    intro i
    induction i with
    | zero =>
      intro r hr hall
      have hr : r = sp_upto P.1 t (z + 1) := by omega
      subst hr
      refine fd_end hi d S h (by omega) ?_
      rw [List.find?_eq_none.mpr (fun x hx => ?_)] at hq
      · exact hq
      · obtain ⟨j, hj⟩ := List.getElem?_of_mem hx
        simp only [decide_eq_true_eq]
        intro he
        exact hall j x (hsr j x hj he).2 hj he
    | succ i ih =>
      intro r hr hall
      have hl : r < (sp_of P.1 t).length := by rw [sp_of_len]; omega
      have hw : (sp_of P.1 t)[r]? = some (sp_of P.1 t)[r] := List.getElem?_eq_getElem hl
      refine fd_turn hi hwg d S h hf hty hv h0 hL (by omega) (by omega) hw (fun he => ?_) (fun hne => ?_)
      · have hfi : (sp_of P.1 t).find? (fun w => decide (sp_cd P.1 w = L)) = some (sp_of P.1 t)[r] := by
          have hsp : sp_of P.1 t = (sp_of P.1 t).take r ++ (sp_of P.1 t)[r] :: (sp_of P.1 t).drop (r + 1) := by
            rw [← List.drop_eq_getElem_cons hl, List.take_append_drop]
          refine List.find?_eq_some_iff_append.mpr ⟨by simp [he], _, _, hsp, fun a ha => ?_⟩
          obtain ⟨j, hj⟩ := List.getElem?_of_mem ha
          have hjl := (List.getElem?_eq_some_iff.mp hj).1
          rw [List.length_take] at hjl
          rw [List.getElem?_take_of_lt (by omega)] at hj
          have := hall j a (by omega) hj
          simp [this]
        rw [hfi] at hq
        exact hq
      · refine ih (r + 1) (by omega) (fun j w hj hjw => ?_)
        by_cases hjr : j = r
        · subst hjr; rw [hw] at hjw; cases hjw; exact fun z => hne z.symm
        · exact hall j w (by omega) hjw
  refine ax_aload_n dX3_find_0 rfl ?_
  refine ax_aload_n dX3_find_1 rfl ?_
  refine ax_get (v := .int (nI t)) dX3_find_2 fkX3_49 (cs_get hi (cs_k1 hv)) (congrArg (fun z => some (Value.int z)) (h0)) ?_
  refine ax_aload_n dX3_find_5 rfl ?_
  refine ax_get (v := .int (nI (z + 1))) dX3_find_6 fkX3_52 (cs_get hi (cs_k1 hv)) (congrArg (fun z => some (Value.int z)) (h6)) ?_
  refine ax_callV (b := (ad (0, 6))) (av := [.int (nI t), .int (nI (z + 1))]) (rest := []) (mc' := 0) (ms' := 0) dX3_find_9 rfl lkX3_55 (cs_get hi (cs_k0 (by decide))) rfl (Nat.le_of_ble_eq_true rfl) (Nat.le_of_ble_eq_true rfl) (by decide) (by decide) (ch_up hi _ S h hf ht4 (z := z + 1) (by omega)) (fun E9 h9 q9 => by cases q9.1) (fun v9 h9 q9 => ?_)
  obtain ⟨e9, rfl⟩ := q9
  cases e9
  show AW G mX3_find (d + 11) 0 0 _ 12 [(0, .ref (ad (0, 6))), (1, .ref (ad (1, v)))] [.int (nI (sp_upto P.1 t (z + 1)))] (cs_O ad S h) 0 0
  refine ax_istore_n dX3_find_12 (by decide) ?_
  refine ax_sub (lv' := [(0, .ref (ad (0, 6))), (1, .ref (ad (1, v))), (2, .int (nI (sp_upto P.1 t (z + 1))))]) (fun _ z => z) ?_
  refine ax_aload_n dX3_find_13 rfl ?_
  refine ax_aload_n dX3_find_14 rfl ?_
  refine ax_get (v := .int (nI t)) dX3_find_15 fkX3_49 (cs_get hi (cs_k1 hv)) (congrArg (fun z => some (Value.int z)) (h0)) ?_
  refine ax_aload_n dX3_find_18 rfl ?_
  refine ax_get (v := .int (nI (z + 1))) dX3_find_19 fkX3_52 (cs_get hi (cs_k1 hv)) (congrArg (fun z => some (Value.int z)) (h6)) ?_
  refine ax_iconst (v := 1) dX3_find_22 (by decide) ?_
  refine ax_isub dX3_find_23 ?_
  refine ax_top (y := (nI z)) (nI_pred z) ?_
  refine ax_callV (b := (ad (0, 6))) (av := [.int (nI t), .int (nI z)]) (rest := []) (mc' := 0) (ms' := 0) dX3_find_24 rfl lkX3_55 (cs_get hi (cs_k0 (by decide))) rfl (Nat.le_of_ble_eq_true rfl) (Nat.le_of_ble_eq_true rfl) (by decide) (by decide) (ch_up hi _ S h hf ht4 (z := z) (by omega)) (fun E9 h9 q9 => by cases q9.1) (fun v9 h9 q9 => ?_)
  obtain ⟨e9, rfl⟩ := q9
  cases e9
  show AW G mX3_find (d + 11) 0 0 _ 27 [(0, .ref (ad (0, 6))), (1, .ref (ad (1, v))), (2, .int (nI (sp_upto P.1 t (z + 1))))] [.int (nI (sp_upto P.1 t z))] (cs_O ad S h) 0 0
  refine ax_istore_n dX3_find_27 (by decide) ?_
  refine ax_sub (lv' := [(0, .ref (ad (0, 6))), (1, .ref (ad (1, v))), (2, .int (nI (sp_upto P.1 t (z + 1)))), (3, .int (nI (sp_upto P.1 t z)))]) (fun _ z => z) ?_
  exact loop (sp_upto P.1 t (z + 1) - sp_upto P.1 t z) _ (by omega) (fun j w hj hw he => absurd (hsr j w hw he).1 (by omega))
set_option maxRecDepth 100000 in
set_option maxHeartbeats 4000000 in
theorem pb_read (hi : cs_inj ad) (d : Nat) (S : cs_S) (h : ax_H) {σ : sp_St} (hC : CI σ S) (t : Int32) : AW G mX6_read (d + 22) 1 6 (pb_Q ad h (pb_nm ["java/lang/IndexOutOfBoundsException", "java/lang/IllegalStateException"]) (po_read σ t)) 0 [(0, .ref (ad (0, 0))), (1, .int t)] [] (cs_O ad S h) 0 0 := by
  cases hk1 : po_isT σ t with
  | false =>
    rw [show po_read σ t = ((1, 0), σ) from if_pos hk1]
    refine ax_aload_n dX6_read_0 rfl ?_
    refine ax_iload_n dX6_read_1 rfl ?_
    refine ax_callV (b := (ad (0, 0))) (av := [.int t]) (rest := []) (mc' := 1) (ms' := 6) dX6_read_2 rfl lkX6_75 (cs_get hi (cs_k0 (by decide))) rfl (Nat.le_of_ble_eq_true rfl) (Nat.le_of_ble_eq_true rfl) (by decide) (by decide) (rq_typeN hi _ S h hC hk1) (fun E9 h9 q9 => by obtain ⟨e9, rfl⟩ := q9; cases e9; exact ⟨rfl, _, rfl, hC⟩) (fun v9 h9 q9 => ?_)
    cases q9.1
  | true =>
    obtain ⟨t, rfl, -, ht4⟩ := po_isT_nat hC.1 hk1
    have e0 : po_read σ (nI t) = (match sp_look σ.1 41 t σ.2.1 with
      | none => ((0, -1), (σ.1, [], σ.2.2))
      | some p => if p.2 = [] ∧ p.1.1 ≤ 8 then (if po_H σ < p.1.1 then ((2, 0), (σ.1, [], σ.2.2)) else match (sp_of (po_T σ) t).find? (fun w => decide (sp_cd (po_T σ) w = σ.2.1)) with
          | some w => ((0, nI (sp_rk (po_T σ) w)), (σ.1, [], some w))
          | none => ((0, -1), (σ.1, [], σ.2.2)))
        else ((0, -1), (σ.1, [], σ.2.2))) := by
      unfold po_read
      rw [if_neg (by rw [hk1]; decide), nI_clamp (by omega)]
      cases sp_look σ.1 41 t σ.2.1 <;> rfl
    have hmv : ∀ S1 S2, CI σ S1 → st_dr 0 S1 S2 → CI (σ.1, [], σ.2.2) (cs_setS S2 10 0) := fun S1 S2 o1 a => by
      have q1 : CI (σ.1, σ.2.1, σ.2.2) S2 := CI_mv o1 (st_eq_dr a) (st_dr_td a o1.2.2.2.1) (a.2.2.2.2.trans o1.2.2.2.2.2.2.1) o1.2.2.2.2.2.2.2
      exact CI_mv q1 (S' := cs_setS S2 10 0) ⟨fun i z _ _ => pk_un (by omega), fun _ _ => rfl, fun _ _ => rfl, fun _ _ => ⟨rfl, rfl, rfl⟩⟩ ⟨rfl, by simp, fun i a z => by simp at z, fun a z => by simp at z⟩ q1.2.2.2.2.2.2.1 q1.2.2.2.2.2.2.2
    refine ax_aload_n dX6_read_0 rfl ?_
    refine ax_iload_n dX6_read_1 rfl ?_
    refine ax_callV (b := (ad (0, 0))) (av := [.int (nI t)]) (rest := []) (mc' := 0) (ms' := 0) dX6_read_2 rfl lkX6_75 (cs_get hi (cs_k0 (by decide))) rfl (Nat.le_of_ble_eq_true rfl) (Nat.le_of_ble_eq_true rfl) (by decide) (by decide) (rq_typeY hi _ S h hC hk1) (fun E9 h9 q9 => by cases q9.1) (fun v9 h9 q9 => ?_)
    obtain ⟨e9, rfl⟩ := q9
    cases e9
    show AW G mX6_read (d + 22) 1 6 _ 5 [(0, .ref (ad (0, 0))), (1, .int (nI t))] [] (cs_O ad S h) 0 0
    refine ax_aload_n dX6_read_5 rfl ?_
    refine ax_get (v := .ref (ad (0, 6))) dX6_read_6 fkX6_21 (cs_get hi (cs_k0 (by decide))) rfl ?_
    refine ax_callV (b := (ad (0, 6))) (av := []) (rest := []) (mc' := 0) (ms' := 0) dX6_read_9 rfl lkX6_96 (cs_get hi (cs_k0 (by decide))) rfl (Nat.le_of_ble_eq_true rfl) (Nat.le_of_ble_eq_true rfl) (by decide) (by decide) (ch_ref hi _ h S hC (Q := fun r h1 => r = .inl none ∧ ∃ S', h1 = cs_O ad S' h ∧ CI σ S' ∧ st_fin σ.1 (sp_tab σ.1) S') (fun S' a b => ⟨rfl, S', rfl, a, b⟩)) (fun E9 h9 q9 => by cases q9.1) (fun v9 h9 q9 => ?_)
    obtain ⟨e9, S1, rfl, o1, o2⟩ := q9
    cases e9
    show AW G mX6_read (d + 22) 1 6 _ 12 [(0, .ref (ad (0, 0))), (1, .int (nI t))] [] (cs_O ad S1 h) 0 0
    refine ax_aload_n dX6_read_12 rfl ?_
    refine ax_get (v := .ref (ad (0, 12))) dX6_read_13 fkX6_28 (cs_get hi (cs_k0 (by decide))) rfl ?_
    refine ax_iload_n dX6_read_16 rfl ?_
    have hpa : AW G mX4_parse (d + 21) 0 0 (fun r h1 => ∃ S', h1 = cs_O ad S' h ∧ st_dr 0 S1 S' ∧ ((r = .inl (some .null) ∧ ∀ p, sp_look σ.1 41 t σ.2.1 = some p → ¬ (p.2 = [] ∧ p.1.1 ≤ 8)) ∨ ∃ p, r = .inl (some (.ref (ad (1, 304)))) ∧ sp_look σ.1 41 t σ.2.1 = some p ∧ p.2 = [] ∧ p.1.1 ≤ 8 ∧ st_dv σ.1 S' 0 p.1.1 t p σ.2.1)) 0 [(0, .ref (ad (0, 12))), (1, .int (nI t))] [] (cs_O ad S1 h) 0 0 :=
      ch_parse hi (d + 2) S1 h hC.1 o1.2.1 o1.2.2.1 o1.2.2.2.1 ht4 (fun z S' a => ⟨S', rfl, a, Or.inl ⟨rfl, z⟩⟩) (fun p z1 z2 z3 S' a b => ⟨S', rfl, a, Or.inr ⟨p, rfl, z1, z2, z3, b⟩⟩)
    refine ax_callV (b := (ad (0, 12))) (av := [.int (nI t)]) (rest := []) (mc' := 0) (ms' := 0) dX6_read_17 rfl lkX6_153 (cs_get hi (cs_k0 (by decide))) rfl (Nat.le_of_ble_eq_true rfl) (Nat.le_of_ble_eq_true rfl) (by decide) (by decide) (hpa) (fun E9 h9 q9 => by obtain ⟨S2, -, -, (⟨e9, -⟩ | ⟨p, e9, -⟩)⟩ := q9 <;> cases e9) (fun v9 h9 q9 => ?_)
    obtain ⟨S2, rfl, a1, (⟨e9, a2⟩ | ⟨p, e9, a2, a3, a4, a5⟩)⟩ := q9
    · cases e9
      have hC3 := hmv S1 S2 o1 a1
      have e1 : po_read σ (nI t) = ((0, -1), (σ.1, [], σ.2.2)) := by
        rw [e0]
        cases hl : sp_look σ.1 41 t σ.2.1 with
        | none => rfl
        | some p =>
          show (if p.2 = [] ∧ p.1.1 ≤ 8 then _ else _) = _
          rw [if_neg (a2 p hl)]
      rw [e1]
      show AW G mX6_read (d + 22) 1 6 _ 20 [(0, .ref (ad (0, 0))), (1, .int (nI t))] [.null] (cs_O ad S2 h) 0 0
      refine ax_astore_nN dX6_read_20 (by decide) ?_
      refine ax_sub (lv' := [(0, .ref (ad (0, 0))), (1, .int (nI t)), (2, .null)]) (fun _ z => z) ?_
      refine ax_aload_n dX6_read_21 rfl ?_
      refine ax_get (v := .ref (ad (0, 12))) dX6_read_22 fkX6_28 (cs_get hi (cs_k0 (by decide))) rfl ?_
      refine ax_iconst (v := 0) dX6_read_25 (by decide) ?_
      refine ax_put dX6_read_26 fpX6_146 (cs_get hi (cs_k0 (by decide))) rfl rfl (Nat.le_of_ble_eq_true rfl) ?_
      refine ax_eqh (cs_ps10 hi) ?_
      refine ax_aload_nN dX6_read_29 rfl ?_
      refine ax_ifnonnullN dX6_read_30 ?_
      refine ax_iconst (v := (-1)) dX6_read_33 (by decide) ?_
      exact ax_iret (st := []) dX6_read_34 rfl rfl ⟨rfl, _, rfl, hC3⟩
    · cases e9
      have hC3 := hmv S1 S2 o1 a1
      have hf3 : st_fin σ.1 (sp_tab σ.1) (cs_setS S2 10 0) := by
        have h0 := st_eq_fin (st_eq_dr a1) o2
        exact st_eq_fin (S' := cs_setS S2 10 0) ⟨fun i z _ _ => pk_un (by omega), fun _ _ => rfl, fun _ _ => rfl, fun _ _ => ⟨rfl, rfl, rfl⟩⟩ h0
      obtain ⟨c, xs, L1, b1, b2, b3, b4, b5⟩ := a5
      have hL1 : L1 = σ.2.1 := by rw [b4, a3, List.append_nil]
      have hp1 : p.1.1 = 1 + sp_size xs := by rw [b3]
      have h6 : cs_vf S2 304 6 = nI p.1.1 := by rw [hp1]; exact b1.2.2.2.1
      have h0 : cs_vf S2 304 0 = nI t := b1.1
      have hcod : st_cod σ.1 (cs_setS S2 10 0) 8 304 t σ.2.1 := by
        have := b5 (cs_setS S2 10 0) (fun w _ _ => ⟨rfl, rfl, rfl⟩)
        rw [hL1] at this
        exact st_cod_mono a4 this
      rw [a2] at e0
      have e1 : po_read σ (nI t) = (if po_H σ < p.1.1 then ((2, 0), (σ.1, [], σ.2.2)) else match (sp_of (po_T σ) t).find? (fun w => decide (sp_cd (po_T σ) w = σ.2.1)) with
          | some w => ((0, nI (sp_rk (po_T σ) w)), (σ.1, [], some w))
          | none => ((0, -1), (σ.1, [], σ.2.2))) := e0.trans (if_pos ⟨a3, a4⟩)
      have hH8 : po_H σ ≤ 8 := o2.2.2.2.2.2.2.2.1
      show AW G mX6_read (d + 22) 1 6 _ 20 [(0, .ref (ad (0, 0))), (1, .int (nI t))] [.ref (ad (1, 304))] (cs_O ad S2 h) 0 0
      by_cases hH : po_H σ < p.1.1
      · rw [e1, if_pos hH]
        refine ax_astore_n dX6_read_20 (by decide) ?_
        refine ax_sub (lv' := [(0, .ref (ad (0, 0))), (1, .int (nI t)), (2, .ref (ad (1, 304)))]) (fun _ z => z) ?_
        refine ax_aload_n dX6_read_21 rfl ?_
        refine ax_get (v := .ref (ad (0, 12))) dX6_read_22 fkX6_28 (cs_get hi (cs_k0 (by decide))) rfl ?_
        refine ax_iconst (v := 0) dX6_read_25 (by decide) ?_
        refine ax_put dX6_read_26 fpX6_146 (cs_get hi (cs_k0 (by decide))) rfl rfl (Nat.le_of_ble_eq_true rfl) ?_
        refine ax_eqh (cs_ps10 hi) ?_
        refine ax_aload_n dX6_read_29 rfl ?_
        refine ax_ifnonnull (tgt := 35) dX6_read_30 (by decide) ?_
        refine ax_aload_n dX6_read_35 rfl ?_
        refine ax_get (v := .int (nI p.1.1)) dX6_read_36 fkX6_132 (cs_get hi (cs_k1 (by decide))) (congrArg (fun z => some (Value.int z)) (h6)) ?_
        refine ax_aload_n dX6_read_39 rfl ?_
        refine ax_get (v := .ref (ad (0, 6))) dX6_read_40 fkX6_21 (cs_get hi (cs_k0 (by decide))) rfl ?_
        refine ax_get (v := .int (nI (po_H σ))) dX6_read_43 fkX6_99 (cs_get hi (cs_k0 (by decide))) (congrArg (fun z => some (Value.int z)) (hf3.2.2.2.2.2.2.2.2.1)) ?_
        refine ax_icmp_le (tgt := 59) dX6_read_46 (by decide) (fun z => absurd z (il_nle p.1.1 (po_H σ) hH)) (fun _ => ?_)
        exact ax_throw rfl (thISE (List.mem_of_getElem? (i := 10) rfl)) dX6_read_49 dX6_read_52 dX6_read_53 dX6_read_55 dX6_read_58 (by decide) (by decide) (by decide) ⟨rfl, _, rfl, hC3⟩
      · rw [e1, if_neg hH]
        have hfi : AW G mX3_find (d + 21) 0 0 (fun r h1 => r = .inl (some (match (sp_of (po_T σ) t).find? (fun w => decide (sp_cd (po_T σ) w = σ.2.1)) with | none => .null | some w => .ref (ad (1, w)))) ∧ h1 = cs_O ad (cs_setS S2 10 0) h) 0 [(0, .ref (ad (0, 6))), (1, .ref (ad (1, 304)))] [] (cs_O ad (cs_setS S2 10 0) h) 0 0 := by
          refine ch_find hi hC.1 (d + 10) (cs_setS S2 10 0) h hf3 (sp_tab_ty hC.1) (z := sp_size xs) (by decide) ht4 h0 (h6.trans (by rw [hp1, Nat.add_comm])) hcod (by show sp_size xs + 1 ≤ po_H σ; omega) (fun w e f1 f2 f3 => ?_) ⟨rfl, rfl⟩
          have hk := lk_cd0 o2.2.2.2.1 (sp_tab_ty hC.1) (n := 41) f1 (by have := (o2.2.2.2.1.2 w e f1).2.2.1; unfold sp_sz; omega)
          rw [f3, f2, a2] at hk
          have hk := Option.some.inj hk
          have : p.1.1 = sp_sz e := by rw [hk]
          omega
        cases hfw : (sp_of (po_T σ) t).find? (fun w => decide (sp_cd (po_T σ) w = σ.2.1)) with
        | none =>
          refine ax_astore_n dX6_read_20 (by decide) ?_
          refine ax_sub (lv' := [(0, .ref (ad (0, 0))), (1, .int (nI t)), (2, .ref (ad (1, 304)))]) (fun _ z => z) ?_
          refine ax_aload_n dX6_read_21 rfl ?_
          refine ax_get (v := .ref (ad (0, 12))) dX6_read_22 fkX6_28 (cs_get hi (cs_k0 (by decide))) rfl ?_
          refine ax_iconst (v := 0) dX6_read_25 (by decide) ?_
          refine ax_put dX6_read_26 fpX6_146 (cs_get hi (cs_k0 (by decide))) rfl rfl (Nat.le_of_ble_eq_true rfl) ?_
          refine ax_eqh (cs_ps10 hi) ?_
          refine ax_aload_n dX6_read_29 rfl ?_
          refine ax_ifnonnull (tgt := 35) dX6_read_30 (by decide) ?_
          refine ax_aload_n dX6_read_35 rfl ?_
          refine ax_get (v := .int (nI p.1.1)) dX6_read_36 fkX6_132 (cs_get hi (cs_k1 (by decide))) (congrArg (fun z => some (Value.int z)) (h6)) ?_
          refine ax_aload_n dX6_read_39 rfl ?_
          refine ax_get (v := .ref (ad (0, 6))) dX6_read_40 fkX6_21 (cs_get hi (cs_k0 (by decide))) rfl ?_
          refine ax_get (v := .int (nI (po_H σ))) dX6_read_43 fkX6_99 (cs_get hi (cs_k0 (by decide))) (congrArg (fun z => some (Value.int z)) (hf3.2.2.2.2.2.2.2.2.1)) ?_
          refine ax_icmp_le (tgt := 59) dX6_read_46 (by decide) (fun _ => ?_) (fun z => absurd (il_le p.1.1 (po_H σ) (by omega)) z)
          refine ax_aload_n dX6_read_59 rfl ?_
          refine ax_get (v := .ref (ad (0, 6))) dX6_read_60 fkX6_21 (cs_get hi (cs_k0 (by decide))) rfl ?_
          refine ax_aload_n dX6_read_63 rfl ?_
          refine ax_callV (b := (ad (0, 6))) (av := [.ref (ad (1, 304))]) (rest := []) (mc' := 0) (ms' := 0) dX6_read_64 rfl lkX6_159 (cs_get hi (cs_k0 (by decide))) rfl (Nat.le_of_ble_eq_true rfl) (Nat.le_of_ble_eq_true rfl) (by decide) (by decide) (hfi) (fun E9 h9 q9 => by cases q9.1) (fun v9 h9 q9 => ?_)
          obtain ⟨e9, rfl⟩ := q9
          rw [hfw] at e9
          cases e9
          show AW G mX6_read (d + 22) 1 6 _ 67 [(0, .ref (ad (0, 0))), (1, .int (nI t)), (2, .ref (ad (1, 304)))] [.null] (cs_O ad (cs_setS S2 10 0) h) 0 0
          refine ax_astore_nN dX6_read_67 (by decide) ?_
          refine ax_sub (lv' := [(0, .ref (ad (0, 0))), (1, .int (nI t)), (2, .ref (ad (1, 304))), (3, .null)]) (fun _ z => z) ?_
          refine ax_aload_nN dX6_read_68 rfl ?_
          refine ax_ifnonnullN dX6_read_69 ?_
          refine ax_iconst (v := (-1)) dX6_read_72 (by decide) ?_
          exact ax_iret (st := []) dX6_read_73 rfl rfl ⟨rfl, _, rfl, hC3⟩
        | some w =>
          have hwm := List.mem_of_find?_eq_some hfw
          obtain ⟨r, hr⟩ := List.getElem?_of_mem hwm
          obtain ⟨e, f1, f2, f3, f4, f5, f6, f7, f8, f9⟩ := fin_at hf3 hr
          have hrk : sp_rk (po_T σ) w = r := (sp_rk_of hr).2.2
          refine ax_astore_n dX6_read_20 (by decide) ?_
          refine ax_sub (lv' := [(0, .ref (ad (0, 0))), (1, .int (nI t)), (2, .ref (ad (1, 304)))]) (fun _ z => z) ?_
          refine ax_aload_n dX6_read_21 rfl ?_
          refine ax_get (v := .ref (ad (0, 12))) dX6_read_22 fkX6_28 (cs_get hi (cs_k0 (by decide))) rfl ?_
          refine ax_iconst (v := 0) dX6_read_25 (by decide) ?_
          refine ax_put dX6_read_26 fpX6_146 (cs_get hi (cs_k0 (by decide))) rfl rfl (Nat.le_of_ble_eq_true rfl) ?_
          refine ax_eqh (cs_ps10 hi) ?_
          refine ax_aload_n dX6_read_29 rfl ?_
          refine ax_ifnonnull (tgt := 35) dX6_read_30 (by decide) ?_
          refine ax_aload_n dX6_read_35 rfl ?_
          refine ax_get (v := .int (nI p.1.1)) dX6_read_36 fkX6_132 (cs_get hi (cs_k1 (by decide))) (congrArg (fun z => some (Value.int z)) (h6)) ?_
          refine ax_aload_n dX6_read_39 rfl ?_
          refine ax_get (v := .ref (ad (0, 6))) dX6_read_40 fkX6_21 (cs_get hi (cs_k0 (by decide))) rfl ?_
          refine ax_get (v := .int (nI (po_H σ))) dX6_read_43 fkX6_99 (cs_get hi (cs_k0 (by decide))) (congrArg (fun z => some (Value.int z)) (hf3.2.2.2.2.2.2.2.2.1)) ?_
          refine ax_icmp_le (tgt := 59) dX6_read_46 (by decide) (fun _ => ?_) (fun z => absurd (il_le p.1.1 (po_H σ) (by omega)) z)
          refine ax_aload_n dX6_read_59 rfl ?_
          refine ax_get (v := .ref (ad (0, 6))) dX6_read_60 fkX6_21 (cs_get hi (cs_k0 (by decide))) rfl ?_
          refine ax_aload_n dX6_read_63 rfl ?_
          refine ax_callV (b := (ad (0, 6))) (av := [.ref (ad (1, 304))]) (rest := []) (mc' := 0) (ms' := 0) dX6_read_64 rfl lkX6_159 (cs_get hi (cs_k0 (by decide))) rfl (Nat.le_of_ble_eq_true rfl) (Nat.le_of_ble_eq_true rfl) (by decide) (by decide) (hfi) (fun E9 h9 q9 => by cases q9.1) (fun v9 h9 q9 => ?_)
          obtain ⟨e9, rfl⟩ := q9
          rw [hfw] at e9
          cases e9
          show AW G mX6_read (d + 22) 1 6 _ 67 [(0, .ref (ad (0, 0))), (1, .int (nI t)), (2, .ref (ad (1, 304)))] [.ref (ad (1, w))] (cs_O ad (cs_setS S2 10 0) h) 0 0
          refine ax_astore_n dX6_read_67 (by decide) ?_
          refine ax_sub (lv' := [(0, .ref (ad (0, 0))), (1, .int (nI t)), (2, .ref (ad (1, 304))), (3, .ref (ad (1, w)))]) (fun _ z => z) ?_
          refine ax_aload_n dX6_read_68 rfl ?_
          refine ax_ifnonnull (tgt := 74) dX6_read_69 (by decide) ?_
          refine ax_aload_n dX6_read_74 rfl ?_
          refine ax_aload_n dX6_read_75 rfl ?_
          refine ax_put dX6_read_76 fpX6_46 (cs_get hi (cs_k0 (by decide))) rfl rfl (Nat.le_of_ble_eq_true rfl) ?_
          refine ax_eqh (cs_pl hi (o := some w)) ?_
          refine ax_aload_n dX6_read_79 rfl ?_
          refine ax_get (v := .int (nI r)) dX6_read_80 fkX6_163 (cs_get hi (cs_k1 (by omega))) (congrArg (fun z => some (Value.int z)) (f9)) ?_
          refine ax_iret (st := []) dX6_read_83 rfl rfl ⟨?_, _, rfl, ?_⟩
          · show _ = Sum.inl (some (Value.int (nI (sp_rk (po_T σ) w)))); rw [hrk]
          · exact CI_mv hC3 (S' := cs_setL (cs_setS S2 10 0) (some w)) ⟨fun _ _ _ _ => rfl, fun _ _ => rfl, fun _ _ => rfl, fun _ _ => ⟨rfl, rfl, rfl⟩⟩ hC3.2.2.2.1 rfl (fun v hv => by cases hv; exact ⟨(List.getElem?_eq_some_iff.mp f1).1, hf3.2.2.2.2.2.2.2.2.2⟩)
end PUB6
