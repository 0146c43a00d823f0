/-! ===== the reference: choices and write, whole ===== -/
def rf_cC (g : sp_G) (p : Nat) : Nat := if p = 10 then 2 else if p = 9 then 1 + (g.2.1 + 1 - g.1) else 1
def rf_cS (g : sp_G) (T0 : List sp_E) (p : Nat) : Nat := if p = 10 then 1 else if p = 9 then 2 * (g.2.1 + 1 - g.1) else (sp_of T0 p).length
section RWR5
variable {G : ax_G} {A : rw_Ad}

theorem r_choices (hA : rw_nd A) {g : sp_G} (hw : sp_wg g) (d : Nat) (R : rw_S) (hg : rw_gr R g) (h : ax_H) {T0 T : List sp_E} {s : Nat} (hT : rw_T A R h T) (hwT : sp_wT T) (hsT : sp_srt T) (hp0 : T0 <+: T) (hle : sp_le T0 s) (hN : ∀ v e, T[v]? = some e → T0.length ≤ v → sp_sz e = s + 1) (hs8 : s ≤ 8) {p : Nat} (hp : p < 4 ∨ p = 9 ∨ p = 10) : AW G mX7_choices (d + 1) (rf_cC g p) (rf_cS g T0 p) (fun r h1 => ∃ a h', r = .inl (some (.ref a)) ∧ h1 = rw_O A R h' ∧ hx_le h h' ∧ rw_chs A h' a ((rf_xc g T0 p).map (rf_cd T0))) 0 [(0, .ref (A.1 0)), (1, .int (sp_pI p)), (2, .int (nI s))] [] (rw_O A R h) 0 0 := by
  rcases hp with h4 | rfl | rfl
  · have e1 : rf_cC g p = 1 := by unfold rf_cC; rw [if_neg (by omega), if_neg (by omega)]
    have e2 : rf_cS g T0 p = (sp_of T0 p).length := by unfold rf_cS; rw [if_neg (by omega), if_neg (by omega)]
    have e3 : sp_pI p = nI p := sp_pI_9 (by omega)
    have htk := sp_of_take hp0 hle hN p
    have hul : sp_upto T p s = (sp_of T0 p).length := by
      rw [← htk, List.length_take, sp_of_len]
      have := sp_upto_le T p s
      omega
    rw [e1, e2, e3, ← hul]
    refine ax_mono (r_chT hA d R h hT hwT hsT h4 hs8) ?_
    rintro r h1 ⟨a, h', z1, z2, z3, z4⟩
    refine ⟨a, h', z1, z2, z3, ?_⟩
    rw [htk] at z4
    have e4 : (rf_xc g T0 p).map (rf_cd T0) = (sp_of T0 p).map (sp_cd T) := by
      unfold rf_xc
      rw [if_neg (by omega), if_neg (by omega), List.map_map]
      refine List.map_congr_left (fun v hv => ?_)
      obtain ⟨i, hi⟩ := List.getElem?_of_mem hv
      obtain ⟨e, f1, -⟩ := sp_of_at hi
      show sp_cd T0 v ++ [] = sp_cd T v
      rw [List.append_nil, sp_cd_pre hp0 (List.getElem?_eq_some_iff.mp f1).1]
    rw [e4]; exact z4
  · have e1 : rf_cC g 9 = 1 + (g.2.1 + 1 - g.1) := rfl
    have e2 : rf_cS g T0 9 = 2 * (g.2.1 + 1 - g.1) := rfl
    rw [e1, e2]
    refine ax_mono (r_ch9 hA (d + 1) R h (nI s) hg.1 hg.2.1 hw.1 hw.2.1) ?_
    rintro r h1 ⟨a, h', z1, z2, z3, z4⟩
    refine ⟨a, h', z1, z2, z3, ?_⟩
    have e4 : (rf_xc g T0 9).map (rf_cd T0) = (List.range' g.1 (g.2.1 + 1 - g.1)).map (fun k => [k]) := by
      show ((List.range' g.1 (g.2.1 + 1 - g.1)).map (fun k => [Sum.inl k])).map (rf_cd T0) = _
      rw [List.map_map]
      rfl
    rw [e4]; exact z4
  · exact r_ch10 hA (d + 1) R h (nI s)
theorem rf_xc_l {g : sp_G} (hw : sp_wg g) {T0 : List sp_E} (hw0 : sp_wT T0) (p : Nat) : (rf_xc g T0 p).length ≤ 300 := by
  unfold rf_xc
  have h5 := hw.2.1
  have h3 := hw0.1
  by_cases h10 : p = 10
  · rw [if_pos h10]; decide
  · rw [if_neg h10]
    by_cases h9 : p = 9
    · rw [if_pos h9, List.length_map, List.length_range']; omega
    · rw [if_neg h9, List.length_map, sp_of_len]
      have := sp_cnt_le T0 p
      omega

set_option maxRecDepth 100000 in
set_option maxHeartbeats 4000000 in
theorem r_write (hA : rw_nd A) {g : sp_G} (hw : sp_wg g) {T0 : List sp_E} (hs0 : sp_srt T0) (hw0 : sp_wT T0) (hty : sp_ty g T0) {c : Nat} {q : sp_C} (hc : g.2.2.2[c]? = some q) {s : Nat} (hs7 : s ≤ 7) (hle : sp_le T0 s) (R : rw_S) (hg : rw_gr R g) (h : ax_H) {T : List sp_E} (hT : rw_T A R h T) (hwT : sp_wT T) (hsT : sp_srt T) (hp0 : T0 <+: T) (hN : ∀ v e, T[v]? = some e → T0.length ≤ v → sp_sz e = s + 1) {Pf : List sp_E × Bool} (hPf : sp_pushes (T, false) ((rf_cand g T0 q s).map (fun ys => (q.1, c, ys))) = Pf) (d : Nat) (hd : 42 ≤ d) {Q : ax_P} (hq0 : ∀ R' h', rw_T A R' h' Pf.1 → hx_le h h' → rw_fr R R' → Pf.2 = true → Q (.inl (some (.int 0))) (rw_O A R' h')) (hq1 : ∀ R' h', rw_T A R' h' Pf.1 → hx_le h h' → rw_fr R R' → Pf.2 = false → Q (.inl (some (.int 1))) (rw_O A R' h')) : AW G mX7_write (d + 1) (rf_cC g q.2.1 + rf_cC g q.2.2.1 + rf_cC g q.2.2.2.1 + (Pf.1.length - T.length)) (rf_cS g T0 q.2.1 + rf_cS g T0 q.2.2.1 + rf_cS g T0 q.2.2.2.1 + (rf_slots Pf.1 - rf_slots T)) Q 0 [(0, .ref (A.1 0)), (1, .int (nI c)), (2, .int (nI (s + 1)))] [] (rw_O A R h) 0 0 := by
  have hc6 : c < 6 := Nat.lt_of_lt_of_le (List.getElem?_eq_some_iff.mp hc).1 hw.2.2.2.1
  have hqm := List.mem_of_getElem? hc
  have pp := (hg.2.2.2.2 c q hc).2.1
  obtain ⟨d, rfl⟩ : ∃ k, d = k + 1 := ⟨d - 1, by omega⟩
  obtain ⟨f1, f2, f3⟩ := rf_pushes_pre ((rf_cand g T0 q s).map (fun ys => (q.1, c, ys))) T false hwT.1
  rw [hPf] at f1 f3
  have f1 := f1.length_le
  refine ax_aload_n dX7_write_0 rfl ?_
  refine ax_aload_n dX7_write_1 rfl ?_
  refine ax_get (v := .ref (A.1 2)) dX7_write_2 fkX7_17 (rw_g0 hA) rfl ?_
  refine ax_iconst (v := 3) dX7_write_5 (by decide) ?_
  refine ax_iload_n dX7_write_6 rfl ?_
  refine ax_imul dX7_write_7 ?_
  refine ax_top (y := (nI (3 * c))) ((pk_mul 3 c)) ?_
  refine ax_ialdv (x := (sp_pI q.2.1)) dX7_write_8 (rw_g2 hA) (nI_in (by omega) (by decide)) (by rw [nI_clamp (by omega)]; exact pp 0 (by decide)) ?_
  refine ax_iload_n dX7_write_9 rfl ?_
  refine ax_iconst (v := 1) dX7_write_10 (by decide) ?_
  refine ax_isub dX7_write_11 ?_
  refine ax_top (y := (nI s)) (nI_pred s) ?_
  refine ax_callV (b := (A.1 0)) (av := [.int (sp_pI q.2.1), .int (nI s)]) (rest := []) (mc' := (rf_cC g q.2.1)) (ms' := (rf_cS g T0 q.2.1)) dX7_write_12 rfl lkX7_113 (rw_g0 hA) rfl (Nat.le_of_ble_eq_true rfl) (Nat.le_of_ble_eq_true rfl) (by omega) (by omega) (r_choices hA hw _ R hg h hT hwT hsT hp0 hle hN (by omega) (p := q.2.1) (wg_pq hw q hqm 0 (by decide))) (fun E9 h9 q9 => by obtain ⟨a, h', e9, -⟩ := q9; cases e9) (fun v9 h9 q9 => ?_)
  obtain ⟨a1, h1, e9, rfl, le1, ch1⟩ := q9
  cases e9
  show AW G mX7_write (d + 1 + 1) (rf_cC g q.2.1 + rf_cC g q.2.2.1 + rf_cC g q.2.2.2.1 + (Pf.1.length - T.length)) (rf_cS g T0 q.2.1 + rf_cS g T0 q.2.2.1 + rf_cS g T0 q.2.2.2.1 + (rf_slots Pf.1 - rf_slots T)) _ 15 [(0, .ref (A.1 0)), (1, .int (nI c)), (2, .int (nI (s + 1)))] [.ref a1] (rw_O A R h1) (0 + (rf_cC g q.2.1)) (0 + (rf_cS g T0 q.2.1))
  refine ax_astore_n dX7_write_15 (by decide) ?_
  refine ax_sub (lv' := [(0, .ref (A.1 0)), (1, .int (nI c)), (2, .int (nI (s + 1))), (3, .ref a1)]) (fun _ z => z) ?_
  refine ax_aload_n dX7_write_16 rfl ?_
  refine ax_aload_n dX7_write_17 rfl ?_
  refine ax_get (v := .ref (A.1 2)) dX7_write_18 fkX7_17 (rw_g0 hA) rfl ?_
  refine ax_iconst (v := 3) dX7_write_21 (by decide) ?_
  refine ax_iload_n dX7_write_22 rfl ?_
  refine ax_imul dX7_write_23 ?_
  refine ax_top (y := (nI (3 * c))) ((pk_mul 3 c)) ?_
  refine ax_iconst (v := 1) dX7_write_24 (by decide) ?_
  refine ax_iadd dX7_write_25 ?_
  refine ax_top (y := (nI (3 * c + 1))) (nI_1 _) ?_
  refine ax_ialdv (x := (sp_pI q.2.2.1)) dX7_write_26 (rw_g2 hA) (nI_in (by omega) (by decide)) (by rw [nI_clamp (by omega)]; exact pp 1 (by decide)) ?_
  refine ax_iload_n dX7_write_27 rfl ?_
  refine ax_iconst (v := 1) dX7_write_28 (by decide) ?_
  refine ax_isub dX7_write_29 ?_
  refine ax_top (y := (nI s)) (nI_pred s) ?_
  refine ax_callV (b := (A.1 0)) (av := [.int (sp_pI q.2.2.1), .int (nI s)]) (rest := []) (mc' := (rf_cC g q.2.2.1)) (ms' := (rf_cS g T0 q.2.2.1)) dX7_write_30 rfl lkX7_113 (rw_g0 hA) rfl (Nat.le_of_ble_eq_true rfl) (Nat.le_of_ble_eq_true rfl) (by omega) (by omega) (r_choices hA hw _ R hg h1 (rw_T_le le1 hT) hwT hsT hp0 hle hN (by omega) (p := q.2.2.1) (wg_pq hw q hqm 1 (by decide))) (fun E9 h9 q9 => by obtain ⟨a, h', e9, -⟩ := q9; cases e9) (fun v9 h9 q9 => ?_)
  obtain ⟨a2, h2, e9, rfl, le2, ch2⟩ := q9
  cases e9
  show AW G mX7_write (d + 1 + 1) (rf_cC g q.2.1 + rf_cC g q.2.2.1 + rf_cC g q.2.2.2.1 + (Pf.1.length - T.length)) (rf_cS g T0 q.2.1 + rf_cS g T0 q.2.2.1 + rf_cS g T0 q.2.2.2.1 + (rf_slots Pf.1 - rf_slots T)) _ 33 [(0, .ref (A.1 0)), (1, .int (nI c)), (2, .int (nI (s + 1))), (3, .ref a1)] [.ref a2] (rw_O A R h2) ((0 + (rf_cC g q.2.1)) + (rf_cC g q.2.2.1)) ((0 + (rf_cS g T0 q.2.1)) + (rf_cS g T0 q.2.2.1))
  refine ax_astore dX7_write_33 (by decide) ?_
  refine ax_sub (lv' := [(0, .ref (A.1 0)), (1, .int (nI c)), (2, .int (nI (s + 1))), (3, .ref a1), (4, .ref a2)]) (fun _ z => z) ?_
  refine ax_aload_n dX7_write_35 rfl ?_
  refine ax_aload_n dX7_write_36 rfl ?_
  refine ax_get (v := .ref (A.1 2)) dX7_write_37 fkX7_17 (rw_g0 hA) rfl ?_
  refine ax_iconst (v := 3) dX7_write_40 (by decide) ?_
  refine ax_iload_n dX7_write_41 rfl ?_
  refine ax_imul dX7_write_42 ?_
  refine ax_top (y := (nI (3 * c))) ((pk_mul 3 c)) ?_
  refine ax_iconst (v := 2) dX7_write_43 (by decide) ?_
  refine ax_iadd dX7_write_44 ?_
  refine ax_top (y := (nI (3 * c + 2))) (nI_add _ 2) ?_
  refine ax_ialdv (x := (sp_pI q.2.2.2.1)) dX7_write_45 (rw_g2 hA) (nI_in (by omega) (by decide)) (by rw [nI_clamp (by omega)]; exact pp 2 (by decide)) ?_
  refine ax_iload_n dX7_write_46 rfl ?_
  refine ax_iconst (v := 1) dX7_write_47 (by decide) ?_
  refine ax_isub dX7_write_48 ?_
  refine ax_top (y := (nI s)) (nI_pred s) ?_
  refine ax_callV (b := (A.1 0)) (av := [.int (sp_pI q.2.2.2.1), .int (nI s)]) (rest := []) (mc' := (rf_cC g q.2.2.2.1)) (ms' := (rf_cS g T0 q.2.2.2.1)) dX7_write_49 rfl lkX7_113 (rw_g0 hA) rfl (Nat.le_of_ble_eq_true rfl) (Nat.le_of_ble_eq_true rfl) (by omega) (by omega) (r_choices hA hw _ R hg h2 (rw_T_le (hx_tr le1 le2) hT) hwT hsT hp0 hle hN (by omega) (p := q.2.2.2.1) (wg_pq hw q hqm 2 (by decide))) (fun E9 h9 q9 => by obtain ⟨a, h', e9, -⟩ := q9; cases e9) (fun v9 h9 q9 => ?_)
  obtain ⟨a3, h3, e9, rfl, le3, ch3⟩ := q9
  cases e9
  show AW G mX7_write (d + 1 + 1) (rf_cC g q.2.1 + rf_cC g q.2.2.1 + rf_cC g q.2.2.2.1 + (Pf.1.length - T.length)) (rf_cS g T0 q.2.1 + rf_cS g T0 q.2.2.1 + rf_cS g T0 q.2.2.2.1 + (rf_slots Pf.1 - rf_slots T)) _ 52 [(0, .ref (A.1 0)), (1, .int (nI c)), (2, .int (nI (s + 1))), (3, .ref a1), (4, .ref a2)] [.ref a3] (rw_O A R h3) (((0 + (rf_cC g q.2.1)) + (rf_cC g q.2.2.1)) + (rf_cC g q.2.2.2.1)) (((0 + (rf_cS g T0 q.2.1)) + (rf_cS g T0 q.2.2.1)) + (rf_cS g T0 q.2.2.2.1))
  refine ax_astore dX7_write_52 (by decide) ?_
  refine ax_sub (lv' := [(0, .ref (A.1 0)), (1, .int (nI c)), (2, .int (nI (s + 1))), (3, .ref a1), (4, .ref a2), (5, .ref a3)]) (fun _ z => z) ?_
  have hle3 : hx_le h h3 := hx_tr le1 (hx_tr le2 le3)
  have ch1 := rw_chs_le (hx_tr le2 le3) ch1
  have ch2 := rw_chs_le le3 ch2
  obtain ⟨cf1, c11, -⟩ := id ch1
  rw [List.length_map] at c11
  refine ax_aload_n dX7_write_54 rfl ?_
  refine ax_astore dX7_write_55 (by decide) ?_
  refine ax_sub (lv' := [(0, .ref (A.1 0)), (1, .int (nI c)), (2, .int (nI (s + 1))), (3, .ref a1), (4, .ref a2), (5, .ref a3), (6, .ref a1)]) (fun _ z => z) ?_
  refine ax_aload dX7_write_57 rfl ?_
  refine ax_alen (n := (rf_xc g T0 q.2.1).length) dX7_write_59 (rw_rd c11) (by decide) ?_
  refine ax_istore dX7_write_60 (by decide) ?_
  refine ax_sub (lv' := [(0, .ref (A.1 0)), (1, .int (nI c)), (2, .int (nI (s + 1))), (3, .ref a1), (4, .ref a2), (5, .ref a3), (6, .ref a1), (7, .int (nI ((rf_xc g T0 q.2.1).length)))]) (fun _ z => z) ?_
  refine ax_iconst (v := 0) dX7_write_62 (by decide) ?_
  refine ax_istore dX7_write_63 (by decide) ?_
  refine ax_sub (lv' := [(0, .ref (A.1 0)), (1, .int (nI c)), (2, .int (nI (s + 1))), (3, .ref a1), (4, .ref a2), (5, .ref a3), (6, .ref a1), (7, .int (nI ((rf_xc g T0 q.2.1).length))), (8, .int 0)]) (fun _ z => z) ?_
  refine w_l1 hA hw hs0 hw0 hty hc hs7 (R0 := R) hg (h0 := h3) (Pf := Pf) (d + 1) (by omega) hle rfl rfl rfl (rf_xc_l hw hw0 _) (rf_xc_l hw hw0 _) (rf_xc_l hw hw0 _) ch1 ch2 ch3 (fun R' h' z1 z2 z3 z4 => hq0 R' h' z1 (hx_tr hle3 z2) z3 z4) (fun R' h' z1 z2 z3 z4 => hq1 R' h' z1 (hx_tr hle3 z2) z3 z4) (rf_xc g T0 q.2.1).length 0 R h3 T _ _ (by omega) ⟨rw_T_le hle3 hT, hwT, hp0, hx_rfl _, rw_fr_rfl R, ?_, by omega, by omega, hN⟩
  rw [List.drop_zero]
  exact hPf
end RWR5
