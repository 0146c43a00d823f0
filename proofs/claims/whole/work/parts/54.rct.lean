/-! ===== the reference: its table; choices of a type ===== -/
def rw_T (A : rw_Ad) (R : rw_S) (h : ax_H) (T : List sp_E) : Prop := R.1 14 = nI T.length ∧ (∀ t, t < 4 → R.2.1 8 t = nI (sp_cnt T t)) ∧
  ∀ v e, T[v]? = some e → (∃ b, R.2.2 v = some b ∧ rw_row A h b (sp_cd T v)) ∧ R.2.1 6 v = nI (sp_sz e) ∧ R.2.1 7 v = nI (1 + sp_max (sp_hts e.2.2)) ∧ R.2.1 9 (300 * e.1 + sp_cnt (T.take v) e.1) = nI v
theorem rw_T_le {A : rw_Ad} {R : rw_S} {h h' : ax_H} {T : List sp_E} (hl : hx_le h h') (hT : rw_T A R h T) : rw_T A R h' T := by
  refine ⟨hT.1, hT.2.1, fun v e he => ?_⟩
  obtain ⟨⟨b, b1, b2⟩, c2, c3, c4⟩ := hT.2.2 v e he
  exact ⟨⟨b, b1, rw_row_le hl b2⟩, c2, c3, c4⟩
theorem rw_T_at {A : rw_Ad} {R : rw_S} {h : ax_H} {T : List sp_E} (hT : rw_T A R h T) (hw : sp_wT T) {t r v : Nat} (hr : (sp_of T t)[r]? = some v) : ∃ e, T[v]? = some e ∧ e.1 = t ∧ t < 4 ∧ v < 300 ∧ v < T.length ∧ r < sp_cnt T t ∧ sp_cnt T t ≤ 300 ∧ R.2.1 9 (300 * t + r) = nI v ∧ R.2.1 6 v = nI (sp_sz e) ∧ R.2.1 7 v = nI (1 + sp_max (sp_hts e.2.2)) ∧ (∃ b, R.2.2 v = some b ∧ rw_row A h b (sp_cd T v)) ∧ sp_sz e ≤ 8 ∧ 1 + sp_max (sp_hts e.2.2) ≤ 8 := by
  obtain ⟨e, f1, f2, f3⟩ := sp_of_at hr
  have hT1 := hw.1
  have hvl : v < T.length := (List.getElem?_eq_some_iff.mp f1).1
  obtain ⟨w1, w2, w3, w4, -⟩ := hw.2 v e f1
  obtain ⟨k1, k2, k3, k4⟩ := hT.2.2 v e f1
  have hc := sp_cnt_le T t
  have hl := (List.getElem?_eq_some_iff.mp hr).1
  rw [sp_of_len] at hl
  rw [f2] at k4 w1
  rw [f3] at k4
  exact ⟨e, f1, f2, w1, by omega, hvl, hl, by omega, k4, k2, k3, k1, w3, by omega⟩
section RCT
variable {G : ax_G} {A : rw_Ad}

set_option maxRecDepth 100000 in
set_option maxHeartbeats 4000000 in
theorem cu_go (hA : rw_nd A) (d mc ms : Nat) (R : rw_S) (h : ax_H) {u s m cnt v zz : Nat} (hu : u < 4) (hcnt : R.2.1 8 u = nI cnt) (hc3 : cnt ≤ 300) (hm : m < cnt) (hrow : R.2.1 9 (300 * u + m) = nI v) (hv : v < 300) (hz : R.2.1 6 v = nI zz) (hs : s ≤ 8) (hzs : zz ≤ s) {Q : ax_P} (kk : AW G mX7_choices (d + 1) mc ms Q 79 [(0, .ref (A.1 0)), (1, .int (nI u)), (2, .int (nI s)), (3, .int (nI (m + 1)))] [] (rw_O A R h) 0 0) : AW G mX7_choices (d + 1) mc ms Q 79 [(0, .ref (A.1 0)), (1, .int (nI u)), (2, .int (nI s)), (3, .int (nI m))] [] (rw_O A R h) 0 0 := by
  refine ax_iload_n dX7_choices_79 rfl ?_
  refine ax_aload_n dX7_choices_80 rfl ?_
  refine ax_get (v := .ref (A.1 8)) dX7_choices_81 fkX7_40 (rw_g0 hA) rfl ?_
  refine ax_iload_n dX7_choices_84 rfl ?_
  refine ax_ialdv (x := (nI cnt)) dX7_choices_85 (rw_g8 hA) (nI_in hu (by decide)) (by rw [nI_clamp (by omega)]; exact hcnt) ?_
  refine ax_icmp_ge (tgt := 110) dX7_choices_86 (by decide) (fun z => absurd z (il_nle cnt m hm)) (fun _ => ?_)
  refine ax_aload_n dX7_choices_89 rfl ?_
  refine ax_get (v := .ref (A.1 6)) dX7_choices_90 fkX7_34 (rw_g0 hA) rfl ?_
  refine ax_aload_n dX7_choices_93 rfl ?_
  refine ax_iload_n dX7_choices_94 rfl ?_
  refine ax_iload_n dX7_choices_95 rfl ?_
  refine ax_callV (b := (A.1 0)) (av := [.int (nI u), .int (nI m)]) (rest := [.ref (A.1 6)]) (mc' := 0) (ms' := 0) dX7_choices_96 rfl lkX7_110 (rw_g0 hA) rfl (Nat.le_of_ble_eq_true rfl) (Nat.le_of_ble_eq_true rfl) (Nat.zero_le _) (Nat.zero_le _) (r_value hA _ R h (t := u) (k := m) hu (by omega) hrow) (fun E9 h9 q9 => by cases q9.1) (fun v9 h9 q9 => ?_)
  obtain ⟨e9, rfl⟩ := q9
  cases e9
  show AW G mX7_choices (d + 1) mc ms _ 99 [(0, .ref (A.1 0)), (1, .int (nI u)), (2, .int (nI s)), (3, .int (nI m))] [.int (nI v), .ref (A.1 6)] (rw_O A R h) 0 0
  refine ax_ialdv (x := (nI zz)) dX7_choices_99 (rw_g6 hA) (nI_in hv (by decide)) (by rw [nI_clamp (by omega)]; exact hz) ?_
  refine ax_iload_n dX7_choices_100 rfl ?_
  refine ax_icmp_gt (tgt := 110) dX7_choices_101 (by decide) (fun z => absurd z (il_nlt s zz hzs)) (fun _ => ?_)
  refine ax_iinc (v := (nI (m + 1))) dX7_choices_104 rfl (nI_1 m) (by decide) ?_
  refine ax_sub (lv' := [(0, .ref (A.1 0)), (1, .int (nI u)), (2, .int (nI s)), (3, .int (nI (m + 1)))]) (fun _ z => z) ?_
  refine ax_goto (tgt := 79) dX7_choices_107 (by decide) ?_
  exact kk
theorem cu_st1 (hA : rw_nd A) (d mc ms : Nat) (R : rw_S) (h : ax_H) {u s m : Nat} (hu : u < 4) (hcnt : R.2.1 8 u = nI m) (hc3 : m ≤ 300) {Q : ax_P} (kk : AW G mX7_choices (d + 1) mc ms Q 110 [(0, .ref (A.1 0)), (1, .int (nI u)), (2, .int (nI s)), (3, .int (nI m))] [] (rw_O A R h) 0 0) : AW G mX7_choices (d + 1) mc ms Q 79 [(0, .ref (A.1 0)), (1, .int (nI u)), (2, .int (nI s)), (3, .int (nI m))] [] (rw_O A R h) 0 0 := by
  refine ax_iload_n dX7_choices_79 rfl ?_
  refine ax_aload_n dX7_choices_80 rfl ?_
  refine ax_get (v := .ref (A.1 8)) dX7_choices_81 fkX7_40 (rw_g0 hA) rfl ?_
  refine ax_iload_n dX7_choices_84 rfl ?_
  refine ax_ialdv (x := (nI m)) dX7_choices_85 (rw_g8 hA) (nI_in hu (by decide)) (by rw [nI_clamp (by omega)]; exact hcnt) ?_
  refine ax_icmp_ge (tgt := 110) dX7_choices_86 (by decide) (fun _ => ?_) (fun z => absurd (il_le m m (Nat.le_refl _)) z)
  exact kk
theorem cu_st2 (hA : rw_nd A) (d mc ms : Nat) (R : rw_S) (h : ax_H) {u s m cnt v zz : Nat} (hu : u < 4) (hcnt : R.2.1 8 u = nI cnt) (hc3 : cnt ≤ 300) (hm : m < cnt) (hrow : R.2.1 9 (300 * u + m) = nI v) (hv : v < 300) (hz : R.2.1 6 v = nI zz) (hz8 : zz ≤ 8) (hzs : s < zz) {Q : ax_P} (kk : AW G mX7_choices (d + 1) mc ms Q 110 [(0, .ref (A.1 0)), (1, .int (nI u)), (2, .int (nI s)), (3, .int (nI m))] [] (rw_O A R h) 0 0) : AW G mX7_choices (d + 1) mc ms Q 79 [(0, .ref (A.1 0)), (1, .int (nI u)), (2, .int (nI s)), (3, .int (nI m))] [] (rw_O A R h) 0 0 := by
  refine ax_iload_n dX7_choices_79 rfl ?_
  refine ax_aload_n dX7_choices_80 rfl ?_
  refine ax_get (v := .ref (A.1 8)) dX7_choices_81 fkX7_40 (rw_g0 hA) rfl ?_
  refine ax_iload_n dX7_choices_84 rfl ?_
  refine ax_ialdv (x := (nI cnt)) dX7_choices_85 (rw_g8 hA) (nI_in hu (by decide)) (by rw [nI_clamp (by omega)]; exact hcnt) ?_
  refine ax_icmp_ge (tgt := 110) dX7_choices_86 (by decide) (fun z => absurd z (il_nle cnt m hm)) (fun _ => ?_)
  refine ax_aload_n dX7_choices_89 rfl ?_
  refine ax_get (v := .ref (A.1 6)) dX7_choices_90 fkX7_34 (rw_g0 hA) rfl ?_
  refine ax_aload_n dX7_choices_93 rfl ?_
  refine ax_iload_n dX7_choices_94 rfl ?_
  refine ax_iload_n dX7_choices_95 rfl ?_
  refine ax_callV (b := (A.1 0)) (av := [.int (nI u), .int (nI m)]) (rest := [.ref (A.1 6)]) (mc' := 0) (ms' := 0) dX7_choices_96 rfl lkX7_110 (rw_g0 hA) rfl (Nat.le_of_ble_eq_true rfl) (Nat.le_of_ble_eq_true rfl) (Nat.zero_le _) (Nat.zero_le _) (r_value hA _ R h (t := u) (k := m) hu (by omega) hrow) (fun E9 h9 q9 => by cases q9.1) (fun v9 h9 q9 => ?_)
  obtain ⟨e9, rfl⟩ := q9
  cases e9
  show AW G mX7_choices (d + 1) mc ms _ 99 [(0, .ref (A.1 0)), (1, .int (nI u)), (2, .int (nI s)), (3, .int (nI m))] [.int (nI v), .ref (A.1 6)] (rw_O A R h) 0 0
  refine ax_ialdv (x := (nI zz)) dX7_choices_99 (rw_g6 hA) (nI_in hv (by decide)) (by rw [nI_clamp (by omega)]; exact hz) ?_
  refine ax_iload_n dX7_choices_100 rfl ?_
  refine ax_icmp_gt (tgt := 110) dX7_choices_101 (by decide) (fun _ => ?_) (fun z => absurd (il_lt s zz hzs) z)
  exact kk

set_option maxRecDepth 100000 in
set_option maxHeartbeats 4000000 in
theorem cv_turn (hA : rw_nd A) (d mc ms : Nat) (R : rw_S) (h : ax_H) {h' : ax_H} {u s n k v b cn sn q : Nat} {Ls : List (List Nat)} {L : List Nat} (hf : rw_fil A h h' q n Ls) (hls : Ls.length = k) (hu : u < 4) (hn : n ≤ 300) (hk : k < n) (hrow : R.2.1 9 (300 * u + k) = nI v) (hv : v < 300) (hb : R.2.2 v = some b) (hbr : rw_row A h b L) (hcn : cn ≤ mc) (hsn : sn ≤ ms) {Q : ax_P} (kk : ∀ h2, rw_fil A h h2 q n (Ls ++ [L]) → AW G mX7_choices (d + 1) mc ms Q 119 [(0, .ref (A.1 0)), (1, .int (nI u)), (2, .int (nI s)), (3, .int (nI n)), (4, .ref q), (5, .int (nI (k + 1)))] [] (rw_O A R h2) cn sn) : AW G mX7_choices (d + 1) mc ms Q 119 [(0, .ref (A.1 0)), (1, .int (nI u)), (2, .int (nI s)), (3, .int (nI n)), (4, .ref q), (5, .int (nI k))] [] (rw_O A R h') cn sn := by
  refine ax_iload dX7_choices_119 rfl ?_
  refine ax_iload_n dX7_choices_121 rfl ?_
  refine ax_icmp_ge (tgt := 148) dX7_choices_122 (by decide) (fun z => absurd z (il_nle n k hk)) (fun _ => ?_)
  refine ax_aload dX7_choices_125 rfl ?_
  refine ax_iload dX7_choices_127 rfl ?_
  refine ax_aload_n dX7_choices_129 rfl ?_
  refine ax_get (v := .ref (A.1 5)) dX7_choices_130 fkX7_30 (rw_g0 hA) rfl ?_
  refine ax_aload_n dX7_choices_133 rfl ?_
  refine ax_iload_n dX7_choices_134 rfl ?_
  refine ax_iload dX7_choices_135 rfl ?_
  refine ax_callV (b := (A.1 0)) (av := [.int (nI u), .int (nI k)]) (rest := [.ref (A.1 5), .int (nI k), .ref q]) (mc' := 0) (ms' := 0) dX7_choices_137 rfl lkX7_110 (rw_g0 hA) rfl (Nat.le_of_ble_eq_true rfl) (Nat.le_of_ble_eq_true rfl) (by omega) (by omega) (r_value hA _ R h' (t := u) (k := k) hu (by omega) hrow) (fun E9 h9 q9 => by cases q9.1) (fun v9 h9 q9 => ?_)
  obtain ⟨e9, rfl⟩ := q9
  cases e9
  show AW G mX7_choices (d + 1) mc ms _ 140 [(0, .ref (A.1 0)), (1, .int (nI u)), (2, .int (nI s)), (3, .int (nI n)), (4, .ref q), (5, .int (nI k))] [.int (nI v), .ref (A.1 5), .int (nI k), .ref q] (rw_O A R h') cn sn
  refine ax_raald dX7_choices_140 (rw_g5 hA) (nI_in hv (by decide)) (w := b) (by rw [nI_clamp (by omega)]; exact hb) ?_
  obtain ⟨hq, hl, cf, hat, hcf⟩ := hf
  have hbr2 := rw_row_le hl hbr
  obtain ⟨fb, hbt, -⟩ := id hbr2
  refine ax_aast4 dX7_choices_141 (rw_rd hat) (rw_rd hbt) (nI_in hk (by omega)) ?_
  refine ax_eqh (rw_up hat.2) ?_
  have hfl := rw_fil_add (A := A) (h := h) (h' := h) (Ls := Ls) (L := L) hq hl hat hcf hbr2
  rw [nI_clamp (by omega), ← hls]
  refine ax_iinc (v := nI (Ls.length + 1)) dX7_choices_142 rfl (nI_1 _) (by decide) ?_
  refine ax_sub (lv' := [(0, .ref (A.1 0)), (1, .int (nI u)), (2, .int (nI s)), (3, .int (nI n)), (4, .ref q), (5, .int (nI (Ls.length + 1)))]) (fun _ z => z) ?_
  refine ax_goto (tgt := 119) dX7_choices_145 (by decide) ?_
  subst hls
  exact kk _ hfl
theorem cv_end (hA : rw_nd A) (d mc ms : Nat) (R : rw_S) (h : ax_H) {h' : ax_H} {u s n cn sn q : Nat} (hn : n ≤ 300) {Q : ax_P} (hq : Q (.inl (some (.ref q))) (rw_O A R h')) : AW G mX7_choices (d + 1) mc ms Q 119 [(0, .ref (A.1 0)), (1, .int (nI u)), (2, .int (nI s)), (3, .int (nI n)), (4, .ref q), (5, .int (nI n))] [] (rw_O A R h') cn sn := by
  refine ax_iload dX7_choices_119 rfl ?_
  refine ax_iload_n dX7_choices_121 rfl ?_
  refine ax_icmp_ge (tgt := 148) dX7_choices_122 (by decide) (fun _ => ?_) (fun z => absurd (il_le n n (Nat.le_refl _)) z)
  refine ax_aload dX7_choices_148 rfl ?_
  exact ax_aret (st := []) dX7_choices_150 rfl (Or.inr ⟨_, rfl⟩) (Or.inr ⟨_, rfl⟩) hq

set_option maxRecDepth 100000 in
set_option maxHeartbeats 4000000 in
theorem r_chT (hA : rw_nd A) (d : Nat) (R : rw_S) (h : ax_H) {T : List sp_E} (hT : rw_T A R h T) (hw : sp_wT T) (hs : sp_srt T) {u s : Nat} (hu : u < 4) (hs8 : s ≤ 8) : AW G mX7_choices (d + 1) 1 (sp_upto T u s) (fun r h1 => ∃ a h', r = .inl (some (.ref a)) ∧ h1 = rw_O A R h' ∧ hx_le h h' ∧ rw_chs A h' a (((sp_of T u).take (sp_upto T u s)).map (sp_cd T))) 0 [(0, .ref (A.1 0)), (1, .int (nI u)), (2, .int (nI s))] [] (rw_O A R h) 0 0 := by
  have hT1 := hw.1
  have hcl := sp_cnt_le T u
  have hul := sp_upto_le T u s
  have hlen : ((sp_of T u).take (sp_upto T u s)).length = sp_upto T u s := by rw [List.length_take, sp_of_len]; omega
  have loop2 : ∀ (i k q : Nat) (h' : ax_H), k + i = sp_upto T u s → rw_fil A h h' q (sp_upto T u s) (((sp_of T u).take k).map (sp_cd T)) → AW G mX7_choices (d + 1) 1 (sp_upto T u s) (fun r h1 => ∃ a h', r = .inl (some (.ref a)) ∧ h1 = rw_O A R h' ∧ hx_le h h' ∧ rw_chs A h' a (((sp_of T u).take (sp_upto T u s)).map (sp_cd T))) 119 [(0, .ref (A.1 0)), (1, .int (nI u)), (2, .int (nI s)), (3, .int (nI (sp_upto T u s))), (4, .ref q), (5, .int (nI k))] [] (rw_O A R h') (0 + 1) (0 + sp_upto T u s) := by
    intro i
    induction i with
    | zero =>
      intro k q h' hk hf
      have hk : k = sp_upto T u s := by omega
      subst hk
      exact cv_end hA d _ _ R h (by omega) ⟨q, h', rfl, rfl, hf.2.1, rw_fil_chs hf (by rw [List.length_map, hlen])⟩
    | succ i ih =>
      intro k q h' hk hf
      have hkl : k < (sp_of T u).length := by rw [sp_of_len]; omega
      obtain ⟨e, f1, f2, f3, f4, f5, f6, f7, f8, f9, f10, ⟨b, f11, f12⟩, -⟩ := rw_T_at hT hw (List.getElem?_eq_getElem hkl)
      refine cv_turn hA d _ _ R h hf (by rw [List.length_map, List.length_take]; omega) hu (by omega) (by omega) f8 f4 f11 f12 (Nat.le_refl _) (by omega) (fun h2 hf2 => ?_)
      refine ih (k + 1) q h2 (by omega) ?_
      rw [List.take_succ_eq_append_getElem hkl, List.map_append]
      exact hf2
  have mid : AW G mX7_choices (d + 1) 1 (sp_upto T u s) (fun r h1 => ∃ a h', r = .inl (some (.ref a)) ∧ h1 = rw_O A R h' ∧ hx_le h h' ∧ rw_chs A h' a (((sp_of T u).take (sp_upto T u s)).map (sp_cd T))) 110 [(0, .ref (A.1 0)), (1, .int (nI u)), (2, .int (nI s)), (3, .int (nI (sp_upto T u s)))] [] (rw_O A R h) 0 0 := by
    refine ax_iload_n dX7_choices_110 rfl ?_
    refine ax_newq4 (N := sp_upto T u s) dX7_choices_111 anX7_29 (nI_pos (by omega)) (nI_clamp (by omega)) (by omega) (by omega) (by omega) (fun q hq => ?_)
    obtain ⟨q1, q2⟩ := rw_new hA hq
    refine ax_eqh (rw_up q1) ?_
    refine ax_astore dX7_choices_114 (by decide) ?_
    refine ax_sub (lv' := [(0, .ref (A.1 0)), (1, .int (nI u)), (2, .int (nI s)), (3, .int (nI (sp_upto T u s))), (4, .ref q)]) (fun _ z => z) ?_
    refine ax_iconst (v := 0) dX7_choices_116 (by decide) ?_
    refine ax_istore dX7_choices_117 (by decide) ?_
    refine ax_sub (lv' := [(0, .ref (A.1 0)), (1, .int (nI u)), (2, .int (nI s)), (3, .int (nI (sp_upto T u s))), (4, .ref q), (5, .int (nI 0))]) (fun _ z => z) ?_
    exact loop2 (sp_upto T u s) 0 q _ (by omega) ⟨q2, hx_up q2, _, ⟨ax_up_s, q1⟩, fun i L z => by simp at z⟩
  have loop1 : ∀ (i m : Nat), m + i = sp_upto T u s → AW G mX7_choices (d + 1) 1 (sp_upto T u s) (fun r h1 => ∃ a h', r = .inl (some (.ref a)) ∧ h1 = rw_O A R h' ∧ hx_le h h' ∧ rw_chs A h' a (((sp_of T u).take (sp_upto T u s)).map (sp_cd T))) 79 [(0, .ref (A.1 0)), (1, .int (nI u)), (2, .int (nI s)), (3, .int (nI m))] [] (rw_O A R h) 0 0 := by
    intro i
    induction i with
    | zero =>
      intro m hm
      have hm : m = sp_upto T u s := by omega
      subst hm
      by_cases hc : sp_upto T u s = sp_cnt T u
      · exact cu_st1 hA d _ _ R h hu (by rw [hc]; exact hT.2.1 u hu) (by omega) mid
      · have hkl : sp_upto T u s < (sp_of T u).length := by rw [sp_of_len]; omega
        obtain ⟨e, f1, f2, f3, f4, f5, f6, f7, f8, f9, f10, -, f13, -⟩ := rw_T_at hT hw (List.getElem?_eq_getElem hkl)
        refine cu_st2 hA d _ _ R h hu (hT.2.1 u hu) (by omega) f6 f8 f4 f9 f13 ?_ mid
        refine Decidable.byContradiction (fun hn => ?_)
        have h3 := sp_rk_upto hs f1 (z := s) (by omega)
        have h4 := (sp_rk_of (List.getElem?_eq_getElem hkl)).2.2
        rw [f2] at h3
        omega
    | succ i ih =>
      intro m hm
      have hkl : m < (sp_of T u).length := by rw [sp_of_len]; omega
      obtain ⟨e, f1, f2, f3, f4, f5, f6, f7, f8, f9, f10, -, f13, -⟩ := rw_T_at hT hw (List.getElem?_eq_getElem hkl)
      refine cu_go hA d _ _ R h hu (hT.2.1 u hu) (by omega) f6 f8 f4 f9 hs8 ?_ (ih (m + 1) (by omega))
      obtain ⟨e', g1, g2, g3, g4⟩ := sp_upto_in hs (List.getElem?_eq_getElem hkl) (z := s) (by omega)
      rw [f1] at g1; cases g1; exact g4
  refine ax_iload_n dX7_choices_0 rfl ?_
  refine ax_iconst (v := -1) dX7_choices_1 (by decide) ?_
  refine ax_icmp_ne (tgt := 16) dX7_choices_2 (by decide) (fun _ => ?_) (fun z => absurd z (nI_m1 (by omega)))
  refine ax_iload_n dX7_choices_16 rfl ?_
  refine ax_bipush (v := 9) dX7_choices_17 (by decide) ?_
  refine ax_icmp_ne (tgt := 77) dX7_choices_19 (by decide) (fun _ => ?_) (fun z => absurd z (il_ne u 9 (by omega)))
  refine ax_iconst (v := 0) dX7_choices_77 (by decide) ?_
  refine ax_istore_n dX7_choices_78 (by decide) ?_
  refine ax_sub (lv' := [(0, .ref (A.1 0)), (1, .int (nI u)), (2, .int (nI s)), (3, .int (nI 0))]) (fun _ z => z) ?_
  exact loop1 (sp_upto T u s) 0 (by omega)
end RCT
