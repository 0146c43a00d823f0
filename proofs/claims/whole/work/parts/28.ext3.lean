/-! ===== extendByParts ===== -/
theorem ax_top {G : ax_G} {M : ax_M} {d mc ms : Nat} {Q : ax_P} {pc : Nat} {lv : ax_L} {st : List Value} {h : ax_H} {cn sn : Nat} {x y : Int32} (e : x = y) (k : AW G M d mc ms Q pc lv (.int y :: st) h cn sn) : AW G M d mc ms Q pc lv (.int x :: st) h cn sn := e ▸ k
def sp_sz (e : sp_E) : Nat := 1 + sp_size e.2.2
def sp_srt (T : List sp_E) : Prop := ∀ (v w : Nat) (e f : sp_E), v ≤ w → T[v]? = some e → T[w]? = some f → sp_sz e ≤ sp_sz f
theorem sp_upto_cut {T : List sp_E} (hs : sp_srt T) {v z : Nat} {e : sp_E} (he : T[v]? = some e) (hz : z < sp_sz e) : sp_upto T e.1 z ≤ sp_cnt (T.take v) e.1 := by
  unfold sp_upto sp_cnt
  have h1 : T = T.take v ++ T.drop v := (List.take_append_drop v T).symm
  have h2 : (T.drop v).countP (fun x => x.1 == e.1 && decide (1 + sp_size x.2.2 ≤ z)) = 0 := by
    rw [List.countP_eq_zero]
    intro x hx hc
    obtain ⟨i, hi⟩ := List.getElem?_of_mem hx
    rw [List.getElem?_drop] at hi
    have := hs v (v + i) e x (by omega) he hi
    simp at hc
    unfold sp_sz at this hz
    omega
  have h3 : T.countP (fun x => x.1 == e.1 && decide (1 + sp_size x.2.2 ≤ z)) = (T.take v).countP (fun x => x.1 == e.1 && decide (1 + sp_size x.2.2 ≤ z)) := by
    have h4 := congrArg (List.countP (fun x : sp_E => x.1 == e.1 && decide (1 + sp_size x.2.2 ≤ z))) h1
    rw [List.countP_append, h2] at h4
    exact h4
  rw [h3]
  apply List.countP_mono_left
  intro x _ hx
  simp at hx
  simp [hx.1]
theorem sp_upto_in {T : List sp_E} (hs : sp_srt T) {t r z v : Nat} (h : (sp_of T t)[r]? = some v) (hr : r < sp_upto T t z) : ∃ e, T[v]? = some e ∧ e.1 = t ∧ sp_cnt (T.take v) t = r ∧ sp_sz e ≤ z := by
  obtain ⟨e, e1, rfl, e3⟩ := sp_of_at h
  refine ⟨e, e1, rfl, e3, Nat.le_of_not_lt fun hz => ?_⟩
  have := sp_upto_cut hs e1 hz
  omega

set_option maxRecDepth 100000 in
set_option maxHeartbeats 4000000 in
theorem lp_part1 {G : ax_G} {ad : cs_K → Nat} (hi : cs_inj ad) {g : sp_G} {T0 : List sp_E} {s c n : Nat} {q : sp_C} (hw : sp_wg g) (hc : g.2.2.2[c]? = some q) (hs7 : s ≤ 7) (IH : st_EX G ad g T0 s c q n) (d : Nat) (hd : 2 * n + 3 ≤ d + 2) (h : ax_H) {xs : List sp_X} {left : Nat} (hx : sp_xs T0 g.1 g.2.1 xs) (hkn : xs.length + n = 3) (hsz : sp_size xs + left = s) (hl0 : T0.length ≤ 300) (hx3 : xs.length < 3) (hsrt : sp_srt T0) {p wn z ez : Nat} {ls : Int32} (hp4 : p < 4) (hz : z ≤ left) (hE : ez = sp_upto T0 p z) {Q : ax_P} (r v : Nat) (e : sp_E) (S : cs_S) (T : List sp_E) (hr : r < ez) (hv : (sp_of T0 p)[r]? = some v) (he0 : T0[v]? = some e) (hin : st_in g S T T0 s) (h5 : S.1 5 = 0) (hb : st_beg S q.1 c xs)
    (k1 : sp_clash q.2.2.2.2 xs (sp_att v e) = true → AW G mX3_extendByParts (d + 3) 0 0 Q 50 [(0, .ref (ad (0, 6))), (1, .ref (ad (1, 300 + xs.length))), (2, .int (nI p)), (3, .int (nI left)), (4, .int (nI wn)), (5, .int (nI q.2.2.2.2)), (6, .int ls), (7, .int (nI ez)), (8, .int (nI (r + 1)))] [] (cs_O ad S h) 0 0)
    (k2 : sp_clash q.2.2.2.2 xs (sp_att v e) = false → ∀ {S2 : cs_S} (S3 : cs_S), st_cp (300 + (xs.length + 1)) S S2 → st_out g T0 s (xs.length + 1) (sp_pushes (T, false) ((sp_ext T0 g.1 g.2.1 q n (xs ++ [.inr (sp_att v e)]) (left - (1 + sp_size e.2.2))).map (fun ys => (q.1, c, ys)))) S2 S3 → AW G mX3_extendByParts (d + 3) 0 0 Q 50 [(0, .ref (ad (0, 6))), (1, .ref (ad (1, 300 + xs.length))), (2, .int (nI p)), (3, .int (nI left)), (4, .int (nI wn)), (5, .int (nI q.2.2.2.2)), (6, .int ls), (7, .int (nI ez)), (8, .int (nI (r + 1)))] [] (cs_O ad S3 h) 0 0) :
    AW G mX3_extendByParts (d + 3) 0 0 Q 50 [(0, .ref (ad (0, 6))), (1, .ref (ad (1, 300 + xs.length))), (2, .int (nI p)), (3, .int (nI left)), (4, .int (nI wn)), (5, .int (nI q.2.2.2.2)), (6, .int ls), (7, .int (nI ez)), (8, .int (nI r))] [] (cs_O ad S h) 0 0 := by
  have hh5 := hw.2.1
  have hgx : sp_g xs := sp_xs_g hx hh5 hin.2.2.2.1 hin.2.2.2.2.1
  have hk5 : q.2.2.2.2 ≤ 5 := (hw.2.2.2.2 q (List.mem_of_getElem? hc)).2.2.2.2.2
  obtain ⟨e', f1, f2, f3, f4⟩ := sp_upto_in hsrt hv (hE ▸ hr)
  have f9 : e' = e := Option.some.inj (f1.symm.trans he0)
  subst f9
  have f4 : 1 + sp_size e'.2.2 ≤ z := f4
  have he := sp_pre_get hin.2.2.2.2.1 he0
  have hv0 : v < T0.length := (List.getElem?_eq_some_iff.mp he0).1
  have hez : ez ≤ sp_cnt T0 p := by rw [hE]; exact sp_upto_le _ _ _
  have hct := sp_cnt_pre hin.2.2.2.2.1 p
  have hk3 : sp_cnt T p ≤ 300 := Nat.le_trans (sp_cnt_le _ _) hin.2.2.2.1.1
  have hrk : r < sp_cnt T p := by omega
  obtain ⟨hokv, hrank, hov⟩ := hin.2.2.1.2.2 v e' he
  rw [sp_pre_take hin.2.2.2.2.1 (Nat.le_of_lt hv0), f2, f3] at hov
  refine ax_iload dX3_extendByParts_50 rfl ?_
  refine ax_iload dX3_extendByParts_52 rfl ?_
  refine ax_icmp_ge (tgt := 130) dX3_extendByParts_54 (by decide) (fun z => absurd z (il_nle ez r hr)) (fun _ => ?_)
  refine ax_aload_n dX3_extendByParts_57 rfl ?_
  refine ax_get (v := .int 0) dX3_extendByParts_58 fkX3_39 (cs_get hi (cs_k0 (by decide))) (congrArg (fun z => some (Value.int z)) (h5)) ?_
  refine ax_if_ne (tgt := 130) dX3_extendByParts_61 (by decide) (fun z => absurd rfl z) (fun _ => ?_)
  refine ax_aload_n dX3_extendByParts_64 rfl ?_
  refine ax_iload_n dX3_extendByParts_65 rfl ?_
  refine ax_iload dX3_extendByParts_66 rfl ?_
  refine ax_callV (b := (ad (0, 6))) (av := [.int (nI p), .int (nI r)]) (rest := []) (mc' := 0) (ms' := 0) dX3_extendByParts_68 rfl lkX3_59 (cs_get hi (cs_k0 (by decide))) rfl (Nat.le_of_ble_eq_true rfl) (Nat.le_of_ble_eq_true rfl) (Nat.le_refl 0) (Nat.le_refl 0) (cv_valueAt hi _ S h (v := v) hp4 (by omega) (hin.2.2.1.2.1 p hp4) hrk hk3 hov) (fun E9 h9 q9 => by cases q9.1) (fun v9 h9 q9 => ?_)
  obtain ⟨e9, rfl⟩ := q9
  cases e9
  show AW G mX3_extendByParts (d + 3) 0 0 Q 71 [(0, .ref (ad (0, 6))), (1, .ref (ad (1, 300 + xs.length))), (2, .int (nI p)), (3, .int (nI left)), (4, .int (nI wn)), (5, .int (nI q.2.2.2.2)), (6, .int ls), (7, .int (nI ez)), (8, .int (nI r))] [.ref (ad (1, v))] (cs_O ad S h) 0 0
  refine ax_astore dX3_extendByParts_71 (by decide) ?_
  refine ax_sub (lv' := [(0, .ref (ad (0, 6))), (1, .ref (ad (1, 300 + xs.length))), (2, .int (nI p)), (3, .int (nI left)), (4, .int (nI wn)), (5, .int (nI q.2.2.2.2)), (6, .int ls), (7, .int (nI ez)), (8, .int (nI r)), (9, .ref (ad (1, v)))]) (fun _ z => z) ?_
  refine ax_aload dX3_extendByParts_73 rfl ?_
  refine ax_ifnull dX3_extendByParts_75 ?_
  refine ax_aload_n dX3_extendByParts_78 rfl ?_
  refine ax_aload dX3_extendByParts_79 rfl ?_
  refine ax_iload dX3_extendByParts_81 rfl ?_
  refine ax_callV (b := (ad (1, 300 + xs.length))) (av := [.ref (ad (1, v)), .int (nI q.2.2.2.2)]) (rest := []) (mc' := 0) (ms' := 0) dX3_extendByParts_83 rfl lkX3_138 (cs_get hi (cs_k1 (by omega))) rfl (Nat.le_of_ble_eq_true rfl) (Nat.le_of_ble_eq_true rfl) (Nat.le_refl 0) (Nat.le_refl 0) (ch_clash hi _ S h (by omega) (by omega) (by omega) hb hgx hokv (sp_wT_gx hin.2.2.2.1 he) hk5) (fun E9 h9 q9 => by cases q9.1) (fun v9 h9 q9 => ?_)
  obtain ⟨e9, rfl⟩ := q9
  cases e9
  show AW G mX3_extendByParts (d + 3) 0 0 Q 86 [(0, .ref (ad (0, 6))), (1, .ref (ad (1, 300 + xs.length))), (2, .int (nI p)), (3, .int (nI left)), (4, .int (nI wn)), (5, .int (nI q.2.2.2.2)), (6, .int ls), (7, .int (nI ez)), (8, .int (nI r)), (9, .ref (ad (1, v)))] [.int (if sp_clash q.2.2.2.2 xs (sp_att v e') then 1 else 0)] (cs_O ad S h) 0 0
  refine ax_if_eq (tgt := 92) dX3_extendByParts_86 (by decide) (fun c1 => ?_) (fun c1 => ?_)
  · refine ax_aload_n dX3_extendByParts_92 rfl ?_
    refine ax_aload_n dX3_extendByParts_93 rfl ?_
    refine ax_callV (b := (ad (0, 6))) (av := [.ref (ad (1, 300 + xs.length))]) (rest := []) (mc' := 0) (ms' := 0) dX3_extendByParts_94 rfl lkX3_131 (cs_get hi (cs_k0 (by decide))) rfl (Nat.le_of_ble_eq_true rfl) (Nat.le_of_ble_eq_true rfl) (Nat.le_refl 0) (Nat.le_refl 0) (ch_longer hi _ S h hin.2.1 hl0 hx (by omega) hb) (fun E9 h9 q9 => by cases q9.1) (fun v9 h9 q9 => ?_)
    obtain ⟨e9, S1, rfl, cp1, ok1⟩ := q9
    cases e9
    show AW G mX3_extendByParts (d + 3) 0 0 Q 97 [(0, .ref (ad (0, 6))), (1, .ref (ad (1, 300 + xs.length))), (2, .int (nI p)), (3, .int (nI left)), (4, .int (nI wn)), (5, .int (nI q.2.2.2.2)), (6, .int ls), (7, .int (nI ez)), (8, .int (nI r)), (9, .ref (ad (1, v)))] [.ref (ad (1, 300 + (xs.length + 1)))] (cs_O ad S1 h) 0 0
    refine ax_astore dX3_extendByParts_97 (by decide) ?_
    refine ax_sub (lv' := [(0, .ref (ad (0, 6))), (1, .ref (ad (1, 300 + xs.length))), (2, .int (nI p)), (3, .int (nI left)), (4, .int (nI wn)), (5, .int (nI q.2.2.2.2)), (6, .int ls), (7, .int (nI ez)), (8, .int (nI r)), (9, .ref (ad (1, v))), (10, .ref (ad (1, 300 + (xs.length + 1))))]) (fun _ z => z) ?_
    refine ax_aload dX3_extendByParts_99 rfl ?_
    refine ax_ifnull dX3_extendByParts_101 ?_
    refine ax_aload dX3_extendByParts_104 rfl ?_
    refine ax_aload dX3_extendByParts_106 rfl ?_
    refine ax_callV (b := (ad (1, 300 + (xs.length + 1)))) (av := [.ref (ad (1, v))]) (rest := []) (mc' := 0) (ms' := 0) dX3_extendByParts_108 rfl lkX3_142 (cs_get hi (cs_k1 (by omega))) rfl (Nat.le_of_ble_eq_true rfl) (Nat.le_of_ble_eq_true rfl) (Nat.le_refl 0) (Nat.le_refl 0) (ch_part hi _ S1 h (e := e') (by omega) (by omega) (by omega) hgx (by omega) ok1 (by rw [(cp1.2.2.2.1 v (by omega)).1, (cp1.2.2.2.1 v (by omega)).2.1, (cp1.2.2.2.1 v (by omega)).2.2]; exact hokv) (sp_wT_gx hin.2.2.2.1 he)) (fun E9 h9 q9 => by cases q9.1) (fun v9 h9 q9 => ?_)
    obtain ⟨e9, S2, rfl, cp2, ok2⟩ := q9
    cases e9
    show AW G mX3_extendByParts (d + 3) 0 0 Q 111 [(0, .ref (ad (0, 6))), (1, .ref (ad (1, 300 + xs.length))), (2, .int (nI p)), (3, .int (nI left)), (4, .int (nI wn)), (5, .int (nI q.2.2.2.2)), (6, .int ls), (7, .int (nI ez)), (8, .int (nI r)), (9, .ref (ad (1, v))), (10, .ref (ad (1, 300 + (xs.length + 1))))] [] (cs_O ad S2 h) 0 0
    refine ax_aload_n dX3_extendByParts_111 rfl ?_
    refine ax_aload dX3_extendByParts_112 rfl ?_
    refine ax_iload_n dX3_extendByParts_114 rfl ?_
    refine ax_aload dX3_extendByParts_115 rfl ?_
    refine ax_get (v := .int (nI (1 + sp_size e'.2.2))) dX3_extendByParts_117 fkX3_52 (cs_get hi (cs_k1 (by omega))) (congrArg (fun z => some (Value.int z)) ((congrFun ((st_cp_tr cp1 cp2).2.2.2.1 v (by omega)).1 6).trans hokv.2.2.2.1)) ?_
    refine ax_isub dX3_extendByParts_120 ?_
    refine ax_top (pk_sub (by omega)) ?_
    refine ax_callV (b := (ad (0, 6))) (av := [.ref (ad (1, 300 + (xs.length + 1))), .int (nI (left - (1 + sp_size e'.2.2)))]) (rest := []) (mc' := 0) (ms' := 0) dX3_extendByParts_121 rfl lkX3_87 (cs_get hi (cs_k0 (by decide))) rfl (Nat.le_of_ble_eq_true rfl) (Nat.le_of_ble_eq_true rfl) (Nat.le_refl 0) (Nat.le_refl 0) (IH _ hd S2 h T (xs ++ [.inr (sp_att v e')]) (left - (1 + sp_size e'.2.2)) (xs.length + 1) (by simp) (by omega) (st_cp_in (st_cp_tr cp1 cp2) (by omega) hin) (by rw [(st_cp_tr cp1 cp2).1]; exact h5) (sp_xs_part hx (by omega) he0) ok2 (by rw [sp_size_app]; show sp_size xs + ((1 + sp_size e'.2.2) + 0) + _ = s; omega)) (fun E9 h9 q9 => by cases q9.1) (fun v9 h9 q9 => ?_)
    obtain ⟨e9, S3, rfl, o9⟩ := q9
    cases e9
    show AW G mX3_extendByParts (d + 3) 0 0 Q 124 [(0, .ref (ad (0, 6))), (1, .ref (ad (1, 300 + xs.length))), (2, .int (nI p)), (3, .int (nI left)), (4, .int (nI wn)), (5, .int (nI q.2.2.2.2)), (6, .int ls), (7, .int (nI ez)), (8, .int (nI r)), (9, .ref (ad (1, v))), (10, .ref (ad (1, 300 + (xs.length + 1))))] [] (cs_O ad S3 h) 0 0
    refine ax_iinc (v := nI (r + 1)) dX3_extendByParts_124 rfl (nI_1 r) (by decide) ?_
    refine ax_sub (lv' := [(0, .ref (ad (0, 6))), (1, .ref (ad (1, 300 + xs.length))), (2, .int (nI p)), (3, .int (nI left)), (4, .int (nI wn)), (5, .int (nI q.2.2.2.2)), (6, .int ls), (7, .int (nI ez)), (8, .int (nI (r + 1))), (9, .ref (ad (1, v))), (10, .ref (ad (1, 300 + (xs.length + 1))))]) (fun _ z => z) ?_
    refine ax_goto (tgt := 50) dX3_extendByParts_127 (by decide) ?_
    exact ax_sub (lv' := [(0, .ref (ad (0, 6))), (1, .ref (ad (1, 300 + xs.length))), (2, .int (nI p)), (3, .int (nI left)), (4, .int (nI wn)), (5, .int (nI q.2.2.2.2)), (6, .int ls), (7, .int (nI ez)), (8, .int (nI (r + 1)))]) (fun _ hz => List.take_subset 9 _ hz) (k2 (by simpa using c1) S3 (st_cp_tr cp1 cp2) o9)
  · refine ax_goto (tgt := 124) dX3_extendByParts_89 (by decide) ?_
    refine ax_iinc (v := nI (r + 1)) dX3_extendByParts_124 rfl (nI_1 r) (by decide) ?_
    refine ax_sub (lv' := [(0, .ref (ad (0, 6))), (1, .ref (ad (1, 300 + xs.length))), (2, .int (nI p)), (3, .int (nI left)), (4, .int (nI wn)), (5, .int (nI q.2.2.2.2)), (6, .int ls), (7, .int (nI ez)), (8, .int (nI (r + 1))), (9, .ref (ad (1, v)))]) (fun _ z => z) ?_
    refine ax_goto (tgt := 50) dX3_extendByParts_127 (by decide) ?_
    exact ax_sub (lv' := [(0, .ref (ad (0, 6))), (1, .ref (ad (1, 300 + xs.length))), (2, .int (nI p)), (3, .int (nI left)), (4, .int (nI wn)), (5, .int (nI q.2.2.2.2)), (6, .int ls), (7, .int (nI ez)), (8, .int (nI (r + 1)))]) (fun _ hz => List.take_subset 9 _ hz) (k1 (by simpa using c1))
set_option maxRecDepth 100000 in
set_option maxHeartbeats 4000000 in
theorem lp_part0 {G : ax_G} {ad : cs_K → Nat} (hi : cs_inj ad) (d : Nat) (h : ax_H) {xs : List sp_X} {q : sp_C} {left p wn ez r : Nat} {ls : Int32} {Q : ax_P} (S : cs_S) (hz : ez ≤ 300) (h59 : r = ez ∨ (r < ez ∧ S.1 5 = 1)) (hq : Q (.inl none) (cs_O ad S h)) :
    AW G mX3_extendByParts (d + 3) 0 0 Q 50 [(0, .ref (ad (0, 6))), (1, .ref (ad (1, 300 + xs.length))), (2, .int (nI p)), (3, .int (nI left)), (4, .int (nI wn)), (5, .int (nI q.2.2.2.2)), (6, .int ls), (7, .int (nI ez)), (8, .int (nI r))] [] (cs_O ad S h) 0 0 := by
  rcases h59 with h59 | ⟨hr, h5⟩
  · skip
    refine ax_iload dX3_extendByParts_50 rfl ?_
    refine ax_iload dX3_extendByParts_52 rfl ?_
    refine ax_icmp_ge (tgt := 130) dX3_extendByParts_54 (by decide) (fun _ => ?_) (fun z => absurd (il_le ez r (by omega)) z)
    exact ax_vret (st := []) dX3_extendByParts_130 rfl hq
  · skip
    refine ax_iload dX3_extendByParts_50 rfl ?_
    refine ax_iload dX3_extendByParts_52 rfl ?_
    refine ax_icmp_ge (tgt := 130) dX3_extendByParts_54 (by decide) (fun z => absurd z (il_nle ez r hr)) (fun _ => ?_)
    refine ax_aload_n dX3_extendByParts_57 rfl ?_
    refine ax_get (v := .int 1) dX3_extendByParts_58 fkX3_39 (cs_get hi (cs_k0 (by decide))) (congrArg (fun z => some (Value.int z)) (h5)) ?_
    refine ax_if_ne (tgt := 130) dX3_extendByParts_61 (by decide) (fun _ => ?_) (fun z => absurd z (by decide))
    exact ax_vret (st := []) dX3_extendByParts_130 rfl hq
theorem lp_part {G : ax_G} {ad : cs_K → Nat} (hi : cs_inj ad) {g : sp_G} {T0 : List sp_E} {s c n : Nat} {q : sp_C} (hw : sp_wg g) (hc : g.2.2.2[c]? = some q) (hs7 : s ≤ 7) (IH : st_EX G ad g T0 s c q n) (d : Nat) (hd : 2 * n + 3 ≤ d + 2) (h : ax_H) {xs : List sp_X} {left : Nat} (hx : sp_xs T0 g.1 g.2.1 xs) (hkn : xs.length + n = 3) (hsz : sp_size xs + left = s) (hl0 : T0.length ≤ 300) (hx3 : xs.length < 3) (hsrt : sp_srt T0) {p wn z ez : Nat} {ls : Int32} (hp4 : p < 4) (hz : z ≤ left) (hE : ez = sp_upto T0 p z) {Q : ax_P} : ∀ (j r : Nat) (S : cs_S) (P : List sp_E × Bool), r + j = ez → st_in g S P.1 T0 s → S.1 5 = (if P.2 then 1 else 0) → st_beg S q.1 c xs →
    (∀ S', st_out g T0 s xs.length (sp_pushes P (((((sp_of T0 p).take ez).drop r).flatMap (fun v => match T0[v]? with
      | some e => if sp_clash q.2.2.2.2 xs (sp_att v e) then [] else sp_ext T0 g.1 g.2.1 q n (xs ++ [.inr (sp_att v e)]) (left - (1 + sp_size e.2.2))
      | none => [])).map (fun ys => (q.1, c, ys)))) S S' → Q (.inl none) (cs_O ad S' h)) →
    AW G mX3_extendByParts (d + 3) 0 0 Q 50 [(0, .ref (ad (0, 6))), (1, .ref (ad (1, 300 + xs.length))), (2, .int (nI p)), (3, .int (nI left)), (4, .int (nI wn)), (5, .int (nI q.2.2.2.2)), (6, .int ls), (7, .int (nI ez)), (8, .int (nI r))] [] (cs_O ad S h) 0 0 := by
  have hez : ez ≤ (sp_of T0 p).length := by rw [hE, sp_of_len]; exact sp_upto_le _ _ _
  have hez3 : ez ≤ 300 := by rw [sp_of_len] at hez; exact Nat.le_trans hez (Nat.le_trans (sp_cnt_le _ _) hl0)
  intro j
  induction j with
  | zero =>
    intro r S P hm hin h5 hb hQ
    have hrz : r = ez := by omega
    refine lp_part0 hi d h S hez3 (Or.inl hrz) (hQ S ?_)
    rw [List.drop_eq_nil_of_le (by rw [List.length_take]; omega)]
    exact ⟨hin, st_same_rfl _ _, h5⟩
  | succ j ih =>
    intro r S P hm hin h5 hb hQ
    cases hp : P.2 with
    | true =>
      rw [hp] at h5
      refine lp_part0 hi d h S hez3 (Or.inr ⟨by omega, h5⟩) (hQ S ?_)
      rw [sp_full hp]
      exact ⟨hin, st_same_rfl _ _, by rw [hp]; exact h5⟩
    | false =>
      rw [hp] at h5
      obtain ⟨T, b⟩ := P
      cases hp
      have hlt : r < (sp_of T0 p).length := by omega
      have hv : (sp_of T0 p)[r]? = some ((sp_of T0 p)[r]) := List.getElem?_eq_getElem hlt
      obtain ⟨e, he0, -, -⟩ := sp_of_at hv
      have hd1 : ((sp_of T0 p).take ez).drop r = (sp_of T0 p)[r] :: ((sp_of T0 p).take ez).drop (r + 1) := by
        rw [List.drop_eq_getElem_cons (by rw [List.length_take]; omega), List.getElem_take]
      rw [hd1, List.flatMap_cons, List.map_append, sp_pushes_app, he0] at hQ
      refine lp_part1 hi hw hc hs7 IH d hd h hx hkn hsz hl0 hx3 hsrt hp4 hz hE r _ e S T (by omega) hv he0 hin h5 hb (fun hcl => ?_) (fun hcl {S2} S3 cp o9 => ?_)
      · refine ih (r + 1) S (T, false) (by omega) hin h5 hb (fun S' o' => hQ S' ?_)
        simp only [hcl, if_true]
        exact o'
      · have sm : st_same xs.length S S3 := st_same_tr (st_cp_same cp rfl (by omega)) (st_same_le (by omega) o9.2.1)
        refine ih (r + 1) S3 _ (by omega) o9.1 o9.2.2 (st_same_beg sm (Nat.le_refl _) hb) (fun S' o' => hQ S' ?_)
        simp only [hcl]
        exact ⟨o'.1, st_same_tr sm o'.2.1, o'.2.2⟩

theorem sp_upto_mono (T : List sp_E) (t : Nat) {a b : Nat} (h : a ≤ b) : sp_upto T t a ≤ sp_upto T t b := by
  unfold sp_upto
  apply List.countP_mono_left
  intro x _ hx
  simp at hx
  simp [hx.1]; omega
set_option maxRecDepth 100000 in
set_option maxHeartbeats 4000000 in
theorem ch_extPart {G : ax_G} {ad : cs_K → Nat} (hi : cs_inj ad) {g : sp_G} {T0 : List sp_E} {s c n : Nat} {q : sp_C} (hw : sp_wg g) (hc : g.2.2.2[c]? = some q) (hs7 : s ≤ 7) (IH : st_EX G ad g T0 s c q n) (d : Nat) (hd : 2 * n + 3 ≤ d + 2) (h : ax_H) {xs : List sp_X} {left : Nat} (hx : sp_xs T0 g.1 g.2.1 xs) (hkn : xs.length + n = 3) (hsz : sp_size xs + left = s) (hl0 : T0.length ≤ 300) (hx3 : xs.length < 3) (hsrt : sp_srt T0) {p wn : Nat} (hp4 : p < 4) (hwn : 1 ≤ wn) (hwl : wn ≤ left) {Q : ax_P} (S : cs_S) (T : List sp_E) (hin : st_in g S T T0 s) (h5 : S.1 5 = 0) (hb : st_beg S q.1 c xs) (hQ : ∀ S', st_out g T0 s xs.length (sp_pushes (T, false) (((((sp_of T0 p).take (sp_upto T0 p (left - (wn - 1)))).drop (sp_upto T0 p ((if wn = 1 then left else 1) - 1))).flatMap (fun v => match T0[v]? with
      | some e => if sp_clash q.2.2.2.2 xs (sp_att v e) then [] else sp_ext T0 g.1 g.2.1 q n (xs ++ [.inr (sp_att v e)]) (left - (1 + sp_size e.2.2))
      | none => [])).map (fun ys => (q.1, c, ys)))) S S' → Q (.inl none) (cs_O ad S' h)) :
    AW G mX3_extendByParts (d + 3) 0 0 Q 0 [(0, .ref (ad (0, 6))), (1, .ref (ad (1, 300 + xs.length))), (2, .int (nI p)), (3, .int (nI left)), (4, .int (nI wn))] [] (cs_O ad S h) 0 0 := by
  by_cases hone : wn = 1
  · rw [if_pos hone] at hQ
    have hmn := sp_upto_mono T0 p (show left - 1 ≤ left - (wn - 1) by omega)
    refine ax_aload_n dX3_extendByParts_0 rfl ?_
    refine ax_get (v := .ref (ad (0, 1))) dX3_extendByParts_1 fkX3_9 (cs_get hi (cs_k0 (by decide))) rfl ?_
    refine ax_aload_n dX3_extendByParts_4 rfl ?_
    refine ax_get (v := .int (nI c)) dX3_extendByParts_5 fkX3_91 (cs_get hi (cs_k1 (by omega))) (congrArg (fun z => some (Value.int z)) (hb.2.1)) ?_
    refine ax_callV (b := (ad (0, 1))) (av := [.int (nI c)]) (rest := []) (mc' := 0) (ms' := 0) dX3_extendByParts_8 rfl lkX3_118 (cs_get hi (cs_k0 (by decide))) rfl (Nat.le_of_ble_eq_true rfl) (Nat.le_of_ble_eq_true rfl) (Nat.le_refl 0) (Nat.le_refl 0) (cg_conditionOf hi _ S h hin.1 hw hc) (fun E9 h9 q9 => by cases q9.1) (fun v9 h9 q9 => ?_)
    obtain ⟨e9, rfl⟩ := q9
    cases e9
    show AW G mX3_extendByParts (d + 3) 0 0 Q 11 [(0, .ref (ad (0, 6))), (1, .ref (ad (1, 300 + xs.length))), (2, .int (nI p)), (3, .int (nI left)), (4, .int (nI wn))] [.int (nI q.2.2.2.2)] (cs_O ad S h) 0 0
    refine ax_istore dX3_extendByParts_11 (by decide) ?_
    refine ax_sub (lv' := [(0, .ref (ad (0, 6))), (1, .ref (ad (1, 300 + xs.length))), (2, .int (nI p)), (3, .int (nI left)), (4, .int (nI wn)), (5, .int (nI q.2.2.2.2))]) (fun _ z => z) ?_
    refine ax_iload dX3_extendByParts_13 rfl ?_
    refine ax_iconst (v := 1) dX3_extendByParts_15 (by decide) ?_
    refine ax_icmp_ne (tgt := 23) dX3_extendByParts_16 (by decide) (fun z => absurd (by rw [hone]; rfl) z) (fun _ => ?_)
    refine ax_iload_n dX3_extendByParts_19 rfl ?_
    refine ax_goto (tgt := 24) dX3_extendByParts_20 (by decide) ?_
    refine ax_istore dX3_extendByParts_24 (by decide) ?_
    refine ax_sub (lv' := [(0, .ref (ad (0, 6))), (1, .ref (ad (1, 300 + xs.length))), (2, .int (nI p)), (3, .int (nI left)), (4, .int (nI wn)), (5, .int (nI q.2.2.2.2)), (6, .int (nI left))]) (fun _ z => z) ?_
    refine ax_aload_n dX3_extendByParts_26 rfl ?_
    refine ax_iload_n dX3_extendByParts_27 rfl ?_
    refine ax_iload_n dX3_extendByParts_28 rfl ?_
    refine ax_iload dX3_extendByParts_29 rfl ?_
    refine ax_iconst (v := 1) dX3_extendByParts_31 (by decide) ?_
    refine ax_isub dX3_extendByParts_32 ?_
    refine ax_top (pk_sub (a := wn) (b := 1) (by omega)) ?_
    refine ax_isub dX3_extendByParts_33 ?_
    refine ax_top (pk_sub (by omega)) ?_
    refine ax_callV (b := (ad (0, 6))) (av := [.int (nI p), .int (nI (left - (wn - 1)))]) (rest := []) (mc' := 0) (ms' := 0) dX3_extendByParts_34 rfl lkX3_55 (cs_get hi (cs_k0 (by decide))) rfl (Nat.le_of_ble_eq_true rfl) (Nat.le_of_ble_eq_true rfl) (Nat.le_refl 0) (Nat.le_refl 0) (cv_upTo hi _ S h hp4 (z := (left - (wn - 1))) (by omega)) (fun E9 h9 q9 => by cases q9.1) (fun v9 h9 q9 => ?_)
    obtain ⟨e9, rfl⟩ := q9
    cases e9
    rw [hin.2.2.2.2.2 p (left - (wn - 1)) hp4 (by omega)]
    show AW G mX3_extendByParts (d + 3) 0 0 Q 37 [(0, .ref (ad (0, 6))), (1, .ref (ad (1, 300 + xs.length))), (2, .int (nI p)), (3, .int (nI left)), (4, .int (nI wn)), (5, .int (nI q.2.2.2.2)), (6, .int (nI left))] [.int (nI (sp_upto T0 p (left - (wn - 1))))] (cs_O ad S h) 0 0
    refine ax_istore dX3_extendByParts_37 (by decide) ?_
    refine ax_sub (lv' := [(0, .ref (ad (0, 6))), (1, .ref (ad (1, 300 + xs.length))), (2, .int (nI p)), (3, .int (nI left)), (4, .int (nI wn)), (5, .int (nI q.2.2.2.2)), (6, .int (nI left)), (7, .int (nI (sp_upto T0 p (left - (wn - 1)))))]) (fun _ z => z) ?_
    refine ax_aload_n dX3_extendByParts_39 rfl ?_
    refine ax_iload_n dX3_extendByParts_40 rfl ?_
    refine ax_iload dX3_extendByParts_41 rfl ?_
    refine ax_iconst (v := 1) dX3_extendByParts_43 (by decide) ?_
    refine ax_isub dX3_extendByParts_44 ?_
    refine ax_top (pk_sub (a := left) (b := 1) (by omega)) ?_
    refine ax_callV (b := (ad (0, 6))) (av := [.int (nI p), .int (nI (left - 1))]) (rest := []) (mc' := 0) (ms' := 0) dX3_extendByParts_45 rfl lkX3_55 (cs_get hi (cs_k0 (by decide))) rfl (Nat.le_of_ble_eq_true rfl) (Nat.le_of_ble_eq_true rfl) (Nat.le_refl 0) (Nat.le_refl 0) (cv_upTo hi _ S h hp4 (z := (left - 1)) (by omega)) (fun E9 h9 q9 => by cases q9.1) (fun v9 h9 q9 => ?_)
    obtain ⟨e9, rfl⟩ := q9
    cases e9
    rw [hin.2.2.2.2.2 p (left - 1) hp4 (by omega)]
    show AW G mX3_extendByParts (d + 3) 0 0 Q 48 [(0, .ref (ad (0, 6))), (1, .ref (ad (1, 300 + xs.length))), (2, .int (nI p)), (3, .int (nI left)), (4, .int (nI wn)), (5, .int (nI q.2.2.2.2)), (6, .int (nI left)), (7, .int (nI (sp_upto T0 p (left - (wn - 1)))))] [.int (nI (sp_upto T0 p (left - 1)))] (cs_O ad S h) 0 0
    refine ax_istore dX3_extendByParts_48 (by decide) ?_
    refine ax_sub (lv' := [(0, .ref (ad (0, 6))), (1, .ref (ad (1, 300 + xs.length))), (2, .int (nI p)), (3, .int (nI left)), (4, .int (nI wn)), (5, .int (nI q.2.2.2.2)), (6, .int (nI left)), (7, .int (nI (sp_upto T0 p (left - (wn - 1))))), (8, .int (nI (sp_upto T0 p (left - 1))))]) (fun _ z => z) ?_
    exact lp_part hi hw hc hs7 IH d hd h hx hkn hsz hl0 hx3 hsrt hp4 (by omega) rfl (sp_upto T0 p (left - (wn - 1)) - sp_upto T0 p (left - 1)) _ S (T, false) (by omega) hin h5 hb hQ
  · rw [if_neg hone] at hQ
    have hmn := sp_upto_mono T0 p (show 1 - 1 ≤ left - (wn - 1) by omega)
    refine ax_aload_n dX3_extendByParts_0 rfl ?_
    refine ax_get (v := .ref (ad (0, 1))) dX3_extendByParts_1 fkX3_9 (cs_get hi (cs_k0 (by decide))) rfl ?_
    refine ax_aload_n dX3_extendByParts_4 rfl ?_
    refine ax_get (v := .int (nI c)) dX3_extendByParts_5 fkX3_91 (cs_get hi (cs_k1 (by omega))) (congrArg (fun z => some (Value.int z)) (hb.2.1)) ?_
    refine ax_callV (b := (ad (0, 1))) (av := [.int (nI c)]) (rest := []) (mc' := 0) (ms' := 0) dX3_extendByParts_8 rfl lkX3_118 (cs_get hi (cs_k0 (by decide))) rfl (Nat.le_of_ble_eq_true rfl) (Nat.le_of_ble_eq_true rfl) (Nat.le_refl 0) (Nat.le_refl 0) (cg_conditionOf hi _ S h hin.1 hw hc) (fun E9 h9 q9 => by cases q9.1) (fun v9 h9 q9 => ?_)
    obtain ⟨e9, rfl⟩ := q9
    cases e9
    show AW G mX3_extendByParts (d + 3) 0 0 Q 11 [(0, .ref (ad (0, 6))), (1, .ref (ad (1, 300 + xs.length))), (2, .int (nI p)), (3, .int (nI left)), (4, .int (nI wn))] [.int (nI q.2.2.2.2)] (cs_O ad S h) 0 0
    refine ax_istore dX3_extendByParts_11 (by decide) ?_
    refine ax_sub (lv' := [(0, .ref (ad (0, 6))), (1, .ref (ad (1, 300 + xs.length))), (2, .int (nI p)), (3, .int (nI left)), (4, .int (nI wn)), (5, .int (nI q.2.2.2.2))]) (fun _ z => z) ?_
    refine ax_iload dX3_extendByParts_13 rfl ?_
    refine ax_iconst (v := 1) dX3_extendByParts_15 (by decide) ?_
    refine ax_icmp_ne (tgt := 23) dX3_extendByParts_16 (by decide) (fun _ => ?_) (fun z => absurd z (il_ne wn 1 hone rfl rfl (by omega)))
    refine ax_iconst (v := 1) dX3_extendByParts_23 (by decide) ?_
    refine ax_istore dX3_extendByParts_24 (by decide) ?_
    refine ax_sub (lv' := [(0, .ref (ad (0, 6))), (1, .ref (ad (1, 300 + xs.length))), (2, .int (nI p)), (3, .int (nI left)), (4, .int (nI wn)), (5, .int (nI q.2.2.2.2)), (6, .int 1)]) (fun _ z => z) ?_
    refine ax_aload_n dX3_extendByParts_26 rfl ?_
    refine ax_iload_n dX3_extendByParts_27 rfl ?_
    refine ax_iload_n dX3_extendByParts_28 rfl ?_
    refine ax_iload dX3_extendByParts_29 rfl ?_
    refine ax_iconst (v := 1) dX3_extendByParts_31 (by decide) ?_
    refine ax_isub dX3_extendByParts_32 ?_
    refine ax_top (pk_sub (a := wn) (b := 1) (by omega)) ?_
    refine ax_isub dX3_extendByParts_33 ?_
    refine ax_top (pk_sub (by omega)) ?_
    refine ax_callV (b := (ad (0, 6))) (av := [.int (nI p), .int (nI (left - (wn - 1)))]) (rest := []) (mc' := 0) (ms' := 0) dX3_extendByParts_34 rfl lkX3_55 (cs_get hi (cs_k0 (by decide))) rfl (Nat.le_of_ble_eq_true rfl) (Nat.le_of_ble_eq_true rfl) (Nat.le_refl 0) (Nat.le_refl 0) (cv_upTo hi _ S h hp4 (z := (left - (wn - 1))) (by omega)) (fun E9 h9 q9 => by cases q9.1) (fun v9 h9 q9 => ?_)
    obtain ⟨e9, rfl⟩ := q9
    cases e9
    rw [hin.2.2.2.2.2 p (left - (wn - 1)) hp4 (by omega)]
    show AW G mX3_extendByParts (d + 3) 0 0 Q 37 [(0, .ref (ad (0, 6))), (1, .ref (ad (1, 300 + xs.length))), (2, .int (nI p)), (3, .int (nI left)), (4, .int (nI wn)), (5, .int (nI q.2.2.2.2)), (6, .int 1)] [.int (nI (sp_upto T0 p (left - (wn - 1))))] (cs_O ad S h) 0 0
    refine ax_istore dX3_extendByParts_37 (by decide) ?_
    refine ax_sub (lv' := [(0, .ref (ad (0, 6))), (1, .ref (ad (1, 300 + xs.length))), (2, .int (nI p)), (3, .int (nI left)), (4, .int (nI wn)), (5, .int (nI q.2.2.2.2)), (6, .int 1), (7, .int (nI (sp_upto T0 p (left - (wn - 1)))))]) (fun _ z => z) ?_
    refine ax_aload_n dX3_extendByParts_39 rfl ?_
    refine ax_iload_n dX3_extendByParts_40 rfl ?_
    refine ax_iload dX3_extendByParts_41 rfl ?_
    refine ax_iconst (v := 1) dX3_extendByParts_43 (by decide) ?_
    refine ax_isub dX3_extendByParts_44 ?_
    refine ax_top (rfl) ?_
    refine ax_callV (b := (ad (0, 6))) (av := [.int (nI p), .int (nI (1 - 1))]) (rest := []) (mc' := 0) (ms' := 0) dX3_extendByParts_45 rfl lkX3_55 (cs_get hi (cs_k0 (by decide))) rfl (Nat.le_of_ble_eq_true rfl) (Nat.le_of_ble_eq_true rfl) (Nat.le_refl 0) (Nat.le_refl 0) (cv_upTo hi _ S h hp4 (z := (1 - 1)) (by omega)) (fun E9 h9 q9 => by cases q9.1) (fun v9 h9 q9 => ?_)
    obtain ⟨e9, rfl⟩ := q9
    cases e9
    rw [hin.2.2.2.2.2 p (1 - 1) hp4 (by omega)]
    show AW G mX3_extendByParts (d + 3) 0 0 Q 48 [(0, .ref (ad (0, 6))), (1, .ref (ad (1, 300 + xs.length))), (2, .int (nI p)), (3, .int (nI left)), (4, .int (nI wn)), (5, .int (nI q.2.2.2.2)), (6, .int 1), (7, .int (nI (sp_upto T0 p (left - (wn - 1)))))] [.int (nI (sp_upto T0 p (1 - 1)))] (cs_O ad S h) 0 0
    refine ax_istore dX3_extendByParts_48 (by decide) ?_
    refine ax_sub (lv' := [(0, .ref (ad (0, 6))), (1, .ref (ad (1, 300 + xs.length))), (2, .int (nI p)), (3, .int (nI left)), (4, .int (nI wn)), (5, .int (nI q.2.2.2.2)), (6, .int 1), (7, .int (nI (sp_upto T0 p (left - (wn - 1))))), (8, .int (nI (sp_upto T0 p (1 - 1))))]) (fun _ z => z) ?_
    exact lp_part hi hw hc hs7 IH d hd h hx hkn hsz hl0 hx3 hsrt hp4 (by omega) rfl (sp_upto T0 p (left - (wn - 1)) - sp_upto T0 p (1 - 1)) _ S (T, false) (by omega) hin h5 hb hQ

