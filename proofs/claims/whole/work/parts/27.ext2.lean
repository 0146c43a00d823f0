/-! ===== extend ===== -/
def st_EX (G : ax_G) (ad : cs_K → Nat) (g : sp_G) (T0 : List sp_E) (s c : Nat) (q : sp_C) (n : Nat) : Prop := ∀ (d : Nat), 2 * n + 3 ≤ d → ∀ (S : cs_S) (h : ax_H) (T : List sp_E) (xs : List sp_X) (left k : Nat), xs.length = k → k + n = 4 → st_in g S T T0 s → S.1 5 = 0 → sp_xs T0 g.1 g.2.1 xs → sp_ok (cs_vf S (300 + k)) (cs_vn S (300 + k)) (cs_vp S (300 + k)) q.1 c xs → sp_size xs + left = s →
  AW G mX3_extend d 0 0 (fun r h1 => r = .inl none ∧ ∃ S', h1 = cs_O ad S' h ∧ st_out g T0 s k (sp_pushes (T, false) ((sp_ext T0 g.1 g.2.1 q n xs left).map (fun ys => (q.1, c, ys)))) S S') 0 [(0, .ref (ad (0, 6))), (1, .ref (ad (1, 300 + k))), (2, .int (nI left))] [] (cs_O ad S h) 0 0
theorem st_same_5 {k : Nat} {S S' : cs_S} (h : st_same k S S') {v : Nat} (hv : 300 ≤ v) (hk : v ≤ 300 + k) {t c : Nat} {xs : List sp_X} (hb : sp_ok (cs_vf S v) (cs_vn S v) (cs_vp S v) t c xs) : sp_ok (cs_vf S' v) (cs_vn S' v) (cs_vp S' v) t c xs := by
  obtain ⟨e1, e2, e3⟩ := h.2.2.2.1 v hv (Or.inl hk)
  rw [e1, e2, e3]; exact hb
theorem sp_pushes_one (p : List sp_E × Bool) (e : sp_E) : sp_pushes p [e] = sp_push p e := rfl
theorem sp_full {p : List sp_E × Bool} (h : p.2 = true) (l : List sp_E) : sp_pushes p l = p := by
  obtain ⟨T, b⟩ := p
  cases h
  exact sp_pushes_full T l

set_option maxRecDepth 100000 in
set_option maxHeartbeats 4000000 in
theorem lp_num1 {G : ax_G} {ad : cs_K → Nat} (hi : cs_inj ad) {g : sp_G} {T0 : List sp_E} {s c n : Nat} {q : sp_C} (hw : sp_wg g) (hc : g.2.2.2[c]? = some q) (hs7 : s ≤ 7) (IH : st_EX G ad g T0 s c q n) (d : Nat) (hd : 2 * n + 3 ≤ d + 2) (h : ax_H) {xs : List sp_X} {left : Nat} (hx : sp_xs T0 g.1 g.2.1 xs) (hkn : xs.length + n = 3) (hsz : sp_size xs + left = s) (hl0 : T0.length ≤ 300) (hx3 : xs.length < 3) {Q : ax_P} (m : Nat) (S : cs_S) (T : List sp_E) (hlo : g.1 ≤ m) (hm : m ≤ g.2.1) (hin : st_in g S T T0 s) (h5 : S.1 5 = 0) (hb : st_beg S q.1 c xs)
    (k : ∀ {S2 : cs_S} (S3 : cs_S), st_cp (300 + (xs.length + 1)) S S2 → st_out g T0 s (xs.length + 1) (sp_pushes (T, false) ((sp_ext T0 g.1 g.2.1 q n (xs ++ [.inl m]) left).map (fun ys => (q.1, c, ys)))) S2 S3 → AW G mX3_extendByNumbers (d + 3) 0 0 Q 8 [(0, .ref (ad (0, 6))), (1, .ref (ad (1, 300 + xs.length))), (2, .int (nI left)), (3, .int (nI (m + 1)))] [] (cs_O ad S3 h) 0 0) :
    AW G mX3_extendByNumbers (d + 3) 0 0 Q 8 [(0, .ref (ad (0, 6))), (1, .ref (ad (1, 300 + xs.length))), (2, .int (nI left)), (3, .int (nI m))] [] (cs_O ad S h) 0 0 := by
  have hh5 := hw.2.1
  have hgx : sp_g xs := sp_xs_g hx hh5 hin.2.2.2.1 hin.2.2.2.2.1
  refine ax_iload_n dX3_extendByNumbers_8 rfl ?_
  refine ax_aload_n dX3_extendByNumbers_9 rfl ?_
  refine ax_get (v := .ref (ad (0, 1))) dX3_extendByNumbers_10 fkX3_9 (cs_get hi (cs_k0 (by decide))) rfl ?_
  refine ax_get (v := .int (nI g.2.1)) dX3_extendByNumbers_13 fkX3_128 (cs_get hi (cs_k0 (by decide))) (congrArg (fun z => some (Value.int z)) (hin.1.2.1)) ?_
  refine ax_icmp_gt (tgt := 57) dX3_extendByNumbers_16 (by decide) (fun z => absurd z (il_nlt g.2.1 m (by omega))) (fun _ => ?_)
  refine ax_aload_n dX3_extendByNumbers_19 rfl ?_
  refine ax_get (v := .int 0) dX3_extendByNumbers_20 fkX3_39 (cs_get hi (cs_k0 (by decide))) (congrArg (fun z => some (Value.int z)) (h5)) ?_
  refine ax_if_ne (tgt := 57) dX3_extendByNumbers_23 (by decide) (fun z => absurd rfl z) (fun _ => ?_)
  refine ax_aload_n dX3_extendByNumbers_26 rfl ?_
  refine ax_aload_n dX3_extendByNumbers_27 rfl ?_
  refine ax_callV (b := (ad (0, 6))) (av := [.ref (ad (1, 300 + xs.length))]) (rest := []) (mc' := 0) (ms' := 0) dX3_extendByNumbers_28 rfl lkX3_131 (cs_get hi (cs_k0 (by decide))) rfl (Nat.le_of_ble_eq_true rfl) (Nat.le_of_ble_eq_true rfl) (Nat.le_refl 0) (Nat.le_refl 0) (ch_longer hi _ S h hin.2.1 hl0 hx (by omega) hb) (fun E9 h9 q9 => by cases q9.1) (fun v9 h9 q9 => ?_)
  obtain ⟨e9, S1, rfl, cp1, ok1⟩ := q9
  cases e9
  show AW G mX3_extendByNumbers (d + 3) 0 0 Q 31 [(0, .ref (ad (0, 6))), (1, .ref (ad (1, 300 + xs.length))), (2, .int (nI left)), (3, .int (nI m))] [.ref (ad (1, 300 + (xs.length + 1)))] (cs_O ad S1 h) 0 0
  refine ax_astore dX3_extendByNumbers_31 (by decide) ?_
  refine ax_sub (lv' := [(0, .ref (ad (0, 6))), (1, .ref (ad (1, 300 + xs.length))), (2, .int (nI left)), (3, .int (nI m)), (4, .ref (ad (1, 300 + (xs.length + 1))))]) (fun _ z => z) ?_
  refine ax_aload dX3_extendByNumbers_33 rfl ?_
  refine ax_ifnull dX3_extendByNumbers_35 ?_
  refine ax_aload dX3_extendByNumbers_38 rfl ?_
  refine ax_iload_n dX3_extendByNumbers_40 rfl ?_
  refine ax_callV (b := (ad (1, 300 + (xs.length + 1)))) (av := [.int (nI m)]) (rest := []) (mc' := 0) (ms' := 0) dX3_extendByNumbers_41 rfl lkX3_135 (cs_get hi (cs_k1 (by omega))) rfl (Nat.le_of_ble_eq_true rfl) (Nat.le_of_ble_eq_true rfl) (Nat.le_refl 0) (Nat.le_refl 0) (ch_num hi _ S1 h (by omega) hgx (by omega) ok1 (by omega)) (fun E9 h9 q9 => by cases q9.1) (fun v9 h9 q9 => ?_)
  obtain ⟨e9, S2, rfl, cp2, ok2⟩ := q9
  cases e9
  show AW G mX3_extendByNumbers (d + 3) 0 0 Q 44 [(0, .ref (ad (0, 6))), (1, .ref (ad (1, 300 + xs.length))), (2, .int (nI left)), (3, .int (nI m)), (4, .ref (ad (1, 300 + (xs.length + 1))))] [] (cs_O ad S2 h) 0 0
  refine ax_aload_n dX3_extendByNumbers_44 rfl ?_
  refine ax_aload dX3_extendByNumbers_45 rfl ?_
  refine ax_iload_n dX3_extendByNumbers_47 rfl ?_
  refine ax_callV (b := (ad (0, 6))) (av := [.ref (ad (1, 300 + (xs.length + 1))), .int (nI left)]) (rest := []) (mc' := 0) (ms' := 0) dX3_extendByNumbers_48 rfl lkX3_87 (cs_get hi (cs_k0 (by decide))) rfl (Nat.le_of_ble_eq_true rfl) (Nat.le_of_ble_eq_true rfl) (Nat.le_refl 0) (Nat.le_refl 0) (IH _ hd S2 h T (xs ++ [.inl m]) left (xs.length + 1) (by simp) (by omega) (st_cp_in (st_cp_tr cp1 cp2) (by omega) hin) (by rw [(st_cp_tr cp1 cp2).1]; exact h5) (sp_xs_num hx (by omega) hlo (by omega)) ok2 (by rw [sp_size_app]; simpa [sp_size] using hsz)) (fun E9 h9 q9 => by cases q9.1) (fun v9 h9 q9 => ?_)
  obtain ⟨e9, S3, rfl, o9⟩ := q9
  cases e9
  show AW G mX3_extendByNumbers (d + 3) 0 0 Q 51 [(0, .ref (ad (0, 6))), (1, .ref (ad (1, 300 + xs.length))), (2, .int (nI left)), (3, .int (nI m)), (4, .ref (ad (1, 300 + (xs.length + 1))))] [] (cs_O ad S3 h) 0 0
  refine ax_iinc (v := (nI m) + 1) dX3_extendByNumbers_51 rfl rfl (by decide) ?_
  refine ax_sub (lv' := [(0, .ref (ad (0, 6))), (1, .ref (ad (1, 300 + xs.length))), (2, .int (nI left)), (3, .int ((nI m) + 1)), (4, .ref (ad (1, 300 + (xs.length + 1))))]) (fun _ z => z) ?_
  refine ax_goto (tgt := 8) dX3_extendByNumbers_54 (by decide) ?_
  rw [nI_1]
  exact ax_sub (lv' := [(0, .ref (ad (0, 6))), (1, .ref (ad (1, 300 + xs.length))), (2, .int (nI left)), (3, .int (nI (m + 1)))]) (fun _ hz => List.take_subset 4 _ hz) (k S3 (st_cp_tr cp1 cp2) o9)
set_option maxRecDepth 100000 in
set_option maxHeartbeats 4000000 in
theorem lp_num0 {G : ax_G} {ad : cs_K → Nat} (hi : cs_inj ad) {g : sp_G} {T T0 : List sp_E} {s : Nat} (hw : sp_wg g) (d : Nat) (h : ax_H) {xs : List sp_X} {left : Nat} {Q : ax_P} (m : Nat) (S : cs_S) (hin : st_in g S T T0 s) (hm : m ≤ 100) (h59 : m = g.2.1 + 1 ∨ (m ≤ g.2.1 ∧ S.1 5 = 1)) (hq : Q (.inl none) (cs_O ad S h)) :
    AW G mX3_extendByNumbers (d + 3) 0 0 Q 8 [(0, .ref (ad (0, 6))), (1, .ref (ad (1, 300 + xs.length))), (2, .int (nI left)), (3, .int (nI m))] [] (cs_O ad S h) 0 0 := by
  have hh5 := hw.2.1
  rcases h59 with h59 | ⟨h59, h5⟩
  · skip
    refine ax_iload_n dX3_extendByNumbers_8 rfl ?_
    refine ax_aload_n dX3_extendByNumbers_9 rfl ?_
    refine ax_get (v := .ref (ad (0, 1))) dX3_extendByNumbers_10 fkX3_9 (cs_get hi (cs_k0 (by decide))) rfl ?_
    refine ax_get (v := .int (nI g.2.1)) dX3_extendByNumbers_13 fkX3_128 (cs_get hi (cs_k0 (by decide))) (congrArg (fun z => some (Value.int z)) (hin.1.2.1)) ?_
    refine ax_icmp_gt (tgt := 57) dX3_extendByNumbers_16 (by decide) (fun _ => ?_) (fun z => absurd (il_lt g.2.1 m (by omega)) z)
    exact ax_vret (st := []) dX3_extendByNumbers_57 rfl hq
  · skip
    refine ax_iload_n dX3_extendByNumbers_8 rfl ?_
    refine ax_aload_n dX3_extendByNumbers_9 rfl ?_
    refine ax_get (v := .ref (ad (0, 1))) dX3_extendByNumbers_10 fkX3_9 (cs_get hi (cs_k0 (by decide))) rfl ?_
    refine ax_get (v := .int (nI g.2.1)) dX3_extendByNumbers_13 fkX3_128 (cs_get hi (cs_k0 (by decide))) (congrArg (fun z => some (Value.int z)) (hin.1.2.1)) ?_
    refine ax_icmp_gt (tgt := 57) dX3_extendByNumbers_16 (by decide) (fun z => absurd z (il_nlt g.2.1 m (by omega))) (fun _ => ?_)
    refine ax_aload_n dX3_extendByNumbers_19 rfl ?_
    refine ax_get (v := .int 1) dX3_extendByNumbers_20 fkX3_39 (cs_get hi (cs_k0 (by decide))) (congrArg (fun z => some (Value.int z)) (h5)) ?_
    refine ax_if_ne (tgt := 57) dX3_extendByNumbers_23 (by decide) (fun _ => ?_) (fun z => absurd z (by decide))
    exact ax_vret (st := []) dX3_extendByNumbers_57 rfl hq
theorem lp_num {G : ax_G} {ad : cs_K → Nat} (hi : cs_inj ad) {g : sp_G} {T0 : List sp_E} {s c n : Nat} {q : sp_C} (hw : sp_wg g) (hc : g.2.2.2[c]? = some q) (hs7 : s ≤ 7) (IH : st_EX G ad g T0 s c q n) (d : Nat) (hd : 2 * n + 3 ≤ d + 2) (h : ax_H) {xs : List sp_X} {left : Nat} (hx : sp_xs T0 g.1 g.2.1 xs) (hkn : xs.length + n = 3) (hsz : sp_size xs + left = s) (hl0 : T0.length ≤ 300) (hx3 : xs.length < 3) {Q : ax_P} : ∀ (j m : Nat) (S : cs_S) (p : List sp_E × Bool), m + j = g.2.1 + 1 → g.1 ≤ m → st_in g S p.1 T0 s → S.1 5 = (if p.2 then 1 else 0) → st_beg S q.1 c xs →
    (∀ S', st_out g T0 s xs.length (sp_pushes p (((List.range' m j).flatMap (fun m => sp_ext T0 g.1 g.2.1 q n (xs ++ [.inl m]) left)).map (fun ys => (q.1, c, ys)))) S S' → Q (.inl none) (cs_O ad S' h)) →
    AW G mX3_extendByNumbers (d + 3) 0 0 Q 8 [(0, .ref (ad (0, 6))), (1, .ref (ad (1, 300 + xs.length))), (2, .int (nI left)), (3, .int (nI m))] [] (cs_O ad S h) 0 0 := by
  intro j
  induction j with
  | zero =>
    intro m S p hm hlo hin h5 hb hQ
    have hh5 := hw.2.1
    refine lp_num0 hi hw d h m S hin (by omega) (Or.inl (by omega)) (hQ S ⟨hin, st_same_rfl _ _, h5⟩)
  | succ j ih =>
    intro m S p hm hlo hin h5 hb hQ
    have hh5 := hw.2.1
    cases hp : p.2 with
    | true =>
      rw [hp] at h5
      refine lp_num0 hi hw d h m S hin (by omega) (Or.inr ⟨by omega, h5⟩) (hQ S ?_)
      rw [sp_full hp]
      exact ⟨hin, st_same_rfl _ _, by rw [hp]; exact h5⟩
    | false =>
      rw [hp] at h5
      obtain ⟨T, b⟩ := p
      cases hp
      refine lp_num1 hi hw hc hs7 IH d hd h hx hkn hsz hl0 hx3 m S T hlo (by omega) hin h5 hb (fun {S2} S3 cp o9 => ?_)
      have sm : st_same xs.length S S3 := st_same_tr (st_cp_same cp rfl (by omega)) (st_same_le (by omega) o9.2.1)
      refine ih (m + 1) S3 _ (by omega) (by omega) o9.1 o9.2.2 (st_same_beg sm (Nat.le_refl _) hb) (fun S' o' => hQ S' ?_)
      rw [List.range'_succ, List.flatMap_cons, List.map_append, sp_pushes_app]
      exact ⟨o'.1, st_same_tr sm o'.2.1, o'.2.2⟩

set_option maxRecDepth 100000 in
set_option maxHeartbeats 4000000 in
theorem ch_extNum {G : ax_G} {ad : cs_K → Nat} (hi : cs_inj ad) {g : sp_G} {T0 : List sp_E} {s c n : Nat} {q : sp_C} (hw : sp_wg g) (hc : g.2.2.2[c]? = some q) (hs7 : s ≤ 7) (IH : st_EX G ad g T0 s c q n) (d : Nat) (hd : 2 * n + 3 ≤ d + 2) (h : ax_H) {xs : List sp_X} {left : Nat} (hx : sp_xs T0 g.1 g.2.1 xs) (hkn : xs.length + n = 3) (hsz : sp_size xs + left = s) (hl0 : T0.length ≤ 300) (hx3 : xs.length < 3) {Q : ax_P} (S : cs_S) (T : List sp_E) (hin : st_in g S T T0 s) (h5 : S.1 5 = 0) (hb : st_beg S q.1 c xs) (hQ : ∀ S', st_out g T0 s xs.length (sp_pushes (T, false) (((List.range' g.1 (g.2.1 + 1 - g.1)).flatMap (fun m => sp_ext T0 g.1 g.2.1 q n (xs ++ [.inl m]) left)).map (fun ys => (q.1, c, ys)))) S S' → Q (.inl none) (cs_O ad S' h)) :
    AW G mX3_extendByNumbers (d + 3) 0 0 Q 0 [(0, .ref (ad (0, 6))), (1, .ref (ad (1, 300 + xs.length))), (2, .int (nI left))] [] (cs_O ad S h) 0 0 := by
  have hh5 := hw.2.1
  have hlo := hw.1
  refine ax_aload_n dX3_extendByNumbers_0 rfl ?_
  refine ax_get (v := .ref (ad (0, 1))) dX3_extendByNumbers_1 fkX3_9 (cs_get hi (cs_k0 (by decide))) rfl ?_
  refine ax_get (v := .int (nI g.1)) dX3_extendByNumbers_4 fkX3_125 (cs_get hi (cs_k0 (by decide))) (congrArg (fun z => some (Value.int z)) (hin.1.1)) ?_
  refine ax_istore_n dX3_extendByNumbers_7 (by decide) ?_
  refine ax_sub (lv' := [(0, .ref (ad (0, 6))), (1, .ref (ad (1, 300 + xs.length))), (2, .int (nI left)), (3, .int (nI g.1))]) (fun _ z => z) ?_
  exact lp_num hi hw hc hs7 IH d hd h hx hkn hsz hl0 hx3 _ _ S (T, false) (by omega) (Nat.le_refl _) hin h5 hb hQ
