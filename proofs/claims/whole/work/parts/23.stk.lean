/-! ===== places in a table; the stock's small methods over the cells ===== -/
theorem il_lt {x y : Int32} (a b : Nat) (h : a < b) (hx : x = nI a := by rfl) (hy : y = nI b := by rfl) (hb : b < 2 ^ 31 := by omega) : x < y := by rw [hx, hy]; exact nI_lt h hb
theorem il_nlt {x y : Int32} (a b : Nat) (h : b ≤ a) (hx : x = nI a := by rfl) (hy : y = nI b := by rfl) (ha : a < 2 ^ 31 := by omega) : ¬ x < y := by rw [hx, hy]; exact nI_nlt h ha
theorem il_le {x y : Int32} (a b : Nat) (h : a ≤ b) (hx : x = nI a := by rfl) (hy : y = nI b := by rfl) (hb : b < 2 ^ 31 := by omega) : x ≤ y := by rw [hx, hy]; exact nI_le h hb
theorem il_nle {x y : Int32} (a b : Nat) (h : b < a) (hx : x = nI a := by rfl) (hy : y = nI b := by rfl) (ha : a < 2 ^ 31 := by omega) : ¬ x ≤ y := by rw [hx, hy]; exact nI_ge h ha
theorem il_ne {x y : Int32} (a b : Nat) (h : a ≠ b) (hx : x = nI a := by rfl) (hy : y = nI b := by rfl) (ha : a < 2 ^ 31 := by omega) (hb : b < 2 ^ 31 := by omega) : ¬ x = y := by rw [hx, hy, nI_eq ha hb]; exact h
theorem ax_ialdv {G : ax_G} {M : ax_M} {d mc ms : Nat} {Q : ax_P} {pc : Nat} {lv : ax_L} {st : List Value} {h : ax_H} {cn sn : Nat} {a n : Nat} {f : Nat → Int32} {i x : Int32} (hd : decode M.2.1 pc = .ok (.iaload, 1)) (ha : h a = some (.inl (0, n, .inl f))) (hi : vp_in i n) (hv : f i.toNatClampNeg = x) (k : AW G M d mc ms Q (pc + 1) lv (.int x :: st) h cn sn) : AW G M d mc ms Q pc lv (.int i :: .ref a :: st) h cn sn := ax_iald hd ha hi (by rw [hv]; exact k)
theorem sp_rind {α : Type} {P : List α → Prop} (h0 : P []) (h1 : ∀ l a, P l → P (l ++ [a])) (l : List α) : P l := by
  rw [← List.reverse_reverse l]
  induction l.reverse with
  | nil => exact h0
  | cons a r ih => rw [List.reverse_cons]; exact h1 _ _ ih
theorem sp_of_snoc (T : List sp_E) (e : sp_E) (t : Nat) : sp_of (T ++ [e]) t = sp_of T t ++ (if e.1 = t then [T.length] else []) := by
  unfold sp_of
  rw [List.length_append, List.length_singleton, List.range_succ, List.filter_append]
  congr 1
  · apply List.filter_congr
    intro v hv
    rw [List.getElem?_append_left (List.mem_range.mp hv)]
  · by_cases h : e.1 = t <;> simp [h]
theorem sp_cnt_snoc (T : List sp_E) (e : sp_E) (t : Nat) : sp_cnt (T ++ [e]) t = sp_cnt T t + (if e.1 = t then 1 else 0) := by
  unfold sp_cnt
  rw [List.countP_append]
  by_cases h : e.1 = t <;> simp [h]
theorem sp_of_len (T : List sp_E) (t : Nat) : (sp_of T t).length = sp_cnt T t := by
  induction T using sp_rind with
  | h0 => rfl
  | h1 l a ih =>
    rw [sp_of_snoc, sp_cnt_snoc, List.length_append, ih]
    by_cases h : a.1 = t <;> simp [h]
theorem sp_of_at {T : List sp_E} {t r v : Nat} (h : (sp_of T t)[r]? = some v) : ∃ e, T[v]? = some e ∧ e.1 = t ∧ sp_cnt (T.take v) t = r := by
  induction T using sp_rind with
  | h0 => simp [sp_of] at h
  | h1 l a ih =>
    rw [sp_of_snoc] at h
    by_cases hr : r < (sp_of l t).length
    · rw [List.getElem?_append_left hr] at h
      obtain ⟨e, e1, e2, e3⟩ := ih h
      have hv : v < l.length := (List.getElem?_eq_some_iff.mp e1).1
      refine ⟨e, ?_, e2, ?_⟩
      · rw [List.getElem?_append_left hv]; exact e1
      · rw [List.take_append_of_le_length (Nat.le_of_lt hv)]; exact e3
    · rw [List.getElem?_append_right (by omega)] at h
      by_cases ha : a.1 = t
      · rw [if_pos ha] at h
        have h0 : r - (sp_of l t).length = 0 := by
          have := (List.getElem?_eq_some_iff.mp h).1
          simp at this; omega
        rw [h0] at h
        simp at h
        subst h
        refine ⟨a, by simp, ha, ?_⟩
        rw [List.take_left' rfl, ← sp_of_len]; omega
      · rw [if_neg ha] at h; simp at h
theorem sp_of_in {T : List sp_E} {v : Nat} {e : sp_E} (h : T[v]? = some e) : (sp_of T e.1)[sp_cnt (T.take v) e.1]? = some v := by
  induction T using sp_rind with
  | h0 => simp at h
  | h1 l a ih =>
    rw [sp_of_snoc]
    by_cases hv : v < l.length
    · rw [List.getElem?_append_left hv] at h
      have h1 := ih h
      rw [List.take_append_of_le_length (Nat.le_of_lt hv)]
      rw [List.getElem?_append_left (List.getElem?_eq_some_iff.mp h1).1]
      exact h1
    · have h1 := (List.getElem?_eq_some_iff.mp h).1
      simp at h1
      have : v = l.length := by omega
      subst this
      simp at h
      subst h
      rw [List.take_left' rfl, ← sp_of_len, List.getElem?_append_right (Nat.le_refl _)]
      simp
theorem sp_upto_le (T : List sp_E) (t z : Nat) : sp_upto T t z ≤ sp_cnt T t := by
  unfold sp_upto sp_cnt
  apply List.countP_mono_left
  intro x _ hx
  simp at hx
  simp [hx.1]
theorem sp_cnt_le (T : List sp_E) (t : Nat) : sp_cnt T t ≤ T.length := List.countP_le_length
theorem sp_cnt_pre {T0 T : List sp_E} (h : T0 <+: T) (t : Nat) : sp_cnt T0 t ≤ sp_cnt T t := by
  obtain ⟨r, rfl⟩ := h
  unfold sp_cnt
  rw [List.countP_append]; omega
theorem sp_pre_get {T0 T : List sp_E} (h : T0 <+: T) {v : Nat} {e : sp_E} (he : T0[v]? = some e) : T[v]? = some e := by
  obtain ⟨r, rfl⟩ := h
  rw [List.getElem?_append_left (List.getElem?_eq_some_iff.mp he).1]; exact he
theorem sp_pre_take {T0 T : List sp_E} (h : T0 <+: T) {v : Nat} (hv : v ≤ T0.length) : T.take v = T0.take v := by
  obtain ⟨r, rfl⟩ := h
  exact List.take_append_of_le_length hv
section STK
variable {G : ax_G} {ad : cs_K → Nat}
theorem cg_k2 {i j : Nat} (hi : i < 19) (hj : j < 19) : ∀ k ∈ ([(0, i), (0, j)] : List cs_K), k ∈ cs_keys := by
  intro k hk
  simp only [List.mem_cons, List.not_mem_nil, or_false] at hk
  rcases hk with rfl | rfl
  · exact cs_k0 hi
  · exact cs_k0 hj
theorem cv_upTo (hi : cs_inj ad) (d : Nat) (S : cs_S) (h : ax_H) {t z : Nat} (ht : t < 4) (hz : z ≤ 8) : AW G mX3_upTo d 0 0 (fun r h1 => r = .inl (some (.int (S.2.1 10 (9 * t + z)))) ∧ h1 = cs_O ad S h) 0 [(0, .ref (ad (0, 6))), (1, .int (nI t)), (2, .int (nI z))] [] (cs_O ad S h) 0 0 := by
  refine ax_eqh (cs_in hi (ks := [(0, 6), (0, 10)]) (cg_k2 (by decide) (by decide))).symm ?_
  refine ax_mono (ctX3_upTo d (cs_O ad S h) (ad (0, 6)) (ad (0, 1)) (ad (0, 7)) (ad (0, 8)) (ad (0, 9)) (ad (0, 10)) (ad (0, 11)) (S.1 4) (S.1 5) (S.1 6) (S.1 7) (nI t) (nI z) (S.2.1 10) (cs_nd hi (cg_k2 (by decide) (by decide)) (by simp))) ?_
  rintro r h1 ⟨e, rfl⟩
  refine ⟨e.trans ?_, cs_in hi (cg_k2 (by decide) (by decide))⟩
  have e9 : (9 : Int32) = nI 9 := by decide
  rw [if_neg (nI_pos (by omega)), if_neg (il_nle 4 t ht), if_neg (nI_pos (by omega)), if_pos (il_le z 8 hz), e9, pk_mul, nI_add, nI_clamp (by omega), Nat.mul_comm t 9]
theorem cg_k3 {i j l : Nat} (hi : i < 19) (hj : j < 19) (hl : l < 19) : ∀ k ∈ ([(0, i), (0, j), (0, l)] : List cs_K), k ∈ cs_keys := by
  intro k hk
  simp only [List.mem_cons, List.not_mem_nil, or_false] at hk
  rcases hk with rfl | rfl | rfl
  · exact cs_k0 hi
  · exact cs_k0 hj
  · exact cs_k0 hl
theorem cv_valueAt0 (hi : cs_inj ad) (d : Nat) (S : cs_S) (h : ax_H) (t z : Int32) : AW G mX3_valueAt d 0 0 (fun r h1 => r = .inl (some (va_rf (if t < 0 then none else (if (4 : Int32) ≤ t then none else (if z < 0 then none else (if (300 : Int32) ≤ z then none else (if z < (S.2.1 9 t.toNatClampNeg) then (cs_rf ad (S.2.2.1 8 ((t * 300) + z).toNatClampNeg)) else none))))))) ∧ h1 = cs_O ad S h) 0 [(0, .ref (ad (0, 6))), (1, .int t), (2, .int z)] [] (cs_O ad S h) 0 0 := by
  refine ax_eqh (cs_in hi (ks := [(0, 6), (0, 8), (0, 9)]) (cg_k3 (by decide) (by decide) (by decide))).symm ?_
  refine ax_mono (ctX3_valueAt d (cs_O ad S h) (ad (0, 6)) (ad (0, 1)) (ad (0, 7)) (ad (0, 8)) (ad (0, 9)) (ad (0, 10)) (ad (0, 11)) (S.1 4) (S.1 5) (S.1 6) (S.1 7) t z (fun j => cs_rf ad (S.2.2.1 8 j)) (S.2.1 9) (cs_nd hi (cg_k3 (by decide) (by decide) (by decide)) (by simp))) ?_
  rintro r h1 ⟨e, rfl⟩
  exact ⟨e, cs_in hi (cg_k3 (by decide) (by decide) (by decide))⟩
theorem cv_valueAt (hi : cs_inj ad) (d : Nat) (S : cs_S) (h : ax_H) {t z k v : Nat} (ht : t < 4) (hz : z < 300) (hk : S.2.1 9 t = nI k) (hzk : z < k) (hk3 : k ≤ 300) (hv : S.2.2.1 8 (t * 300 + z) = some v) : AW G mX3_valueAt d 0 0 (fun r h1 => r = .inl (some (.ref (ad (1, v)))) ∧ h1 = cs_O ad S h) 0 [(0, .ref (ad (0, 6))), (1, .int (nI t)), (2, .int (nI z))] [] (cs_O ad S h) 0 0 := by
  refine ax_mono (cv_valueAt0 hi d S h (nI t) (nI z)) ?_
  rintro r h1 ⟨e, e2⟩
  refine ⟨e.trans ?_, e2⟩
  have e9 : (300 : Int32) = nI 300 := by decide
  rw [if_neg (nI_pos (by omega)), if_neg (il_nle 4 t ht), if_neg (nI_pos (by omega)), if_neg (il_nle 300 z hz), nI_clamp (by omega), hk, if_pos (il_lt z k hzk), e9, pk_mul, nI_add, nI_clamp (by omega), hv]
  rfl
theorem sp_nar {V nu : Nat → Int32} {pa : Nat → Option Nat} {t c : Nat} {xs : List sp_X} (hok : sp_ok V nu pa t c xs) : narrow .boolean (.int (V 15)) = .int (V 15) ∧ fits .boolean (.int (V 15)) = true := by
  have h15 : V 15 = (if sp_asc (sp_ints xs) then 1 else 0) := hok.2.2.2.2.2.2.2.2.2.2.1
  rw [h15]
  cases sp_asc (sp_ints xs) <;> exact ⟨rfl, rfl⟩
theorem ch_fits (hi : cs_inj ad) (d : Nat) (S : cs_S) (h : ax_H) {v t c k : Nat} {xs : List sp_X} (hv : v < 312) (hok : sp_ok (cs_vf S v) (cs_vn S v) (cs_vp S v) t c xs) (hg : sp_g xs) (hk : k ≤ 5) : AW G mX5_fits (d + 1) 0 0 (fun r h1 => r = .inl (some (.int (if sp_cond k xs then 1 else 0))) ∧ h1 = cs_O ad S h) 0 [(0, .ref (ad (1, v))), (1, .int (nI k))] [] (cs_O ad S h) 0 0 := by
  refine ax_mono (cv_fits hi d S h hv (nI k) (sp_nar hok).1) ?_
  rintro r h1 ⟨e, e2⟩
  refine ⟨e.trans ?_, e2⟩
  rw [sp_fits hok hg hk]
theorem sp_cl {V nu W nu2 : Nat → Int32} {pa pa2 : Nat → Option Nat} {t c t2 c2 k w : Nat} {xs ys : List sp_X} (hok : sp_ok V nu pa t c xs) (hg : sp_g xs) (hok2 : sp_ok W nu2 pa2 t2 c2 ys) (hg2 : sp_gx (.inr (sp_att w (t2, c2, ys)))) (hk : k ≤ 5) :
    (if nI k = 1 then (if V 10 ≤ 0 then 0 else (if W 10 ≤ 0 then 0 else (if V 13 < W 14 then 0 else 1))) else (if nI k = 2 then 0 else (if nI k = 3 then (if V 8 ≤ 0 then 0 else (if W 7 = V 8 then 0 else 1)) else (if nI k = 4 then (if V 8 ≤ 0 then 0 else (if ((if 0 ≤ (W 7 - V 8) then (W 7 - V 8) else 0 - (W 7 - V 8)) : Int32) ≤ 1 then 0 else 1)) else 0)))) = (if sp_clash k xs (sp_att w (t2, c2, ys)) then 1 else 0 : Int32) := by
  obtain ⟨h0, h2, h3, h6, h7, h8, h9, h10, h11, h12, h15, hnu, hpa⟩ := hok
  obtain ⟨g0, g2, g3, g6, g7, g8, g9, g10, g11, g12, g15, gnu, gpa⟩ := hok2
  obtain ⟨b1, b2, b3, b4⟩ := sp_len_ints hg.2
  obtain ⟨z1, z2, z3, z4, z5, z6⟩ := hg2
  have z3 : 1 ≤ 1 + sp_max (sp_hts ys) := z3
  have z4 : 1 + sp_max (sp_hts ys) ≤ 8 := z4
  have z5 : (sp_ints ys).length ≤ 24 := z5
  have z6 : ∀ n ∈ sp_ints ys, n ≤ 5 := z6
  have hlen : (sp_ints xs).length ≤ 100 := by have := hg.1; omega
  have hmx : sp_max (sp_hts xs) ≤ 8 := sp_max_le (fun n hn => (b4 n hn).2)
  have hmm := sp_min_le_max (sp_hts xs)
  have hmin : sp_hts xs = [] ∨ 1 ≤ sp_min (sp_hts xs) := by
    by_cases hq : sp_hts xs = []
    · exact Or.inl hq
    · exact Or.inr (b4 _ (sp_min_mem hq)).1
  have k8 : ¬ sp_hts xs = [] → ¬ V 8 ≤ 0 := fun hq => by
    rw [h8]; exact nI_nle (by rcases hmin with q | q; exact absurd q hq; omega) (by omega)
  have k80 : sp_hts xs = [] → V 8 ≤ 0 := fun hq => by rw [h8, hq]; decide
  rcases (show k = 0 ∨ k = 1 ∨ k = 2 ∨ k = 3 ∨ k = 4 ∨ k = 5 by omega) with rfl | rfl | rfl | rfl | rfl | rfl
  · rfl
  · rw [if_pos (by decide)]
    unfold sp_clash
    show _ = (if (!(sp_ints xs).isEmpty && (!(sp_ints ys).isEmpty && decide ((sp_ints ys).headD 0 ≤ (sp_ints xs).getLastD 0))) = true then 1 else 0 : Int32)
    by_cases hx : sp_ints xs = []
    · rw [h10, hx, if_pos (by decide)]; rfl
    · have hx0 : 0 < (sp_ints xs).length := List.length_pos_iff.mpr hx
      rw [h10, if_neg (nI_nle hx0 (by omega))]
      by_cases hy : sp_ints ys = []
      · rw [g10, hy, if_pos (by decide)]; simp
      · have hy0 : 0 < (sp_ints ys).length := List.length_pos_iff.mpr hy
        rw [g10, if_neg (nI_nle hy0 (by omega)), (h12 hx).2.1, (g12 hy).2.2]
        have m1 := b2 _ (sp_last_mem hx)
        have m2 := z6 _ (sp_head_mem hy)
        have e1 : (sp_ints xs).isEmpty = false := by cases hc : sp_ints xs with | nil => exact absurd hc hx | cons a r => rfl
        have e2 : (sp_ints ys).isEmpty = false := by cases hc : sp_ints ys with | nil => exact absurd hc hy | cons a r => rfl
        rw [e1, e2]
        by_cases hq : (sp_ints ys).headD 0 ≤ (sp_ints xs).getLastD 0
        · rw [if_neg (il_nlt _ _ hq rfl rfl (by omega))]; simp only [hq, decide_true, Bool.not_false, Bool.and_self, if_true]
        · rw [if_pos (il_lt _ _ (Nat.lt_of_not_le hq) rfl rfl (by omega))]; simp only [hq, decide_false, Bool.not_false, Bool.and_false]; rfl
  · rfl
  · rw [if_neg (by decide), if_neg (by decide), if_pos (by decide)]
    unfold sp_clash
    show _ = (if (!(sp_hts xs).isEmpty && decide (1 + sp_max (sp_hts ys) ≠ sp_min (sp_hts xs))) = true then 1 else 0 : Int32)
    by_cases hx : sp_hts xs = []
    · rw [if_pos (k80 hx), hx]; rfl
    · rw [if_neg (k8 hx), g7, h8]
      have e1 : (sp_hts xs).isEmpty = false := by cases hc : sp_hts xs with | nil => exact absurd hc hx | cons a r => rfl
      rw [e1]
      by_cases hq : 1 + sp_max (sp_hts ys) = sp_min (sp_hts xs)
      · rw [if_pos (by rw [hq])]; simp [hq]
      · rw [if_neg (il_ne _ _ hq rfl rfl (by omega) (by omega))]; simp [hq]
  · rw [if_neg (by decide), if_neg (by decide), if_neg (by decide), if_pos (by decide)]
    unfold sp_clash
    show _ = (if (!(sp_hts xs).isEmpty && (decide (sp_min (sp_hts xs) + 1 < 1 + sp_max (sp_hts ys)) || decide (1 + sp_max (sp_hts ys) + 1 < sp_min (sp_hts xs)))) = true then 1 else 0 : Int32)
    by_cases hx : sp_hts xs = []
    · rw [if_pos (k80 hx), hx]; rfl
    · rw [if_neg (k8 hx), g7, h8]
      have e1 : (sp_hts xs).isEmpty = false := by cases hc : sp_hts xs with | nil => exact absurd hc hx | cons a r => rfl
      rw [e1]
      generalize hA : 1 + sp_max (sp_hts ys) = A at *
      generalize hB : sp_min (sp_hts xs) = B at *
      have hB8 : B ≤ 8 := by omega
      have key : ∀ A, A ≤ 8 → ∀ B, B ≤ 8 → (if ((if 0 ≤ (nI A - nI B) then (nI A - nI B) else 0 - (nI A - nI B)) : Int32) ≤ 1 then 0 else 1) = (if (!false && (decide (B + 1 < A) || decide (A + 1 < B))) = true then 1 else 0 : Int32) := by decide +kernel
      exact key A (by omega) B hB8
  · rfl
theorem ch_clash (hi : cs_inj ad) (d : Nat) (S : cs_S) (h : ax_H) {v t c k w t2 c2 : Nat} {xs ys : List sp_X} (hv : v < 312) (hw : w < 312) (hvw : w ≠ v) (hok : sp_ok (cs_vf S v) (cs_vn S v) (cs_vp S v) t c xs) (hg : sp_g xs) (hok2 : sp_ok (cs_vf S w) (cs_vn S w) (cs_vp S w) t2 c2 ys) (hg2 : sp_gx (.inr (sp_att w (t2, c2, ys)))) (hk : k ≤ 5) : AW G mX5_clashesWith d 0 0 (fun r h1 => r = .inl (some (.int (if sp_clash k xs (sp_att w (t2, c2, ys)) then 1 else 0))) ∧ h1 = cs_O ad S h) 0 [(0, .ref (ad (1, v))), (1, .ref (ad (1, w))), (2, .int (nI k))] [] (cs_O ad S h) 0 0 := by
  refine ax_mono (cv_clash hi d S h hv hw hvw (nI k)) ?_
  rintro r h1 ⟨e, e2⟩
  refine ⟨e.trans ?_, e2⟩
  rw [sp_cl hok hg hok2 hg2 hk]
end STK
