/-! ===== a value one argument longer; what stands while values are made ===== -/
def st_cp (v2 : Nat) (S S1 : cs_S) : Prop := S1.1 = S.1 ∧ S1.2.1 = S.2.1 ∧ S1.2.2.1 = S.2.2.1 ∧ (∀ w, w ≠ v2 → cs_vf S1 w = cs_vf S w ∧ cs_vn S1 w = cs_vn S w ∧ cs_vp S1 w = cs_vp S w) ∧ S1.2.2.2.2.2.2 = S.2.2.2.2.2.2
theorem st_cp_V {S : cs_S} {v : Nat} {V N : Nat → Int32} {P : Nat → Option Nat} : st_cp v S (cs_setV S v V N P) := ⟨rfl, rfl, rfl, fun w hw => by simp [cs_vf, cs_vn, cs_vp, cs_setV, va_up, hw], rfl⟩
theorem st_cp_tr {v : Nat} {S S1 S2 : cs_S} (h1 : st_cp v S S1) (h2 : st_cp v S1 S2) : st_cp v S S2 :=
  ⟨h2.1.trans h1.1, h2.2.1.trans h1.2.1, h2.2.2.1.trans h1.2.2.1, fun w hw => ⟨(h2.2.2.2.1 w hw).1.trans (h1.2.2.2.1 w hw).1, (h2.2.2.2.1 w hw).2.1.trans (h1.2.2.2.1 w hw).2.1, (h2.2.2.2.1 w hw).2.2.trans (h1.2.2.2.1 w hw).2.2⟩, h2.2.2.2.2.trans h1.2.2.2.2⟩
theorem st_cp_T {v : Nat} {S S1 : cs_S} {T : List sp_E} (h : st_cp v S S1) (hv : T.length ≤ v) (hT : st_T S T) : st_T S1 T := by
  obtain ⟨a1, a2, a3⟩ := hT
  refine ⟨by rw [h.1]; exact a1, fun t ht => by rw [h.2.1]; exact a2 t ht, fun w e he => ?_⟩
  have hw := (List.getElem?_eq_some_iff.mp he).1
  obtain ⟨b1, b2, b3⟩ := h.2.2.2.1 w (by omega)
  obtain ⟨c1, c2, c3⟩ := a3 w e he
  rw [b1, b2, b3, h.2.2.1]
  exact ⟨c1, c2, c3⟩
theorem st_cp_g {v : Nat} {S S1 : cs_S} {g : sp_G} (h : st_cp v S S1) (hg : cs_g S g) : cs_g S1 g := by
  unfold cs_g
  rw [h.1, h.2.1]; exact hg
theorem st_cp_fix {v : Nat} {S S1 : cs_S} (h : st_cp v S S1) (hf : st_fix S) : st_fix S1 := by
  unfold st_fix
  rw [h.2.2.1]; exact hf
theorem st_cp_ends {v s : Nat} {S S1 : cs_S} {T0 : List sp_E} (h : st_cp v S S1) (he : st_ends S T0 s) : st_ends S1 T0 s := by
  unfold st_ends
  rw [h.2.1]; exact he
theorem st_cp_same {v k : Nat} {S S1 : cs_S} (h : st_cp v S S1) (hv : v = 300 + (k + 1)) (hk : k ≤ 2) : st_same k S S1 :=
  ⟨fun i _ _ => by rw [h.1], fun i _ => by rw [h.2.1], fun i _ => by rw [h.2.2.1], fun w a b => h.2.2.2.1 w (by omega), h.2.2.2.2⟩
def st_in (g : sp_G) (S : cs_S) (T T0 : List sp_E) (s : Nat) : Prop := cs_g S g ∧ st_fix S ∧ st_T S T ∧ sp_wT T ∧ T0 <+: T ∧ st_ends S T0 s
theorem st_cp_in {v s : Nat} {g : sp_G} {S S1 : cs_S} {T T0 : List sp_E} (h : st_cp v S S1) (hv : 300 ≤ v) (hs : st_in g S T T0 s) : st_in g S1 T T0 s :=
  ⟨st_cp_g h hs.1, st_cp_fix h hs.2.1, st_cp_T h (Nat.le_trans hs.2.2.2.1.1 hv) hs.2.2.1, hs.2.2.2.1, hs.2.2.2.2.1, st_cp_ends h hs.2.2.2.2.2⟩
def st_out (g : sp_G) (T0 : List sp_E) (s k : Nat) (p : List sp_E × Bool) (S S' : cs_S) : Prop := st_in g S' p.1 T0 s ∧ st_same k S S' ∧ S'.1 5 = (if p.2 then 1 else 0)
/-- arguments of a value that is being made -/
def sp_xs (T0 : List sp_E) (lo hi : Nat) (xs : List sp_X) : Prop := xs.length ≤ 3 ∧ (∀ n, .inl n ∈ xs → lo ≤ n ∧ n ≤ hi) ∧ ∀ q, .inr q ∈ xs → ∃ w e, T0[w]? = some e ∧ q = sp_att w e
theorem sp_xs_g {T0 T : List sp_E} {lo hi : Nat} {xs : List sp_X} (h : sp_xs T0 lo hi xs) (hh : hi ≤ 5) (hw : sp_wT T) (hp : T0 <+: T) : sp_g xs := by
  refine ⟨h.1, fun x hx => ?_⟩
  cases x with
  | inl n => have := (h.2.1 n hx).2; show n ≤ 5; omega
  | inr q =>
    obtain ⟨w, e, he, rfl⟩ := h.2.2 q hx
    exact sp_wT_gx hw (sp_pre_get hp he)
theorem sp_xs_num {T0 : List sp_E} {lo hi m : Nat} {xs : List sp_X} (h : sp_xs T0 lo hi xs) (hl : xs.length < 3) (h1 : lo ≤ m) (h2 : m ≤ hi) : sp_xs T0 lo hi (xs ++ [.inl m]) := by
  refine ⟨by simp; omega, fun n hn => ?_, fun q hq => ?_⟩
  · rcases List.mem_append.mp hn with z | z
    · exact h.2.1 n z
    · simp at z; subst z; exact ⟨h1, h2⟩
  · rcases List.mem_append.mp hq with z | z
    · exact h.2.2 q z
    · simp at z
theorem sp_xs_part {T0 : List sp_E} {lo hi w : Nat} {e : sp_E} {xs : List sp_X} (h : sp_xs T0 lo hi xs) (hl : xs.length < 3) (he : T0[w]? = some e) : sp_xs T0 lo hi (xs ++ [.inr (sp_att w e)]) := by
  refine ⟨by simp; omega, fun n hn => ?_, fun q hq => ?_⟩
  · rcases List.mem_append.mp hn with z | z
    · exact h.2.1 n z
    · simp at z
  · rcases List.mem_append.mp hq with z | z
    · exact h.2.2 q z
    · simp at z; subst z; exact ⟨w, e, he, rfl⟩
theorem sp_xs_sum {T0 T : List sp_E} {lo hi : Nat} {xs : List sp_X} (hw : sp_wT T) (hp : T0 <+: T) (h : ∀ q, .inr q ∈ xs → ∃ w e, T0[w]? = some e ∧ q = sp_att w e) : sp_max (sp_hts xs) ≤ sp_size xs ∧ (sp_ints xs).length ≤ xs.length + 3 * sp_size xs := by
  induction xs with
  | nil => simp [sp_max, sp_hts, sp_ints]
  | cons x r ih =>
    obtain ⟨i1, i2⟩ := ih (fun q hq => h q (List.mem_cons_of_mem _ hq))
    cases x with
    | inl n => exact ⟨by simpa [sp_hts, sp_size] using i1, by simp [sp_ints, sp_size]; omega⟩
    | inr q =>
      obtain ⟨w, e, he, rfl⟩ := h q List.mem_cons_self
      obtain ⟨a1, a2, a3, a4, a5, a6, -, -⟩ := hw.2 w e (sp_pre_get hp he)
      refine ⟨?_, ?_⟩
      · show max (1 + sp_max (sp_hts e.2.2)) (sp_max (sp_hts r)) ≤ (1 + sp_size e.2.2) + sp_size r
        omega
      · show (sp_ints e.2.2 ++ sp_ints r).length ≤ (r.length + 1) + 3 * ((1 + sp_size e.2.2) + sp_size r)
        rw [List.length_append]; omega
theorem sp_wT_snoc {T0 T : List sp_E} {lo hi t c : Nat} {xs : List sp_X} (hw : sp_wT T) (hp : T0 <+: T) (hl : T.length < 300) (h : sp_xs T0 lo hi xs) (hh : hi ≤ 5) (ht : t < 4) (hs : 1 + sp_size xs ≤ 8) : sp_wT (T ++ [(t, c, xs)]) := by
  refine ⟨by simp; omega, fun v e he => ?_⟩
  by_cases hv : v < T.length
  · rw [List.getElem?_append_left hv] at he
    obtain ⟨a1, a2, a3, a4, a5, a6, a7, a8⟩ := hw.2 v e he
    refine ⟨a1, a2, a3, a4, a5, a6, a7, fun q hq => ?_⟩
    obtain ⟨w, e', b1, b2, b3⟩ := a8 q hq
    exact ⟨w, e', b1, by rw [List.getElem?_append_left (by omega)]; exact b2, b3⟩
  · have h5 := (List.getElem?_eq_some_iff.mp he).1
    simp at h5
    have : v = T.length := by omega
    subst this
    simp at he
    subst he
    obtain ⟨b1, b2⟩ := sp_xs_sum (lo := lo) (hi := hi) hw hp h.2.2
    have hg := sp_xs_g h hh hw hp
    have hlx := h.1
    refine ⟨ht, h.1, hs, b1, ?_, (sp_len_ints hg.2).2.1, fun n hn => Nat.le_trans (h.2.1 n hn).2 hh, fun q hq => ?_⟩
    · show (sp_ints xs).length ≤ 3 * (1 + sp_size xs); omega
    · obtain ⟨w, e, he, rfl⟩ := h.2.2 q hq
      have hw9 := (List.getElem?_eq_some_iff.mp (sp_pre_get hp he)).1
      exact ⟨w, e, hw9, by rw [List.getElem?_append_left hw9]; exact sp_pre_get hp he, rfl⟩
theorem sp_pre_snoc {T0 T : List sp_E} (h : T0 <+: T) (e : sp_E) : T0 <+: T ++ [e] := h.trans (List.prefix_append _ _)
theorem sp_ok_w {V nu nu2 : Nat → Int32} {pa pa2 : Nat → Option Nat} {t c : Nat} {xs : List sp_X} (h : sp_ok V nu pa t c xs) (hn : ∀ j, j < xs.length → nu2 j = nu j ∧ pa2 j = pa j) : sp_ok V nu2 pa2 t c xs := by
  obtain ⟨a0, a2, a3, a6, a7, a8, a9, a10, a11, a12, a15, anu, apa⟩ := h
  refine ⟨a0, a2, a3, a6, a7, a8, a9, a10, a11, a12, a15, fun j n hj => ?_, fun j q hj => ?_⟩
  · have hl := (List.getElem?_eq_some_iff.mp hj).1
    rw [(hn j hl).1, (hn j hl).2]; exact anu j n hj
  · have hl := (List.getElem?_eq_some_iff.mp hj).1
    rw [(hn j hl).2]; exact apa j q hj
/-- the parts of a value are among the entries -/
theorem sp_ok_p {V nu : Nat → Int32} {pa : Nat → Option Nat} {t c lo hi : Nat} {xs : List sp_X} {T0 : List sp_E} (h : sp_ok V nu pa t c xs) (hx : sp_xs T0 lo hi xs) : ∀ j, j < xs.length → ∀ y, pa j = some y → y < T0.length := by
  intro j hj y hy
  cases hc : xs[j]? with
  | none => rw [List.getElem?_eq_none_iff] at hc; omega
  | some x =>
    cases x with
    | inl n => rw [(h.2.2.2.2.2.2.2.2.2.2.2.1 j n hc).2] at hy; cases hy
    | inr q =>
      rw [h.2.2.2.2.2.2.2.2.2.2.2.2 j q hc] at hy
      obtain ⟨w, e, he, rfl⟩ := hx.2.2 q (List.mem_of_getElem? hc)
      cases hy
      exact (List.getElem?_eq_some_iff.mp he).1
section EXT
variable {G : ax_G} {ad : cs_K → Nat}
theorem ch_longer (hi : cs_inj ad) (d : Nat) (S : cs_S) (h : ax_H) {T0 : List sp_E} {lo hh t c : Nat} {xs : List sp_X} (hf : st_fix S) (hl0 : T0.length ≤ 300) (hx : sp_xs T0 lo hh xs) (hm : xs.length < 3) (hb : st_beg S t c xs) : AW G mX3_copyToExtend (d + 1) 0 0 (fun r h1 => r = .inl (some (.ref (ad (1, 300 + (xs.length + 1))))) ∧ ∃ S1, h1 = cs_O ad S1 h ∧ st_cp (300 + (xs.length + 1)) S S1 ∧ sp_ok (cs_vf S1 (300 + (xs.length + 1))) (cs_vn S1 (300 + (xs.length + 1))) (cs_vp S1 (300 + (xs.length + 1))) t c xs) 0 [(0, .ref (ad (0, 6))), (1, .ref (ad (1, 300 + xs.length)))] [] (cs_O ad S h) 0 0 := by
  refine ax_mono (ch_copyToExtend hi d S h hf (v := 300 + xs.length) (by omega) (by omega) hb hm (fun j hj y hy => ?_)) ?_
  · have := sp_ok_p hb hx j hj y hy
    omega
  rintro r h1 ⟨e, N, P, n1, n2, rfl⟩
  refine ⟨e, _, rfl, st_cp_V, ?_⟩
  have e1 : cs_vf (cs_setV S (300 + (xs.length + 1)) (cs_vf S (300 + xs.length)) N P) (300 + (xs.length + 1)) = cs_vf S (300 + xs.length) := by simp [cs_vf, cs_setV, va_up]
  have e2 : cs_vn (cs_setV S (300 + (xs.length + 1)) (cs_vf S (300 + xs.length)) N P) (300 + (xs.length + 1)) = N := by simp [cs_vn, cs_setV, va_up]
  have e3 : cs_vp (cs_setV S (300 + (xs.length + 1)) (cs_vf S (300 + xs.length)) N P) (300 + (xs.length + 1)) = P := by simp [cs_vp, cs_setV, va_up]
  rw [e1, e2, e3]
  exact sp_ok_w hb n1
theorem ch_num (hi : cs_inj ad) (d : Nat) (S : cs_S) (h : ax_H) {v t c m : Nat} {xs : List sp_X} (hv : v < 312) (hg : sp_g xs) (hm : xs.length < 3) (hok : sp_ok (cs_vf S v) (cs_vn S v) (cs_vp S v) t c xs) (hm5 : m ≤ 5) : AW G mX5_addNumber (d + 1) 0 0 (fun r h1 => r = .inl none ∧ ∃ S1, h1 = cs_O ad S1 h ∧ st_cp v S S1 ∧ sp_ok (cs_vf S1 v) (cs_vn S1 v) (cs_vp S1 v) t c (xs ++ [.inl m])) 0 [(0, .ref (ad (1, v))), (1, .int (nI m))] [] (cs_O ad S h) 0 0 := by
  have h3 := hok.2.2.1
  refine ax_mono (cv_num hi d S h hv (nI m) (by rw [h3]; exact nI_pos (by omega)) (il_lt xs.length 3 hm h3)) ?_
  rintro r h1 ⟨e, rfl⟩
  refine ⟨e, _, rfl, st_cp_V, ?_⟩
  have := sp_num hok hg hm hm5
  simpa [cs_vf, cs_vn, cs_vp, cs_setV, va_up] using this
theorem ch_part (hi : cs_inj ad) (d : Nat) (S : cs_S) (h : ax_H) {v t c w : Nat} {e : sp_E} {xs : List sp_X} (hv : v < 312) (hw : w < 312) (hvw : w ≠ v) (hg : sp_g xs) (hm : xs.length < 3) (hok : sp_ok (cs_vf S v) (cs_vn S v) (cs_vp S v) t c xs) (hok2 : sp_ok (cs_vf S w) (cs_vn S w) (cs_vp S w) e.1 e.2.1 e.2.2) (hg2 : sp_gx (.inr (sp_att w e))) : AW G mX5_addPart (d + 1) 0 0 (fun r h1 => r = .inl none ∧ ∃ S1, h1 = cs_O ad S1 h ∧ st_cp v S S1 ∧ sp_ok (cs_vf S1 v) (cs_vn S1 v) (cs_vp S1 v) t c (xs ++ [.inr (sp_att w e)])) 0 [(0, .ref (ad (1, v))), (1, .ref (ad (1, w)))] [] (cs_O ad S h) 0 0 := by
  have h3 := hok.2.2.1
  refine ax_mono (cv_part hi d S h hv hw hvw (by rw [h3]; exact nI_pos (by omega)) (il_lt xs.length 3 hm h3)) ?_
  rintro r h1 ⟨e9, rfl⟩
  refine ⟨e9, _, rfl, st_cp_V, ?_⟩
  obtain ⟨g0, g2, g3, g6, g7, g8, g9, g10, g11, g12, g15, gnu, gpa⟩ := hok2
  have := sp_part (W := cs_vf S w) (q := sp_att w e) hok hg hm hg2 ⟨g6, g7, g10, g11, g12, g15⟩
  simpa [cs_vf, cs_vn, cs_vp, cs_setV, va_up, show (sp_att w e).1 = w from rfl] using this
end EXT
