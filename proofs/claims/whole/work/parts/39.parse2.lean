/-! ===== parseValue, by the pure reading ===== -/
def st_ag (lo hi : Nat) (S S2 : cs_S) : Prop := ∀ w, lo ≤ w → w < hi → cs_vf S2 w = cs_vf S w ∧ cs_vn S2 w = cs_vn S w ∧ cs_vp S2 w = cs_vp S w
def pc_cl (g : sp_G) (S : cs_S) (lo hi : Nat) (q : sp_C) (xs : List sp_X) (ps : List (List Nat)) : Prop :=
  ps.length = xs.length ∧ ∀ (j : Nat) (x : sp_X), xs[j]? = some x → match x with
    | .inl m => sp_par q j = 9 ∧ m ≤ 5 ∧ ps[j]? = some [m]
    | .inr p => sp_par q j < 4 ∧ ∃ P, ps[j]? = some P ∧ ∀ S2 : cs_S, st_ag lo hi S S2 → st_cod g S2 p.2.1 p.1 (sp_par q j) P
def st_dv (g : sp_G) (S : cs_S) (op op' t : Nat) (p : sp_P) (L : List Nat) : Prop := ∃ (c : Nat) (xs : List sp_X) (L1 : List Nat), sp_ok (cs_vf S (304 + op)) (cs_vn S (304 + op)) (cs_vp S (304 + op)) t c xs ∧ sp_g xs ∧ p.1 = (1 + sp_size xs, 1 + sp_max (sp_hts xs), sp_ints xs) ∧ L = L1 ++ p.2 ∧ ∀ S2 : cs_S, st_ag (304 + op) (304 + op') S S2 → st_cod g S2 p.1.1 (304 + op) t L1
theorem pc_cl_mv {g : sp_G} {S S' : cs_S} {lo hi hi' : Nat} {q : sp_C} {xs : List sp_X} {ps : List (List Nat)} (h : pc_cl g S lo hi q xs ps) (ha : st_ag lo hi S S') (hh : hi ≤ hi') : pc_cl g S' lo hi' q xs ps := by
  refine ⟨h.1, fun j x hx => ?_⟩
  have h1 := h.2 j x hx
  cases x with
  | inl m => exact h1
  | inr p =>
    obtain ⟨a1, P, a2, a3⟩ := h1
    refine ⟨a1, P, a2, fun S2 h2 => a3 S2 (fun w w1 w2 => ?_)⟩
    obtain ⟨b1, b2, b3⟩ := h2 w w1 (by omega)
    obtain ⟨c1, c2, c3⟩ := ha w w1 w2
    exact ⟨b1.trans c1, b2.trans c2, b3.trans c3⟩
theorem pc_cl_snoc {g : sp_G} {S : cs_S} {lo hi : Nat} {q : sp_C} {xs : List sp_X} {ps : List (List Nat)} {x : sp_X} {P : List Nat} (h : pc_cl g S lo hi q xs ps) (hx : match x with
    | .inl m => sp_par q xs.length = 9 ∧ m ≤ 5 ∧ P = [m]
    | .inr p => sp_par q xs.length < 4 ∧ ∀ S2 : cs_S, st_ag lo hi S S2 → st_cod g S2 p.2.1 p.1 (sp_par q xs.length) P) : pc_cl g S lo hi q (xs ++ [x]) (ps ++ [P]) := by
  refine ⟨by simp [h.1], fun j y hj => ?_⟩
  by_cases hl : j < xs.length
  · rw [List.getElem?_append_left hl] at hj
    have h1 := h.2 j y hj
    have hp : (ps ++ [P])[j]? = ps[j]? := List.getElem?_append_left (by rw [h.1]; exact hl)
    cases y with
    | inl m => exact ⟨h1.1, h1.2.1, hp.trans h1.2.2⟩
    | inr p =>
      obtain ⟨a1, P1, a2, a3⟩ := h1
      exact ⟨a1, P1, hp.trans a2, a3⟩
  · have h5 := (List.getElem?_eq_some_iff.mp hj).1
    simp at h5
    have : j = xs.length := by omega
    subst this
    have hp : (ps ++ [P])[xs.length]? = some P := by rw [← h.1]; simp
    simp at hj
    subst hj
    cases x with
    | inl m => exact ⟨hx.1, hx.2.1, by rw [hp, hx.2.2]⟩
    | inr p => exact ⟨hx.1, P, hp, hx.2⟩
theorem pc_cl_cod {g : sp_G} {S : cs_S} {op t c : Nat} {q : sp_C} {xs : List sp_X} {ps : List (List Nat)} (hop : op < 8) (hc : g.2.2.2[c]? = some q) (hq : q.1 = t) (hok : sp_ok (cs_vf S (304 + op)) (cs_vn S (304 + op)) (cs_vp S (304 + op)) t c xs) (har : xs.length = sp_ar q) (hcl : pc_cl g S (304 + op + 1) (304 + (op + 1 + sp_size xs)) q xs ps) (S2 : cs_S) (ha : st_ag (304 + op) (304 + (op + (1 + sp_size xs))) S S2) : st_cod g S2 (1 + sp_size xs) (304 + op) t ((100 + c) :: ps.flatten) := by
  rw [Nat.add_comm 1]
  obtain ⟨a1, a2, a3⟩ := ha (304 + op) (Nat.le_refl _) (by omega)
  refine ⟨c, q, ps, by omega, hc, hq, by rw [hcl.1, har], by rw [a1]; exact hok.2.1, by rw [a1, hcl.1]; exact hok.2.2.1, rfl, fun j P hP => ?_⟩
  have hjl : j < xs.length := by rw [← hcl.1]; exact (List.getElem?_eq_some_iff.mp hP).1
  have hx : xs[j]? = some xs[j] := List.getElem?_eq_getElem hjl
  have h1 := hcl.2 j _ hx
  cases hy : xs[j] with
  | inl m =>
    rw [hy] at hx h1
    obtain ⟨n1, n2⟩ := hok.2.2.2.2.2.2.2.2.2.2.2.1 j m hx
    exact Or.inl ⟨m, h1.2.1, h1.1, Option.some.inj (hP.symm.trans h1.2.2), by rw [a2]; exact n1, by rw [a3]; exact n2⟩
  | inr p =>
    rw [hy] at hx h1
    have n1 := hok.2.2.2.2.2.2.2.2.2.2.2.2 j p hx
    obtain ⟨b1, P1, b2, b3⟩ := h1
    have : P = P1 := Option.some.inj (hP.symm.trans b2)
    subst this
    refine Or.inr ⟨p.1, b1, by rw [a3]; exact n1, st_cod_mono (sp_size_mem xs p (List.mem_of_getElem? hx)) (b3 S2 (fun w w1 w2 => ha w (by omega) (by omega)))⟩
theorem sp_pt_of {W nu : Nat → Int32} {pa : Nat → Option Nat} {t c w : Nat} {xs : List sp_X} (hok : sp_ok W nu pa t c xs) : sp_pt W (w, 1 + sp_size xs, 1 + sp_max (sp_hts xs), sp_ints xs) := ⟨hok.2.2.2.1, hok.2.2.2.2.1, hok.2.2.2.2.2.2.2.1, hok.2.2.2.2.2.2.2.2.1, hok.2.2.2.2.2.2.2.2.2.1, hok.2.2.2.2.2.2.2.2.2.2.1⟩
theorem sp_ar_cl {g : sp_G} {S : cs_S} {lo hi : Nat} {q : sp_C} {xs : List sp_X} {ps : List (List Nat)} (h : pc_cl g S lo hi q xs ps) (hl : xs.length ≤ 3) (h10 : sp_par q xs.length = 10) : xs.length = sp_ar q := by
  refine (sp_ar_of hl (fun j hj => ?_) h10).symm
  have h1 := h.2 j _ (List.getElem?_eq_getElem hj)
  cases hy : xs[j] with
  | inl m => rw [hy] at h1; rw [h1.1]; decide
  | inr p => rw [hy] at h1; have := h1.1; omega
/-- what holds at the place k of a reading -/
def pv_I (g : sp_G) (tl : List Nat) (op t c : Nat) (q : sp_C) (F : Nat) (L : List Nat) (S S' : cs_S) (i : Nat) (xs : List sp_X) (ps : List (List Nat)) (R : List Nat) : Prop :=
  st_dr op S S' ∧ S'.1 8 = nI (op + 1 + sp_size xs) ∧ op + 1 + sp_size xs ≤ 8 ∧ S'.1 9 = nI (tl.length - R.length) ∧ R.length ≤ tl.length ∧ tl.drop (tl.length - R.length) = R ∧
  sp_ok (cs_vf S' (304 + op)) (cs_vn S' (304 + op)) (cs_vp S' (304 + op)) t c xs ∧ sp_g xs ∧ pc_cl g S' (304 + op + 1) (304 + (op + 1 + sp_size xs)) q xs ps ∧ L = ps.flatten ++ R ∧ xs.length + i = 3 ∧
  sp_lka (sp_look g F) g q 3 0 [] L = sp_lka (sp_look g F) g q i xs.length (xs.map sp_x0) R
theorem sp_drop_cons {tl : List Nat} {pos a : Nat} {L : List Nat} (h : tl.drop pos = a :: L) : pos < tl.length ∧ tl[pos]? = some a ∧ tl.drop (pos + 1) = L ∧ a ∈ tl := by
  have hl : pos < tl.length := by
    rcases Nat.lt_or_ge pos tl.length with z | z
    · exact z
    · rw [List.drop_eq_nil_of_le z] at h; cases h
  rw [List.drop_eq_getElem_cons hl] at h
  injection h with h1 h2
  exact ⟨hl, by rw [List.getElem?_eq_getElem hl, h1], h2, h1 ▸ List.getElem_mem hl⟩
theorem sp_drop_len {tl R : List Nat} {pos : Nat} (h : tl.drop pos = R) (hp : pos ≤ tl.length) : tl.length - R.length = pos ∧ R.length ≤ tl.length := by
  rw [← h, List.length_drop]; omega
theorem sp_drop_app {tl L1 R : List Nat} {pos : Nat} (h : tl.drop pos = L1 ++ R) : R.length ≤ tl.length ∧ tl.drop (tl.length - R.length) = R := by
  obtain ⟨A, hA⟩ : ∃ A, tl = A ++ R := ⟨tl.take pos ++ L1, by rw [List.append_assoc, ← h, List.take_append_drop]⟩
  subst hA
  refine ⟨by rw [List.length_append]; omega, ?_⟩
  rw [List.length_append, Nat.add_sub_cancel]
  exact List.drop_left
theorem sp_m1lt : ∀ a, a ≤ 5 → (-1 : Int32) < nI a := by decide +kernel
theorem sp_lka_10 {F : Nat → List Nat → Option sp_P} {g : sp_G} {q : sp_C} {j k : Nat} {xs : List sp_X} {L : List Nat} (h : sp_par q k = 10) : sp_lka F g q j k xs L = some (xs, L) := by
  cases j with
  | zero => rfl
  | succ j => unfold sp_lka; rw [if_pos h]
theorem sp_lka_9 {F : Nat → List Nat → Option sp_P} {g : sp_G} {q : sp_C} {j k : Nat} {xs : List sp_X} {L : List Nat} (h : sp_par q k = 9) : sp_lka F g q (j + 1) k xs L = match L with
      | [] => none
      | a :: L' => if g.1 ≤ a ∧ a ≤ g.2.1 then sp_lka F g q j (k + 1) (xs ++ [.inl a]) L' else none := by
  conv => lhs; unfold sp_lka
  rw [if_neg (by omega), if_pos h]
  rfl
theorem sp_lka_t {F : Nat → List Nat → Option sp_P} {g : sp_G} {q : sp_C} {j k : Nat} {xs : List sp_X} {L : List Nat} (h : sp_par q k < 9) : sp_lka F g q (j + 1) k xs L = match F (sp_par q k) L with
      | none => none
      | some p => sp_lka F g q j (k + 1) (xs ++ [.inr (0, p.1)]) p.2 := by
  conv => lhs; unfold sp_lka
  rw [if_neg (by omega), if_neg (by omega)]
  rfl
section PAR2
variable {G : ax_G} {ad : cs_K → Nat}
theorem pv_end2 (hi : cs_inj ad) (d : Nat) (S : cs_S) (h : ax_H) {g : sp_G} {c op t k : Nat} {q : sp_C} (hg : cs_g S g) (hw : sp_wg g) (hc : g.2.2.2[c]? = some q) (hv : 304 + op < 312) {xs : List sp_X} (hok : sp_ok (cs_vf S (304 + op)) (cs_vn S (304 + op)) (cs_vp S (304 + op)) t c xs) (hgx : sp_g xs) (hk : k ≤ 3) (h10 : sp_par q k = 10) {Q : ax_P} (q0 : sp_cond q.2.2.2.2 xs = false → Q (.inl (some .null)) (cs_O ad S h)) (q1 : sp_cond q.2.2.2.2 xs = true → Q (.inl (some (.ref (ad (1, 304 + op))))) (cs_O ad S h)) : AW G mX4_parseValue (d + 2) 0 0 Q 92 [(0, .ref (ad (0, 12))), (1, .int (nI t)), (2, .int (nI c)), (3, .ref (ad (1, 304 + op))), (4, .int (nI k))] [] (cs_O ad S h) 0 0 := by
  have hwc := hw.2.2.2.2 q (List.mem_of_getElem? hc)
  have e3 := pv_end (G := G) (t := t) hi d S h hg hw hc hv hok hgx q0 q1
  rcases (show k = 3 ∨ k = 2 ∨ k = 1 ∨ k = 0 by omega) with rfl | rfl | rfl | rfl
  · exact e3
  · exact pv_skip hi d S h hg hw hc (by decide) h10 e3
  · have h2 : sp_par q 2 = 10 := hwc.2.2.2.1 h10
    exact pv_skip hi d S h hg hw hc (by decide) h10 (pv_skip hi d S h hg hw hc (by decide) h2 e3)
  · have h1 : sp_par q 1 = 10 := hwc.2.2.1 h10
    have h2 : sp_par q 2 = 10 := hwc.2.2.2.1 h1
    exact pv_skip hi d S h hg hw hc (by decide) h10 (pv_skip hi d S h hg hw hc (by decide) h1 (pv_skip hi d S h hg hw hc (by decide) h2 e3))
theorem pv_vf {S : cs_S} {v w : Nat} {V N : Nat → Int32} {P : Nat → Option Nat} (hn : w ≠ v) : cs_vf (cs_setV S v V N P) w = cs_vf S w ∧ cs_vn (cs_setV S v V N P) w = cs_vn S w ∧ cs_vp (cs_setV S v V N P) w = cs_vp S w := by
  show va_up S.2.2.2.1 v V w = _ ∧ va_up S.2.2.2.2.1 v N w = _ ∧ va_up S.2.2.2.2.2.1 v P w = _
  simp [va_up, hn]
theorem pv_vs {S : cs_S} {v : Nat} {V N : Nat → Int32} {P : Nat → Option Nat} : cs_vf (cs_setV S v V N P) v = V ∧ cs_vn (cs_setV S v V N P) v = N ∧ cs_vp (cs_setV S v V N P) v = P := by
  show va_up S.2.2.2.1 v V v = _ ∧ va_up S.2.2.2.2.1 v N v = _ ∧ va_up S.2.2.2.2.2.1 v P v = _
  simp [va_up]
theorem pv_int (hi : cs_inj ad) {g : sp_G} (hw : sp_wg g) (d : Nat) (h : ax_H) {tl : List Nat} {op t c F i : Nat} {q : sp_C} {L : List Nat} {S S' : cs_S} {xs : List sp_X} {ps : List (List Nat)} {R : List Nat} (hop : op < 8) (hg : cs_g S g) (htd : st_td tl S) (hI : pv_I g tl op t c q F L S S' (i + 1) xs ps R) (h9 : sp_par q xs.length = 9) : AW G mX4_parseArgument (d + 2) 0 0 (fun r h1 => ∃ (b : Int32) (S1 : cs_S), r = .inl (some (.int b)) ∧ h1 = cs_O ad S1 h ∧ ((b = 0 ∧ (st_dr op S S1 ∧ sp_lka (sp_look g F) g q 3 0 [] L = none)) ∨ (b = 1 ∧ ∃ xs2 ps2 R2, pv_I g tl op t c q F L S S1 i xs2 ps2 R2 ∧ xs2.length = xs.length + 1))) 0 [(0, .ref (ad (0, 12))), (1, .ref (ad (1, 304 + op))), (2, .int (nI 9))] [] (cs_O ad S' h) 0 0 := by
  obtain ⟨i1, i2, i3, i4, i5, i6, i7, i8, i9, i10, i11, i12⟩ := hI
  have hg' := st_dr_g i1 hg
  have htd' := st_dr_td i1 htd
  have hw2 := hw.2.1
  have hw1 := hw.1
  have htl := htd'.2.1
  have h10 : ¬ sp_par q xs.length = 10 := by omega
  rw [sp_lka_9 h9] at i12
  cases R with
  | nil =>
    simp at i4 i12
    exact pa_lo hi d S' S' h (lo := g.1) (cv_nextN hi (d + 1) S' h i4 htd'.1 htl) hg'.1 (sp_m1lt _ (by omega)) ⟨0, S', rfl, rfl, Or.inl ⟨rfl, i1, i12⟩⟩
  | cons b R =>
    obtain ⟨j1, j2, j3, j4⟩ := sp_drop_cons i6
    have hb : S'.2.1 13 (tl.length - (b :: R).length) = nI b := htd'.2.2.1 _ _ j2
    have hb105 : b ≤ 105 := by rcases htd'.2.2.2 b j4 with z | z <;> omega
    have hnx := cv_nextS (G := G) hi (d + 1) S' h i4 htd'.1 j1 htl hb
    have hdr1 : st_dr op S (cs_setS S' 9 (nI (tl.length - (b :: R).length + 1))) := st_dr_tr i1 (st_dr_s (Or.inr rfl))
    simp only at i12
    by_cases hlo : g.1 ≤ b
    · by_cases hhi : b ≤ g.2.1
      · rw [if_pos ⟨hlo, hhi⟩] at i12
        refine pa_num hi d S' _ h (lo := g.1) (hi2 := g.2.1) hnx hg'.1 hg'.2.1 hlo hhi hw2 (by omega) ?_ ?_ ⟨1, _, rfl, rfl, Or.inr ⟨rfl, xs ++ [.inl b], ps ++ [[b]], R, ⟨?_, ?_, ?_, ?_, ?_, ?_, ?_, ?_, ?_, ?_, ?_, ?_⟩, by simp⟩⟩
        · show ¬ cs_vf S' (304 + op) 3 < 0
          rw [i7.2.2.1]; exact nI_pos (by omega)
        · show cs_vf S' (304 + op) 3 < 3
          rw [i7.2.2.1]; exact il_lt xs.length 3 (by omega)
        · exact st_dr_tr hdr1 (st_dr_v (Nat.le_refl _))
        · show S'.1 8 = _
          rw [i2, sp_size_app]; rfl
        · rw [sp_size_app]; exact i3
        · show nI (tl.length - (b :: R).length + 1) = _
          congr 1; simp at i5 ⊢; omega
        · simp at i5; omega
        · have : tl.length - R.length = tl.length - (b :: R).length + 1 := by simp at i5 ⊢; omega
          rw [this]; exact j3
        · rw [pv_vs.1, pv_vs.2.1, pv_vs.2.2]
          exact sp_num i7 i8 (by omega) (by omega)
        · refine ⟨by have := i8.1; simp; omega, fun x hx => ?_⟩
          rcases List.mem_append.mp hx with z | z
          · exact i8.2 x z
          · simp at z; subst z; show b ≤ 5; omega
        · refine pc_cl_snoc (pc_cl_mv i9 (fun w w1 w2 => ?_) (by rw [sp_size_app]; exact Nat.le_refl _)) ⟨h9, by omega, rfl⟩
          exact pv_vf (S := cs_setS S' 9 (nI (tl.length - (b :: R).length + 1))) (by omega)
        · rw [i10]; simp
        · simp; omega
        · rw [i12]; simp [sp_x0]
      · rw [if_neg (fun z => hhi z.2)] at i12
        exact pa_hi hi d S' _ h (lo := g.1) (hi2 := g.2.1) hnx hg'.1 hg'.2.1 (il_nlt b g.1 hlo rfl rfl (by omega)) (il_nle b g.2.1 (by omega) rfl rfl (by omega)) ⟨0, _, rfl, rfl, Or.inl ⟨rfl, hdr1, i12⟩⟩
    · rw [if_neg (fun z => hlo z.1)] at i12
      exact pa_lo hi d S' _ h (lo := g.1) hnx hg'.1 (il_lt b g.1 (by omega) rfl rfl (by omega)) ⟨0, _, rfl, rfl, Or.inl ⟨rfl, hdr1, i12⟩⟩
/-- what a call of parseValue leaves -/
def pv_ok (ad : cs_K → Nat) (g : sp_G) (tl : List Nat) (op F t pos : Nat) (S : cs_S) (h : ax_H) (Q : ax_P) : Prop :=
  ((∀ p, sp_look g F t (tl.drop pos) = some p → 8 < op + p.1.1) → ∀ S', st_dr op S S' → Q (.inl (some .null)) (cs_O ad S' h)) ∧
  (∀ p, sp_look g F t (tl.drop pos) = some p → op + p.1.1 ≤ 8 → ∀ S', st_dr op S S' → S'.1 8 = nI (op + p.1.1) → S'.1 9 = nI (tl.length - p.2.length) → st_dv g S' op (op + p.1.1) t p (tl.drop pos) → Q (.inl (some (.ref (ad (1, 304 + op))))) (cs_O ad S' h))
theorem pv_part (hi : cs_inj ad) {g : sp_G} (hw : sp_wg g) (d : Nat) (h : ax_H) {tl : List Nat} {op t c F i : Nat} {q : sp_C} {L : List Nat} {S S' : cs_S} {xs : List sp_X} {ps : List (List Nat)} {R : List Nat} (hop : op < 8) (hI : pv_I g tl op t c q F L S S' (i + 1) xs ps R) (h4 : sp_par q xs.length < 4)
    (hpv : ∀ Q : ax_P, pv_ok ad g tl (op + 1 + sp_size xs) F (sp_par q xs.length) (tl.length - R.length) S' h Q → AW G mX4_parseValue (d + 1) 0 0 Q 0 [(0, .ref (ad (0, 12))), (1, .int (nI (sp_par q xs.length)))] [] (cs_O ad S' h) 0 0) :
    AW G mX4_parseArgument (d + 2) 0 0 (fun r h1 => ∃ (b : Int32) (S1 : cs_S), r = .inl (some (.int b)) ∧ h1 = cs_O ad S1 h ∧ ((b = 0 ∧ (st_dr op S S1 ∧ ∀ p, sp_node q (sp_lka (sp_look g F) g q 3 0 [] L) = some p → 8 < op + p.1.1)) ∨ (b = 1 ∧ ∃ xs2 ps2 R2, pv_I g tl op t c q F L S S1 i xs2 ps2 R2 ∧ xs2.length = xs.length + 1))) 0 [(0, .ref (ad (0, 12))), (1, .ref (ad (1, 304 + op))), (2, .int (nI (sp_par q xs.length)))] [] (cs_O ad S' h) 0 0 := by
  obtain ⟨i1, i2, i3, i4, i5, i6, i7, i8, i9, i10, i11, i12⟩ := hI
  rw [sp_lka_t (j := i) (k := xs.length) (by omega)] at i12
  refine pa_part hi d S' h (op2 := op + 1 + sp_size xs) h4 (by omega) (by omega)
    (R0 := fun S1 => st_dr (op + 1 + sp_size xs) S' S1 ∧ ∀ p, sp_look g F (sp_par q xs.length) R = some p → 8 < op + 1 + sp_size xs + p.1.1)
    (R1 := fun S1 => st_dr (op + 1 + sp_size xs) S' S1 ∧ ∃ p, sp_look g F (sp_par q xs.length) R = some p ∧ op + 1 + sp_size xs + p.1.1 ≤ 8 ∧ S1.1 8 = nI (op + 1 + sp_size xs + p.1.1) ∧ S1.1 9 = nI (tl.length - p.2.length) ∧ st_dv g S1 (op + 1 + sp_size xs) (op + 1 + sp_size xs + p.1.1) (sp_par q xs.length) p R) ?_ ?_ (hpv _ ⟨?_, ?_⟩) ?_ ?_
  · rintro S1 ⟨-, p, p1, p2, -⟩
    have := sp_look_pos p1
    omega
  · rintro S1 ⟨k1, -⟩
    rw [(k1.2.2.2.1 (304 + op) (by omega)).1, i7.2.2.1]
    exact ⟨nI_pos (by omega), il_lt xs.length 3 (by omega)⟩
  · intro z S1 k1
    rw [i6] at z
    exact ⟨S1, rfl, Or.inl ⟨rfl, k1, z⟩⟩
  · intro p p1 p2 S1 k1 k2 k3 k4
    rw [i6] at p1 k4
    exact ⟨S1, rfl, Or.inr ⟨rfl, k1, p, p1, p2, k2, k3, k4⟩⟩
  · rintro S1 ⟨k1, k2⟩
    refine ⟨0, S1, rfl, rfl, Or.inl ⟨rfl, st_dr_tr i1 (st_dr_le (by omega) k1), fun p hp => ?_⟩⟩
    rw [i12] at hp
    cases hl : sp_look g F (sp_par q xs.length) R with
    | none => rw [hl] at hp; cases hp
    | some p2 =>
      rw [hl] at hp
      have k3 := k2 p2 hl
      simp only at hp
      cases hk : sp_lka (sp_look g F) g q i (xs.length + 1) (xs.map sp_x0 ++ [.inr (0, p2.1)]) p2.2 with
      | none => rw [hk] at hp; cases hp
      | some r =>
        have hsz := sp_lka_size _ _ _ _ _ _ hk
        rw [sp_size_app, sp_x0_size] at hsz
        rw [hk] at hp
        unfold sp_node at hp
        simp only at hp
        split at hp
        · cases hp
          have e1 : sp_size [(.inr (0, p2.1) : sp_X)] = p2.1.1 := by simp [sp_size]
          rw [e1] at hsz
          show 8 < op + (1 + sp_size r.1)
          omega
        · cases hp
  · rintro S1 ⟨k1, p, p1, p2, k2, k3, c2, xs2, L1, o1, o2, o3, o4, o5⟩
    rw [p1] at i12
    simp only at i12
    have hv1 := k1.2.2.2.1 (304 + op) (by omega)
    have e1 : sp_size [(.inr (304 + (op + 1 + sp_size xs), p.1) : sp_X)] = p.1.1 := by simp [sp_size]
    have hlo := sp_look_ok hw.2.1 _ _ _ _ p1
    have hgx : sp_gx (.inr (304 + (op + 1 + sp_size xs), p.1)) := by
      obtain ⟨f0, f1, f2, f3, f4, -⟩ := hlo
      exact ⟨f0, by show p.1.1 ≤ 8; omega, f2, by show p.1.2.1 ≤ 8; omega, by show p.1.2.2.length ≤ 24; omega, f4⟩
    obtain ⟨m1, m2⟩ := sp_drop_app (i6.trans o4)
    refine ⟨1, _, rfl, rfl, Or.inr ⟨rfl, xs ++ [.inr (304 + (op + 1 + sp_size xs), p.1)], ps ++ [L1], p.2, ⟨?_, ?_, ?_, ?_, ?_, ?_, ?_, ?_, ?_, ?_, ?_, ?_⟩, by simp⟩⟩
    · exact st_dr_tr i1 (st_dr_tr (st_dr_le (by omega) k1) (st_dr_v (Nat.le_refl _)))
    · show S1.1 8 = _
      rw [k2, sp_size_app, e1, Nat.add_assoc]
    · rw [sp_size_app, e1]; omega
    · exact k3
    · exact m1
    · exact m2
    · rw [pv_vs.1, pv_vs.2.1, pv_vs.2.2]
      rw [hv1.1, hv1.2.1, hv1.2.2]
      refine sp_part i7 i8 (by omega) hgx ?_
      rw [o3]
      exact sp_pt_of o1
    · refine ⟨by have := i8.1; simp; omega, fun x hx => ?_⟩
      rcases List.mem_append.mp hx with z | z
      · exact i8.2 x z
      · simp at z; subst z; exact hgx
    · refine pc_cl_snoc (pc_cl_mv i9 (fun w w1 w2 => ?_) (by rw [sp_size_app, e1]; omega)) ⟨h4, fun S2 h2 => o5 S2 (fun w w1 w2 => ?_)⟩
      · obtain ⟨b1, b2, b3⟩ := k1.2.2.2.1 w (by omega)
        have hn : w ≠ 304 + op := by omega
        obtain ⟨c1, c2, c3⟩ := pv_vf (S := S1) (V := vr_part (cs_vf S1 (304 + op)) (cs_vf S1 (304 + (op + 1 + sp_size xs)))) (N := upd (cs_vn S1 (304 + op)) (cs_vf S1 (304 + op) 3).toNatClampNeg 0) (P := va_up (cs_vp S1 (304 + op)) (cs_vf S1 (304 + op) 3).toNatClampNeg (some (304 + (op + 1 + sp_size xs)))) hn
        exact ⟨c1.trans b1, c2.trans b2, c3.trans b3⟩
      · have hn : w ≠ 304 + op := by omega
        obtain ⟨c1, c2, c3⟩ := pv_vf (S := S1) (V := vr_part (cs_vf S1 (304 + op)) (cs_vf S1 (304 + (op + 1 + sp_size xs)))) (N := upd (cs_vn S1 (304 + op)) (cs_vf S1 (304 + op) 3).toNatClampNeg 0) (P := va_up (cs_vp S1 (304 + op)) (cs_vf S1 (304 + op) 3).toNatClampNeg (some (304 + (op + 1 + sp_size xs)))) hn
        obtain ⟨b1, b2, b3⟩ := h2 w (by omega) (by rw [sp_size_app, e1]; omega)
        exact ⟨b1.trans c1, b2.trans c2, b3.trans c3⟩
    · rw [i10, o4]; simp
    · simp; omega
    · rw [i12]; simp [sp_x0]
theorem pv_val (hi : cs_inj ad) {g : sp_G} (hw : sp_wg g) (h : ax_H) {tl : List Nat} : ∀ (m op : Nat), op + m = 8 → ∀ (F t pos : Nat) (S : cs_S), (tl.drop pos).length < F → pos ≤ tl.length → S.1 8 = nI op → S.1 9 = nI pos → cs_g S g → st_fix S → st_td tl S → t < 4 → ∀ (d : Nat) (Q : ax_P), pv_ok ad g tl op F t pos S h Q →
    AW G mX4_parseValue (d + 2 * m + 2) 0 0 Q 0 [(0, .ref (ad (0, 12))), (1, .int (nI t))] [] (cs_O ad S h) 0 0 := by
  intro m
  induction m using Nat.strongRecOn with
  | _ m ih =>
    intro op hop F t pos S hF hp h8 h9 hg hf htd ht d Q hok
    obtain ⟨hn, hs⟩ := hok
    obtain ⟨F, rfl⟩ : ∃ k, F = k + 1 := ⟨F - 1, by omega⟩
    cases hL : tl.drop pos with
    | nil =>
      rw [hL] at hn
      have hpl : pos = tl.length := by
        have := congrArg List.length hL
        rw [List.length_drop] at this
        simp at this; omega
      subst hpl
      exact pv_no hi (d + 2 * m) S S h (cv_nextN hi _ S h h9 htd.1 htd.2.1) (Or.inl (by decide)) (hn (fun p z => by cases z) S (st_dr_rfl _ _))
    | cons a L =>
      rw [hL] at hn hs hF
      obtain ⟨j1, j2, j3, j4⟩ := sp_drop_cons hL
      have hnx := cv_nextS (G := G) hi (d + 2 * m + 1) S h h9 htd.1 j1 htd.2.1 (htd.2.2.1 _ _ j2)
      have hdr : st_dr op S (cs_setS S 9 (nI (pos + 1))) := st_dr_s (Or.inr rfl)
      have hg1 := st_dr_g hdr hg
      have hf1 := st_dr_fix hdr hf
      rcases htd.2.2.2 a j4 with ha | ⟨ha, ha2⟩
      · have hk : nI a - 100 < 0 := (by decide +kernel : ∀ a, a ≤ 5 → nI a - 100 < 0) a ha
        refine pv_no hi (d + 2 * m) S _ h hnx (Or.inl hk) (hn (fun p z => ?_) _ hdr)
        unfold sp_look at z
        rw [if_neg (by omega)] at z
        cases z
      · obtain ⟨c, rfl⟩ : ∃ c, a = 100 + c := ⟨a - 100, by omega⟩
        have hx : nI (100 + c) - 100 = nI c := (by decide +kernel : ∀ c, c ≤ 5 → nI (100 + c) - 100 = nI c) c (by omega)
        have hlk : sp_look g (F + 1) t ((100 + c) :: L) = match g.2.2.2[c]? with
            | none => none
            | some q => if q.1 = t then sp_node q (sp_lka (sp_look g F) g q 3 0 [] L) else none := by
          conv => lhs; unfold sp_look
          rw [if_pos ha, Nat.add_sub_cancel_left]
          rfl
        rw [hlk] at hn hs
        cases hc : g.2.2.2[c]? with
        | none =>
          rw [hc] at hn
          have hcl : g.2.2.2.length ≤ c := List.getElem?_eq_none_iff.mp hc
          refine pv_no hi (d + 2 * m) S _ h hnx (Or.inr ?_) (hn (fun p z => by cases z) _ hdr)
          rw [hx, hg1.2.2.2.1]
          exact il_le _ _ hcl rfl rfl (by omega)
        | some q =>
          rw [hc] at hn hs
          simp only at hn hs
          have hwc := hw.2.2.2.2 q (List.mem_of_getElem? hc)
          have hty := hw.2.2.1
          by_cases hqt : q.1 = t
          · rw [if_pos hqt] at hn hs
            by_cases hop8 : op = 8
            · subst hop8
              refine pv_full hi (d + 2 * m) S _ h hnx hg1 hw hc hx (by rw [hqt]) h8 (hn (fun p z => ?_) _ hdr)
              have : 1 ≤ p.1.1 := by
                unfold sp_node at z
                split at z
                · cases z
                · split at z
                  · cases z; show 1 ≤ 1 + _; omega
                  · cases z
              omega
            · obtain ⟨m, rfl⟩ : ∃ k, m = k + 1 := ⟨m - 1, by omega⟩
              refine pv_open hi (d + 2 * (m + 1)) S _ h hnx hg1 hw hc hx (by rw [hqt]) (by omega) h8 hf1 ?_
              have loop : ∀ (i : Nat) (S' : cs_S) (xs : List sp_X) (ps : List (List Nat)) (R : List Nat), pv_I g tl op t c q F L S S' i xs ps R → AW G mX4_parseValue (d + 2 * (m + 1) + 2) 0 0 Q 92 [(0, .ref (ad (0, 12))), (1, .int (nI t)), (2, .int (nI c)), (3, .ref (ad (1, 304 + op))), (4, .int (nI xs.length))] [] (cs_O ad S' h) 0 0 := by
                intro i
                induction i with
                | zero =>
                  intro S' xs ps R hI
                  obtain ⟨i1, i2, i3, i4, i5, i6, i7, i8, i9, i10, i11, i12⟩ := hI
                  have hx3 : sp_par q xs.length = 10 := by rw [show xs.length = 3 by omega]; rfl
                  rw [sp_lka_10 hx3] at i12
                  refine pv_end2 hi (d + 2 * (m + 1)) S' h (st_dr_g i1 hg) hw hc (by omega) i7 i8 (by omega) hx3 (fun hb => hn (fun p z => ?_) S' i1) (fun hb => ?_)
                  · rw [i12] at z
                    unfold sp_node at z
                    simp only [sp_x0_cond, hb] at z
                    cases z
                  · have hnode : sp_node q (sp_lka (sp_look g F) g q 3 0 [] L) = some ((1 + sp_size xs, 1 + sp_max (sp_hts xs), sp_ints xs), R) := by
                      rw [i12]
                      unfold sp_node
                      simp only [sp_x0_cond, hb, sp_x0_size, sp_x0_hts, sp_x0_ints, if_true]
                    refine hs _ hnode (by show op + (1 + sp_size xs) ≤ 8; omega) S' i1 (by rw [i2, Nat.add_assoc]) i4 ⟨c, xs, (100 + c) :: ps.flatten, i7, i8, rfl, by rw [i10]; rfl, fun S2 h2 => pc_cl_cod (by omega) hc hqt i7 (sp_ar_cl i9 (by omega) hx3) i9 S2 h2⟩
                | succ i ihi =>
                  intro S' xs ps R hI
                  by_cases h10 : sp_par q xs.length = 10
                  · obtain ⟨i1, i2, i3, i4, i5, i6, i7, i8, i9, i10, i11, i12⟩ := hI
                    rw [sp_lka_10 h10] at i12
                    refine pv_end2 hi (d + 2 * (m + 1)) S' h (st_dr_g i1 hg) hw hc (by omega) i7 i8 (by omega) h10 (fun hb => hn (fun p z => ?_) S' i1) (fun hb => ?_)
                    · rw [i12] at z
                      unfold sp_node at z
                      simp only [sp_x0_cond, hb] at z
                      cases z
                    · have hnode : sp_node q (sp_lka (sp_look g F) g q 3 0 [] L) = some ((1 + sp_size xs, 1 + sp_max (sp_hts xs), sp_ints xs), R) := by
                        rw [i12]
                        unfold sp_node
                        simp only [sp_x0_cond, hb, sp_x0_size, sp_x0_hts, sp_x0_ints, if_true]
                      refine hs _ hnode (by show op + (1 + sp_size xs) ≤ 8; omega) S' i1 (by rw [i2, Nat.add_assoc]) i4 ⟨c, xs, (100 + c) :: ps.flatten, i7, i8, rfl, by rw [i10]; rfl, fun S2 h2 => pc_cl_cod (by omega) hc hqt i7 (sp_ar_cl i9 (by omega) h10) i9 S2 h2⟩
                  · have hk3 : xs.length < 3 := by have := hI.2.2.2.2.2.2.2.2.2.2.1; omega
                    have hpar := hwc.2.1 xs.length hk3
                    by_cases h9p : sp_par q xs.length = 9
                    · have hpa := pv_int (G := G) hi hw (d + 2 * m + 1) h (by omega) hg htd hI h9p
                      refine pv_turn hi (d + 2 * (m + 1)) S' h (st_dr_g hI.1 hg) hw hc hk3 h10 (by omega) (R0 := fun S1 => st_dr op S S1 ∧ sp_lka (sp_look g F) g q 3 0 [] L = none) (R1 := fun S1 => ∃ xs2 ps2 R2, pv_I g tl op t c q F L S S1 i xs2 ps2 R2 ∧ xs2.length = xs.length + 1) ?_ (fun S1 z => hn (fun p hp => ?_) S1 z.1) ?_
                      · rw [h9p]; exact hpa
                      · rw [z.2] at hp; cases hp
                      · rintro S1 ⟨xs2, ps2, R2, hI2, hl2⟩
                        rw [← hl2]
                        exact ihi S1 xs2 ps2 R2 hI2
                    · have h4 : sp_par q xs.length < 4 := by omega
                      have hpa := pv_part (G := G) hi hw (d + 2 * m + 1) h (by omega) hI h4 (fun Q2 hQ2 => by
                        obtain ⟨i1, i2, i3, i4, i5, i6, i7, i8, i9, i10, i11, i12⟩ := hI
                        have e : d + 2 * m + 1 + 1 = (d + 2 * (m - (8 - (op + 1 + sp_size xs)))) + 2 * (8 - (op + 1 + sp_size xs)) + 2 := by omega
                        rw [e]
                        refine ih (8 - (op + 1 + sp_size xs)) (by omega) (op + 1 + sp_size xs) (by omega) F (sp_par q xs.length) (tl.length - R.length) S' ?_ (by omega) i2 i4 (st_dr_g i1 hg) (st_dr_fix i1 hf) (st_dr_td i1 htd) h4 _ Q2 hQ2
                        rw [i6]
                        have := congrArg List.length i10
                        rw [List.length_append] at this
                        simp at hF
                        omega)
                      refine pv_turn hi (d + 2 * (m + 1)) S' h (st_dr_g hI.1 hg) hw hc hk3 h10 (by omega) (R0 := fun S1 => st_dr op S S1 ∧ ∀ p, sp_node q (sp_lka (sp_look g F) g q 3 0 [] L) = some p → 8 < op + p.1.1) (R1 := fun S1 => ∃ xs2 ps2 R2, pv_I g tl op t c q F L S S1 i xs2 ps2 R2 ∧ xs2.length = xs.length + 1) ?_ (fun S1 z => hn z.2 S1 z.1) ?_
                      · have e2 : sp_pI (sp_par q xs.length) = nI (sp_par q xs.length) := by unfold sp_pI; rw [if_neg h10]
                        rw [e2]; exact hpa
                      · rintro S1 ⟨xs2, ps2, R2, hI2, hl2⟩
                        rw [← hl2]
                        exact ihi S1 xs2 ps2 R2 hI2
              obtain ⟨l1, l2⟩ := sp_drop_len j3 (by omega)
              refine loop 3 _ [] [] L ⟨st_dr_tr hdr (st_dr_tr (st_dr_s (Or.inl rfl)) (st_dr_v (Nat.le_refl _))), ?_, ?_, ?_, l2, by rw [l1]; exact j3, ?_, ⟨by simp, fun x z => by cases z⟩, ⟨rfl, fun j x z => by simp at z⟩, by simp, rfl, rfl⟩
              · show upd (upd S.1 9 (nI (pos + 1))) 8 (nI (op + 1)) 8 = _
                rw [pk_us]; rfl
              · show op + 1 + 0 ≤ 8; omega
              · show upd (upd S.1 9 (nI (pos + 1))) 8 (nI (op + 1)) 9 = _
                rw [pk_un (by decide), pk_us, l1]
              · rw [pv_vs.1, pv_vs.2.1, pv_vs.2.2]
                exact sp_beg t c _ _
          · rw [if_neg hqt] at hn
            refine pv_ty hi (d + 2 * m) S _ h hnx hg1 hw hc hx ?_ (hn (fun p z => by cases z) _ hdr)
            intro z
            rw [nI_eq (by have := hwc.1; omega) (by omega)] at z
            exact hqt z
end PAR2
