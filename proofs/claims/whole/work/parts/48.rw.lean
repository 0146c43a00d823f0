/-! ===== the reference's own cells over a heap =====
A: where the cells are: 0 the object, 1 owners, 2 parameters, 3 conditions, 4 tape, 5 codes, 6 sizes, 7 heights, 8 counts, 9 rows, 10 scratch, 11 reduced. R: the object's numbers by their place, the rows of ints by their cell, the rows of codes -/
abbrev rw_S : Type := (Nat → Int32) × (Nat → Nat → Int32) × (Nat → Option Nat)
/-- where the reference's cells are, where the class's are, what the class's hold -/
abbrev rw_Ad : Type := (Nat → Nat) × (cs_K → Nat) × cs_S
/-- an address that is none of theirs -/
def rw_fz (A : rw_Ad) (a : Nat) : Prop := (∀ i, i < 12 → A.1 i ≠ a) ∧ ∀ k ∈ cs_keys, A.2.1 k ≠ a
abbrev rw_obj (A : rw_Ad) (R : rw_S) : ax_E := .inr (7, [.int (R.1 0), .int (R.1 1), .int (R.1 2), .int (R.1 3), .int (R.1 4), .ref (A.1 1), .ref (A.1 2), .ref (A.1 3), .int (R.1 8), .ref (A.1 4), .int (R.1 10), .int (R.1 11), .int (R.1 12), .int (R.1 13), .int (R.1 14), .ref (A.1 5), .ref (A.1 6), .ref (A.1 7), .ref (A.1 8), .ref (A.1 9), .int (R.1 20), .int (R.1 21), .ref (A.1 10), .int (R.1 23), .ref (A.1 11)])
def rw_l (A : rw_Ad) (R : rw_S) : List (Nat × ax_E) := [(A.1 0, rw_obj A R), (A.1 1, .inl (0, 6, .inl (R.2.1 1))), (A.1 2, .inl (0, 18, .inl (R.2.1 2))), (A.1 3, .inl (0, 6, .inl (R.2.1 3))), (A.1 4, .inl (0, 40, .inl (R.2.1 4))), (A.1 5, .inl (4, 300, .inr (.inr (.inr (.inr R.2.2))))), (A.1 6, .inl (0, 300, .inl (R.2.1 6))), (A.1 7, .inl (0, 300, .inl (R.2.1 7))), (A.1 8, .inl (0, 4, .inl (R.2.1 8))), (A.1 9, .inl (0, 1200, .inl (R.2.1 9))), (A.1 10, .inl (0, 40, .inl (R.2.1 10))), (A.1 11, .inl (0, 1200, .inl (R.2.1 11)))]
def rw_cl (A : rw_Ad) (h : ax_H) : ax_H := cs_O A.2.1 A.2.2 h
def rw_O (A : rw_Ad) (R : rw_S) (h : ax_H) : ax_H := ax_w (rw_cl A h) (rw_l A R)
def rw_nd (A : rw_Ad) : Prop := ([A.1 0, A.1 1, A.1 2, A.1 3, A.1 4, A.1 5, A.1 6, A.1 7, A.1 8, A.1 9, A.1 10, A.1 11] : List Nat).Nodup
def rw_setS (R : rw_S) (i : Nat) (x : Int32) : rw_S := (upd R.1 i x, R.2)
def rw_setA (R : rw_S) (i : Nat) (f : Nat → Int32) : rw_S := (R.1, va_up R.2.1 i f, R.2.2)
def rw_setC (R : rw_S) (f : Nat → Option Nat) : rw_S := (R.1, R.2.1, f)
/-- more cells than before -/
def hx_le (h h' : ax_H) : Prop := ∀ a o, h a = some o → h' a = some o
theorem hx_rfl (h : ax_H) : hx_le h h := fun _ _ z => z
theorem hx_tr {h1 h2 h3 : ax_H} (a : hx_le h1 h2) (b : hx_le h2 h3) : hx_le h1 h3 := fun x o z => b x o (a x o z)
theorem hx_up {h : ax_H} {q : Nat} {o : ax_E} (hq : h q = none) : hx_le h (va_up h q (some o)) := fun x p z => by
  rw [ax_up_n (fun e => by rw [e, hq] at z; cases z)]; exact z
/-- a cell beside the reference's own -/
def rw_at (A : rw_Ad) (h : ax_H) (a : Nat) (o : ax_E) : Prop := h a = some o ∧ rw_fz A a
theorem rw_at_le {A : rw_Ad} {h h' : ax_H} {a : Nat} {o : ax_E} (hl : hx_le h h') (ha : rw_at A h a o) : rw_at A h' a o := ⟨hl _ _ ha.1, ha.2⟩
theorem rw_keys {A : rw_Ad} {R : rw_S} {a : Nat} (hf : rw_fz A a) : a ∉ (rw_l A R).map (fun q => q.1) := by
  have ha := hf.1
  show a ∉ [A.1 0, A.1 1, A.1 2, A.1 3, A.1 4, A.1 5, A.1 6, A.1 7, A.1 8, A.1 9, A.1 10, A.1 11]
  simp only [List.mem_cons, List.not_mem_nil, or_false]
  rintro (z | z | z | z | z | z | z | z | z | z | z | z)
  · exact ha 0 (by decide) z.symm
  · exact ha 1 (by decide) z.symm
  · exact ha 2 (by decide) z.symm
  · exact ha 3 (by decide) z.symm
  · exact ha 4 (by decide) z.symm
  · exact ha 5 (by decide) z.symm
  · exact ha 6 (by decide) z.symm
  · exact ha 7 (by decide) z.symm
  · exact ha 8 (by decide) z.symm
  · exact ha 9 (by decide) z.symm
  · exact ha 10 (by decide) z.symm
  · exact ha 11 (by decide) z.symm
theorem rw_clo {A : rw_Ad} {h : ax_H} {a : Nat} (hf : rw_fz A a) : rw_cl A h a = h a := by
  unfold rw_cl cs_O
  rw [List.find?_eq_none.mpr (fun k hk => by simpa using hf.2 k hk)]
theorem rw_clu {A : rw_Ad} {h : ax_H} {a : Nat} {o : Option ax_E} (hf : rw_fz A a) : va_up (rw_cl A h) a o = rw_cl A (va_up h a o) := by
  funext x
  by_cases hx : x = a
  · rw [hx, ax_up_s, rw_clo hf, ax_up_s]
  · rw [ax_up_n hx]
    unfold rw_cl cs_O
    cases cs_keys.find? (fun k => A.2.1 k == x) with
    | some k => rfl
    | none => exact (ax_up_n hx).symm
theorem rw_out {A : rw_Ad} {R : rw_S} {h : ax_H} {a : Nat} (ha : rw_fz A a) : rw_O A R h a = h a := (ax_w_ne (rw_keys ha)).trans (rw_clo ha)
theorem rw_rd {A : rw_Ad} {R : rw_S} {h : ax_H} {a : Nat} {o : ax_E} (ha : rw_at A h a o) : rw_O A R h a = some o := (rw_out ha.2).trans ha.1
theorem rw_g0 {A : rw_Ad} (hA : rw_nd A) {R : rw_S} {h : ax_H} : rw_O A R h (A.1 0) = some (rw_obj A R) := ax_w_get (h := rw_cl A h) (l := rw_l A R) hA (i := 0) rfl
theorem rw_g1 {A : rw_Ad} (hA : rw_nd A) {R : rw_S} {h : ax_H} : rw_O A R h (A.1 1) = some (.inl (0, 6, .inl (R.2.1 1))) := ax_w_get (h := rw_cl A h) (l := rw_l A R) hA (i := 1) rfl
theorem rw_g2 {A : rw_Ad} (hA : rw_nd A) {R : rw_S} {h : ax_H} : rw_O A R h (A.1 2) = some (.inl (0, 18, .inl (R.2.1 2))) := ax_w_get (h := rw_cl A h) (l := rw_l A R) hA (i := 2) rfl
theorem rw_g3 {A : rw_Ad} (hA : rw_nd A) {R : rw_S} {h : ax_H} : rw_O A R h (A.1 3) = some (.inl (0, 6, .inl (R.2.1 3))) := ax_w_get (h := rw_cl A h) (l := rw_l A R) hA (i := 3) rfl
theorem rw_g4 {A : rw_Ad} (hA : rw_nd A) {R : rw_S} {h : ax_H} : rw_O A R h (A.1 4) = some (.inl (0, 40, .inl (R.2.1 4))) := ax_w_get (h := rw_cl A h) (l := rw_l A R) hA (i := 4) rfl
theorem rw_g5 {A : rw_Ad} (hA : rw_nd A) {R : rw_S} {h : ax_H} : rw_O A R h (A.1 5) = some (.inl (4, 300, .inr (.inr (.inr (.inr R.2.2))))) := ax_w_get (h := rw_cl A h) (l := rw_l A R) hA (i := 5) rfl
theorem rw_g6 {A : rw_Ad} (hA : rw_nd A) {R : rw_S} {h : ax_H} : rw_O A R h (A.1 6) = some (.inl (0, 300, .inl (R.2.1 6))) := ax_w_get (h := rw_cl A h) (l := rw_l A R) hA (i := 6) rfl
theorem rw_g7 {A : rw_Ad} (hA : rw_nd A) {R : rw_S} {h : ax_H} : rw_O A R h (A.1 7) = some (.inl (0, 300, .inl (R.2.1 7))) := ax_w_get (h := rw_cl A h) (l := rw_l A R) hA (i := 7) rfl
theorem rw_g8 {A : rw_Ad} (hA : rw_nd A) {R : rw_S} {h : ax_H} : rw_O A R h (A.1 8) = some (.inl (0, 4, .inl (R.2.1 8))) := ax_w_get (h := rw_cl A h) (l := rw_l A R) hA (i := 8) rfl
theorem rw_g9 {A : rw_Ad} (hA : rw_nd A) {R : rw_S} {h : ax_H} : rw_O A R h (A.1 9) = some (.inl (0, 1200, .inl (R.2.1 9))) := ax_w_get (h := rw_cl A h) (l := rw_l A R) hA (i := 9) rfl
theorem rw_g10 {A : rw_Ad} (hA : rw_nd A) {R : rw_S} {h : ax_H} : rw_O A R h (A.1 10) = some (.inl (0, 40, .inl (R.2.1 10))) := ax_w_get (h := rw_cl A h) (l := rw_l A R) hA (i := 10) rfl
theorem rw_g11 {A : rw_Ad} (hA : rw_nd A) {R : rw_S} {h : ax_H} : rw_O A R h (A.1 11) = some (.inl (0, 1200, .inl (R.2.1 11))) := ax_w_get (h := rw_cl A h) (l := rw_l A R) hA (i := 11) rfl
theorem rw_new {A : rw_Ad} {R : rw_S} {h : ax_H} {q : Nat} (hA : rw_nd A) (hq : rw_O A R h q = none) : rw_fz A q ∧ h q = none := by
  have h1 : ∀ i, i < 12 → A.1 i ≠ q := by
    intro i hi e
    subst e
    rcases (show i = 0 ∨ i = 1 ∨ i = 2 ∨ i = 3 ∨ i = 4 ∨ i = 5 ∨ i = 6 ∨ i = 7 ∨ i = 8 ∨ i = 9 ∨ i = 10 ∨ i = 11 by omega) with rfl | rfl | rfl | rfl | rfl | rfl | rfl | rfl | rfl | rfl | rfl | rfl
    · rw [rw_g0 hA] at hq; cases hq
    · rw [rw_g1 hA] at hq; cases hq
    · rw [rw_g2 hA] at hq; cases hq
    · rw [rw_g3 hA] at hq; cases hq
    · rw [rw_g4 hA] at hq; cases hq
    · rw [rw_g5 hA] at hq; cases hq
    · rw [rw_g6 hA] at hq; cases hq
    · rw [rw_g7 hA] at hq; cases hq
    · rw [rw_g8 hA] at hq; cases hq
    · rw [rw_g9 hA] at hq; cases hq
    · rw [rw_g10 hA] at hq; cases hq
    · rw [rw_g11 hA] at hq; cases hq
  have hn : q ∉ (rw_l A R).map (fun x => x.1) := by
    show q ∉ [A.1 0, A.1 1, A.1 2, A.1 3, A.1 4, A.1 5, A.1 6, A.1 7, A.1 8, A.1 9, A.1 10, A.1 11]
    simp only [List.mem_cons, List.not_mem_nil, or_false]
    rintro (z | z | z | z | z | z | z | z | z | z | z | z)
    · exact h1 0 (by decide) z.symm
    · exact h1 1 (by decide) z.symm
    · exact h1 2 (by decide) z.symm
    · exact h1 3 (by decide) z.symm
    · exact h1 4 (by decide) z.symm
    · exact h1 5 (by decide) z.symm
    · exact h1 6 (by decide) z.symm
    · exact h1 7 (by decide) z.symm
    · exact h1 8 (by decide) z.symm
    · exact h1 9 (by decide) z.symm
    · exact h1 10 (by decide) z.symm
    · exact h1 11 (by decide) z.symm
  have hc : rw_cl A h q = none := (ax_w_ne hn).symm.trans hq
  have h2 : ∀ k ∈ cs_keys, A.2.1 k ≠ q := by
    intro k hk e
    unfold rw_cl cs_O at hc
    cases hf : cs_keys.find? (fun k => A.2.1 k == q) with
    | some k => rw [hf] at hc; cases hc
    | none =>
      have := List.find?_eq_none.mp hf k hk
      simp [e] at this
  have hfr : rw_fz A q := ⟨h1, h2⟩
  exact ⟨hfr, (rw_clo hfr).symm.trans hc⟩
theorem ax_w_up {h : ax_H} {l : List (Nat × ax_E)} {a : Nat} {o : Option ax_E} (hn : a ∉ l.map (fun q => q.1)) : va_up (ax_w h l) a o = ax_w (va_up h a o) l := by
  funext x
  by_cases hx : x = a
  · subst hx
    rw [ax_up_s, ax_w_ne hn, ax_up_s]
  · rw [ax_up_n hx]
    unfold ax_w
    cases l.find? (fun q => q.1 == x) with
    | some q => rfl
    | none => exact (ax_up_n hx).symm
theorem rw_up {A : rw_Ad} {R : rw_S} {h : ax_H} {a : Nat} {o : Option ax_E} (ha : rw_fz A a) : va_up (rw_O A R h) a o = rw_O A R (va_up h a o) := (ax_w_up (rw_keys ha)).trans (congrArg (fun z => ax_w z (rw_l A R)) (rw_clu ha))
theorem rw_ps0 {A : rw_Ad} (hA : rw_nd A) {R : rw_S} {h : ax_H} {x : Int32} : va_up (rw_O A R h) (A.1 0) (some (.inr (7, ([.int (R.1 0), .int (R.1 1), .int (R.1 2), .int (R.1 3), .int (R.1 4), .ref (A.1 1), .ref (A.1 2), .ref (A.1 3), .int (R.1 8), .ref (A.1 4), .int (R.1 10), .int (R.1 11), .int (R.1 12), .int (R.1 13), .int (R.1 14), .ref (A.1 5), .ref (A.1 6), .ref (A.1 7), .ref (A.1 8), .ref (A.1 9), .int (R.1 20), .int (R.1 21), .ref (A.1 10), .int (R.1 23), .ref (A.1 11)] : List Value).set 0 (.int x)))) = rw_O A (rw_setS R 0 x) h := ax_w_set (h := rw_cl A h) (l := rw_l A R) _ hA (i := 0) rfl
theorem rw_ps1 {A : rw_Ad} (hA : rw_nd A) {R : rw_S} {h : ax_H} {x : Int32} : va_up (rw_O A R h) (A.1 0) (some (.inr (7, ([.int (R.1 0), .int (R.1 1), .int (R.1 2), .int (R.1 3), .int (R.1 4), .ref (A.1 1), .ref (A.1 2), .ref (A.1 3), .int (R.1 8), .ref (A.1 4), .int (R.1 10), .int (R.1 11), .int (R.1 12), .int (R.1 13), .int (R.1 14), .ref (A.1 5), .ref (A.1 6), .ref (A.1 7), .ref (A.1 8), .ref (A.1 9), .int (R.1 20), .int (R.1 21), .ref (A.1 10), .int (R.1 23), .ref (A.1 11)] : List Value).set 1 (.int x)))) = rw_O A (rw_setS R 1 x) h := ax_w_set (h := rw_cl A h) (l := rw_l A R) _ hA (i := 0) rfl
theorem rw_ps2 {A : rw_Ad} (hA : rw_nd A) {R : rw_S} {h : ax_H} {x : Int32} : va_up (rw_O A R h) (A.1 0) (some (.inr (7, ([.int (R.1 0), .int (R.1 1), .int (R.1 2), .int (R.1 3), .int (R.1 4), .ref (A.1 1), .ref (A.1 2), .ref (A.1 3), .int (R.1 8), .ref (A.1 4), .int (R.1 10), .int (R.1 11), .int (R.1 12), .int (R.1 13), .int (R.1 14), .ref (A.1 5), .ref (A.1 6), .ref (A.1 7), .ref (A.1 8), .ref (A.1 9), .int (R.1 20), .int (R.1 21), .ref (A.1 10), .int (R.1 23), .ref (A.1 11)] : List Value).set 2 (.int x)))) = rw_O A (rw_setS R 2 x) h := ax_w_set (h := rw_cl A h) (l := rw_l A R) _ hA (i := 0) rfl
theorem rw_ps3 {A : rw_Ad} (hA : rw_nd A) {R : rw_S} {h : ax_H} {x : Int32} : va_up (rw_O A R h) (A.1 0) (some (.inr (7, ([.int (R.1 0), .int (R.1 1), .int (R.1 2), .int (R.1 3), .int (R.1 4), .ref (A.1 1), .ref (A.1 2), .ref (A.1 3), .int (R.1 8), .ref (A.1 4), .int (R.1 10), .int (R.1 11), .int (R.1 12), .int (R.1 13), .int (R.1 14), .ref (A.1 5), .ref (A.1 6), .ref (A.1 7), .ref (A.1 8), .ref (A.1 9), .int (R.1 20), .int (R.1 21), .ref (A.1 10), .int (R.1 23), .ref (A.1 11)] : List Value).set 3 (.int x)))) = rw_O A (rw_setS R 3 x) h := ax_w_set (h := rw_cl A h) (l := rw_l A R) _ hA (i := 0) rfl
theorem rw_ps4 {A : rw_Ad} (hA : rw_nd A) {R : rw_S} {h : ax_H} {x : Int32} : va_up (rw_O A R h) (A.1 0) (some (.inr (7, ([.int (R.1 0), .int (R.1 1), .int (R.1 2), .int (R.1 3), .int (R.1 4), .ref (A.1 1), .ref (A.1 2), .ref (A.1 3), .int (R.1 8), .ref (A.1 4), .int (R.1 10), .int (R.1 11), .int (R.1 12), .int (R.1 13), .int (R.1 14), .ref (A.1 5), .ref (A.1 6), .ref (A.1 7), .ref (A.1 8), .ref (A.1 9), .int (R.1 20), .int (R.1 21), .ref (A.1 10), .int (R.1 23), .ref (A.1 11)] : List Value).set 4 (.int x)))) = rw_O A (rw_setS R 4 x) h := ax_w_set (h := rw_cl A h) (l := rw_l A R) _ hA (i := 0) rfl
theorem rw_ps8 {A : rw_Ad} (hA : rw_nd A) {R : rw_S} {h : ax_H} {x : Int32} : va_up (rw_O A R h) (A.1 0) (some (.inr (7, ([.int (R.1 0), .int (R.1 1), .int (R.1 2), .int (R.1 3), .int (R.1 4), .ref (A.1 1), .ref (A.1 2), .ref (A.1 3), .int (R.1 8), .ref (A.1 4), .int (R.1 10), .int (R.1 11), .int (R.1 12), .int (R.1 13), .int (R.1 14), .ref (A.1 5), .ref (A.1 6), .ref (A.1 7), .ref (A.1 8), .ref (A.1 9), .int (R.1 20), .int (R.1 21), .ref (A.1 10), .int (R.1 23), .ref (A.1 11)] : List Value).set 8 (.int x)))) = rw_O A (rw_setS R 8 x) h := ax_w_set (h := rw_cl A h) (l := rw_l A R) _ hA (i := 0) rfl
theorem rw_ps10 {A : rw_Ad} (hA : rw_nd A) {R : rw_S} {h : ax_H} {x : Int32} : va_up (rw_O A R h) (A.1 0) (some (.inr (7, ([.int (R.1 0), .int (R.1 1), .int (R.1 2), .int (R.1 3), .int (R.1 4), .ref (A.1 1), .ref (A.1 2), .ref (A.1 3), .int (R.1 8), .ref (A.1 4), .int (R.1 10), .int (R.1 11), .int (R.1 12), .int (R.1 13), .int (R.1 14), .ref (A.1 5), .ref (A.1 6), .ref (A.1 7), .ref (A.1 8), .ref (A.1 9), .int (R.1 20), .int (R.1 21), .ref (A.1 10), .int (R.1 23), .ref (A.1 11)] : List Value).set 10 (.int x)))) = rw_O A (rw_setS R 10 x) h := ax_w_set (h := rw_cl A h) (l := rw_l A R) _ hA (i := 0) rfl
theorem rw_ps11 {A : rw_Ad} (hA : rw_nd A) {R : rw_S} {h : ax_H} {x : Int32} : va_up (rw_O A R h) (A.1 0) (some (.inr (7, ([.int (R.1 0), .int (R.1 1), .int (R.1 2), .int (R.1 3), .int (R.1 4), .ref (A.1 1), .ref (A.1 2), .ref (A.1 3), .int (R.1 8), .ref (A.1 4), .int (R.1 10), .int (R.1 11), .int (R.1 12), .int (R.1 13), .int (R.1 14), .ref (A.1 5), .ref (A.1 6), .ref (A.1 7), .ref (A.1 8), .ref (A.1 9), .int (R.1 20), .int (R.1 21), .ref (A.1 10), .int (R.1 23), .ref (A.1 11)] : List Value).set 11 (.int x)))) = rw_O A (rw_setS R 11 x) h := ax_w_set (h := rw_cl A h) (l := rw_l A R) _ hA (i := 0) rfl
theorem rw_ps12 {A : rw_Ad} (hA : rw_nd A) {R : rw_S} {h : ax_H} {x : Int32} : va_up (rw_O A R h) (A.1 0) (some (.inr (7, ([.int (R.1 0), .int (R.1 1), .int (R.1 2), .int (R.1 3), .int (R.1 4), .ref (A.1 1), .ref (A.1 2), .ref (A.1 3), .int (R.1 8), .ref (A.1 4), .int (R.1 10), .int (R.1 11), .int (R.1 12), .int (R.1 13), .int (R.1 14), .ref (A.1 5), .ref (A.1 6), .ref (A.1 7), .ref (A.1 8), .ref (A.1 9), .int (R.1 20), .int (R.1 21), .ref (A.1 10), .int (R.1 23), .ref (A.1 11)] : List Value).set 12 (.int x)))) = rw_O A (rw_setS R 12 x) h := ax_w_set (h := rw_cl A h) (l := rw_l A R) _ hA (i := 0) rfl
theorem rw_ps13 {A : rw_Ad} (hA : rw_nd A) {R : rw_S} {h : ax_H} {x : Int32} : va_up (rw_O A R h) (A.1 0) (some (.inr (7, ([.int (R.1 0), .int (R.1 1), .int (R.1 2), .int (R.1 3), .int (R.1 4), .ref (A.1 1), .ref (A.1 2), .ref (A.1 3), .int (R.1 8), .ref (A.1 4), .int (R.1 10), .int (R.1 11), .int (R.1 12), .int (R.1 13), .int (R.1 14), .ref (A.1 5), .ref (A.1 6), .ref (A.1 7), .ref (A.1 8), .ref (A.1 9), .int (R.1 20), .int (R.1 21), .ref (A.1 10), .int (R.1 23), .ref (A.1 11)] : List Value).set 13 (.int x)))) = rw_O A (rw_setS R 13 x) h := ax_w_set (h := rw_cl A h) (l := rw_l A R) _ hA (i := 0) rfl
theorem rw_ps14 {A : rw_Ad} (hA : rw_nd A) {R : rw_S} {h : ax_H} {x : Int32} : va_up (rw_O A R h) (A.1 0) (some (.inr (7, ([.int (R.1 0), .int (R.1 1), .int (R.1 2), .int (R.1 3), .int (R.1 4), .ref (A.1 1), .ref (A.1 2), .ref (A.1 3), .int (R.1 8), .ref (A.1 4), .int (R.1 10), .int (R.1 11), .int (R.1 12), .int (R.1 13), .int (R.1 14), .ref (A.1 5), .ref (A.1 6), .ref (A.1 7), .ref (A.1 8), .ref (A.1 9), .int (R.1 20), .int (R.1 21), .ref (A.1 10), .int (R.1 23), .ref (A.1 11)] : List Value).set 14 (.int x)))) = rw_O A (rw_setS R 14 x) h := ax_w_set (h := rw_cl A h) (l := rw_l A R) _ hA (i := 0) rfl
theorem rw_ps20 {A : rw_Ad} (hA : rw_nd A) {R : rw_S} {h : ax_H} {x : Int32} : va_up (rw_O A R h) (A.1 0) (some (.inr (7, ([.int (R.1 0), .int (R.1 1), .int (R.1 2), .int (R.1 3), .int (R.1 4), .ref (A.1 1), .ref (A.1 2), .ref (A.1 3), .int (R.1 8), .ref (A.1 4), .int (R.1 10), .int (R.1 11), .int (R.1 12), .int (R.1 13), .int (R.1 14), .ref (A.1 5), .ref (A.1 6), .ref (A.1 7), .ref (A.1 8), .ref (A.1 9), .int (R.1 20), .int (R.1 21), .ref (A.1 10), .int (R.1 23), .ref (A.1 11)] : List Value).set 20 (.int x)))) = rw_O A (rw_setS R 20 x) h := ax_w_set (h := rw_cl A h) (l := rw_l A R) _ hA (i := 0) rfl
theorem rw_ps21 {A : rw_Ad} (hA : rw_nd A) {R : rw_S} {h : ax_H} {x : Int32} : va_up (rw_O A R h) (A.1 0) (some (.inr (7, ([.int (R.1 0), .int (R.1 1), .int (R.1 2), .int (R.1 3), .int (R.1 4), .ref (A.1 1), .ref (A.1 2), .ref (A.1 3), .int (R.1 8), .ref (A.1 4), .int (R.1 10), .int (R.1 11), .int (R.1 12), .int (R.1 13), .int (R.1 14), .ref (A.1 5), .ref (A.1 6), .ref (A.1 7), .ref (A.1 8), .ref (A.1 9), .int (R.1 20), .int (R.1 21), .ref (A.1 10), .int (R.1 23), .ref (A.1 11)] : List Value).set 21 (.int x)))) = rw_O A (rw_setS R 21 x) h := ax_w_set (h := rw_cl A h) (l := rw_l A R) _ hA (i := 0) rfl
theorem rw_ps23 {A : rw_Ad} (hA : rw_nd A) {R : rw_S} {h : ax_H} {x : Int32} : va_up (rw_O A R h) (A.1 0) (some (.inr (7, ([.int (R.1 0), .int (R.1 1), .int (R.1 2), .int (R.1 3), .int (R.1 4), .ref (A.1 1), .ref (A.1 2), .ref (A.1 3), .int (R.1 8), .ref (A.1 4), .int (R.1 10), .int (R.1 11), .int (R.1 12), .int (R.1 13), .int (R.1 14), .ref (A.1 5), .ref (A.1 6), .ref (A.1 7), .ref (A.1 8), .ref (A.1 9), .int (R.1 20), .int (R.1 21), .ref (A.1 10), .int (R.1 23), .ref (A.1 11)] : List Value).set 23 (.int x)))) = rw_O A (rw_setS R 23 x) h := ax_w_set (h := rw_cl A h) (l := rw_l A R) _ hA (i := 0) rfl
theorem rw_pa1 {A : rw_Ad} (hA : rw_nd A) {R : rw_S} {h : ax_H} {f : Nat → Int32} : va_up (rw_O A R h) (A.1 1) (some (.inl (0, 6, .inl f))) = rw_O A (rw_setA R 1 f) h := ax_w_set (h := rw_cl A h) (l := rw_l A R) _ hA (i := 1) rfl
theorem rw_pa2 {A : rw_Ad} (hA : rw_nd A) {R : rw_S} {h : ax_H} {f : Nat → Int32} : va_up (rw_O A R h) (A.1 2) (some (.inl (0, 18, .inl f))) = rw_O A (rw_setA R 2 f) h := ax_w_set (h := rw_cl A h) (l := rw_l A R) _ hA (i := 2) rfl
theorem rw_pa3 {A : rw_Ad} (hA : rw_nd A) {R : rw_S} {h : ax_H} {f : Nat → Int32} : va_up (rw_O A R h) (A.1 3) (some (.inl (0, 6, .inl f))) = rw_O A (rw_setA R 3 f) h := ax_w_set (h := rw_cl A h) (l := rw_l A R) _ hA (i := 3) rfl
theorem rw_pa4 {A : rw_Ad} (hA : rw_nd A) {R : rw_S} {h : ax_H} {f : Nat → Int32} : va_up (rw_O A R h) (A.1 4) (some (.inl (0, 40, .inl f))) = rw_O A (rw_setA R 4 f) h := ax_w_set (h := rw_cl A h) (l := rw_l A R) _ hA (i := 4) rfl
theorem rw_pc {A : rw_Ad} (hA : rw_nd A) {R : rw_S} {h : ax_H} {f : Nat → Option Nat} : va_up (rw_O A R h) (A.1 5) (some (.inl (4, 300, .inr (.inr (.inr (.inr f)))))) = rw_O A (rw_setC R f) h := ax_w_set (h := rw_cl A h) (l := rw_l A R) _ hA (i := 5) rfl
theorem rw_pa6 {A : rw_Ad} (hA : rw_nd A) {R : rw_S} {h : ax_H} {f : Nat → Int32} : va_up (rw_O A R h) (A.1 6) (some (.inl (0, 300, .inl f))) = rw_O A (rw_setA R 6 f) h := ax_w_set (h := rw_cl A h) (l := rw_l A R) _ hA (i := 6) rfl
theorem rw_pa7 {A : rw_Ad} (hA : rw_nd A) {R : rw_S} {h : ax_H} {f : Nat → Int32} : va_up (rw_O A R h) (A.1 7) (some (.inl (0, 300, .inl f))) = rw_O A (rw_setA R 7 f) h := ax_w_set (h := rw_cl A h) (l := rw_l A R) _ hA (i := 7) rfl
theorem rw_pa8 {A : rw_Ad} (hA : rw_nd A) {R : rw_S} {h : ax_H} {f : Nat → Int32} : va_up (rw_O A R h) (A.1 8) (some (.inl (0, 4, .inl f))) = rw_O A (rw_setA R 8 f) h := ax_w_set (h := rw_cl A h) (l := rw_l A R) _ hA (i := 8) rfl
theorem rw_pa9 {A : rw_Ad} (hA : rw_nd A) {R : rw_S} {h : ax_H} {f : Nat → Int32} : va_up (rw_O A R h) (A.1 9) (some (.inl (0, 1200, .inl f))) = rw_O A (rw_setA R 9 f) h := ax_w_set (h := rw_cl A h) (l := rw_l A R) _ hA (i := 9) rfl
theorem rw_pa10 {A : rw_Ad} (hA : rw_nd A) {R : rw_S} {h : ax_H} {f : Nat → Int32} : va_up (rw_O A R h) (A.1 10) (some (.inl (0, 40, .inl f))) = rw_O A (rw_setA R 10 f) h := ax_w_set (h := rw_cl A h) (l := rw_l A R) _ hA (i := 10) rfl
theorem rw_pa11 {A : rw_Ad} (hA : rw_nd A) {R : rw_S} {h : ax_H} {f : Nat → Int32} : va_up (rw_O A R h) (A.1 11) (some (.inl (0, 1200, .inl f))) = rw_O A (rw_setA R 11 f) h := ax_w_set (h := rw_cl A h) (l := rw_l A R) _ hA (i := 11) rfl
theorem ax_raald {G : ax_G} {M : ax_M} {d mc ms : Nat} {Q : ax_P} {pc : Nat} {lv : ax_L} {st : List Value} {h : ax_H} {cn sn : Nat} {a n w : Nat} {f : Nat → Option Nat} {i : Int32} (hd : decode M.2.1 pc = .ok (.aaload, 1)) (ha : h a = some (.inl (4, n, .inr (.inr (.inr (.inr f)))))) (hi : vp_in i n) (hw : f i.toNatClampNeg = some w) (k : AW G M d mc ms Q (pc + 1) lv (.ref w :: st) h cn sn) : AW G M d mc ms Q pc lv (.int i :: .ref a :: st) h cn sn := ax_aald4 hd ha hi (by rw [hw]; exact k)
/-- the reference's rows hold the grammar -/
def rw_gr (R : rw_S) (g : sp_G) : Prop := R.1 1 = nI g.1 ∧ R.1 2 = nI g.2.1 ∧ R.1 3 = nI g.2.2.1 ∧ R.1 4 = nI g.2.2.2.length ∧
  ∀ (c : Nat) (q : sp_C), g.2.2.2[c]? = some q → R.2.1 1 c = nI q.1 ∧ (∀ k, k < 3 → R.2.1 2 (3 * c + k) = sp_pI (sp_par q k)) ∧ R.2.1 3 c = nI q.2.2.2.2
section RW
variable {G : ax_G} {A : rw_Ad}

set_option maxRecDepth 100000 in
set_option maxHeartbeats 4000000 in
theorem r_isIn (d : Nat) (h : ax_H) (v a b : Int32) : AW G mX7_isIn d 0 0 (fun r h1 => r = .inl (some (.int (if a ≤ v ∧ v ≤ b then 1 else 0))) ∧ h1 = h) 0 [(0, .int v), (1, .int a), (2, .int b)] [] h 0 0 := by
  by_cases c1 : v < a
  · rw [if_neg (fun z => i_le_not z.1 c1)]
    refine ax_iload_n dX7_isIn_0 rfl ?_
    refine ax_iload_n dX7_isIn_1 rfl ?_
    refine ax_icmp_lt (tgt := 14) dX7_isIn_2 (by decide) (fun _ => ?_) (fun z => absurd c1 z)
    refine ax_iconst (v := 0) dX7_isIn_14 (by decide) ?_
    exact ax_iret (st := []) dX7_isIn_15 rfl rfl ⟨rfl, rfl⟩
  · by_cases c2 : b < v
    · rw [if_neg (fun z => i_le_not z.2 c2)]
      refine ax_iload_n dX7_isIn_0 rfl ?_
      refine ax_iload_n dX7_isIn_1 rfl ?_
      refine ax_icmp_lt (tgt := 14) dX7_isIn_2 (by decide) (fun z => absurd z c1) (fun _ => ?_)
      refine ax_iload_n dX7_isIn_5 rfl ?_
      refine ax_iload_n dX7_isIn_6 rfl ?_
      refine ax_icmp_gt (tgt := 14) dX7_isIn_7 (by decide) (fun _ => ?_) (fun z => absurd c2 z)
      refine ax_iconst (v := 0) dX7_isIn_14 (by decide) ?_
      exact ax_iret (st := []) dX7_isIn_15 rfl rfl ⟨rfl, rfl⟩
    · rw [if_pos ⟨i_not_le c1, i_not_le c2⟩]
      refine ax_iload_n dX7_isIn_0 rfl ?_
      refine ax_iload_n dX7_isIn_1 rfl ?_
      refine ax_icmp_lt (tgt := 14) dX7_isIn_2 (by decide) (fun z => absurd z c1) (fun _ => ?_)
      refine ax_iload_n dX7_isIn_5 rfl ?_
      refine ax_iload_n dX7_isIn_6 rfl ?_
      refine ax_icmp_gt (tgt := 14) dX7_isIn_7 (by decide) (fun z => absurd z c2) (fun _ => ?_)
      refine ax_iconst (v := 1) dX7_isIn_10 (by decide) ?_
      refine ax_goto (tgt := 15) dX7_isIn_11 (by decide) ?_
      exact ax_iret (st := []) dX7_isIn_15 rfl rfl ⟨rfl, rfl⟩
set_option maxRecDepth 100000 in
set_option maxHeartbeats 4000000 in
theorem r_isType (hA : rw_nd A) (d : Nat) (R : rw_S) (h : ax_H) (t : Int32) {σ : sp_St} (h3 : R.1 3 = nI σ.1.2.2.1) (h4 : σ.1.2.2.1 ≤ 4) : AW G mX7_isType (d + 1) 0 0 (fun r h1 => r = .inl (some (.int (if po_isT σ t then 1 else 0))) ∧ h1 = rw_O A R h) 0 [(0, .ref (A.1 0)), (1, .int t)] [] (rw_O A R h) 0 0 := by
  have e : (if (0 : Int32) ≤ t ∧ t ≤ nI σ.1.2.2.1 - 1 then (1 : Int32) else 0) = (if po_isT σ t then 1 else 0) := by
    have ht : (nI σ.1.2.2.1 - 1).toInt = (σ.1.2.2.1 : Int) - 1 := by
      generalize σ.1.2.2.1 = n at h4
      rcases (show n = 0 ∨ n = 1 ∨ n = 2 ∨ n = 3 ∨ n = 4 by omega) with rfl | rfl | rfl | rfl | rfl <;> decide
    have hiff : ((0 : Int32) ≤ t ∧ t ≤ nI σ.1.2.2.1 - 1) ↔ po_isT σ t = true := by
      unfold po_isT
      rw [decide_eq_true_iff, Int32.le_iff_toInt_le, Int32.le_iff_toInt_le, Int32.lt_iff_toInt_lt, Int32.lt_iff_toInt_lt, ht, nI_toInt (by omega), show (0 : Int32).toInt = 0 by decide]
      omega
    by_cases c1 : (0 : Int32) ≤ t ∧ t ≤ nI σ.1.2.2.1 - 1
    · rw [if_pos c1, if_pos (hiff.mp c1)]
    · rw [if_neg c1, if_neg (fun z => c1 (hiff.mpr z))]
  refine ax_iload_n dX7_isType_0 rfl ?_
  refine ax_iconst (v := 0) dX7_isType_1 (by decide) ?_
  refine ax_aload_n dX7_isType_2 rfl ?_
  refine ax_get (v := .int (nI σ.1.2.2.1)) dX7_isType_3 fkX7_55 (rw_g0 hA) (congrArg (fun z => some (Value.int z)) (h3)) ?_
  refine ax_iconst (v := 1) dX7_isType_6 (by decide) ?_
  refine ax_isub dX7_isType_7 ?_
  refine ax_callS (av := [.int t, .int 0, .int ((nI σ.1.2.2.1) - 1)]) (rest := []) (mc' := 0) (ms' := 0) dX7_isType_8 rfl lkX7_58 rfl (Nat.le_of_ble_eq_true rfl) (Nat.le_of_ble_eq_true rfl) (by decide) (by decide) (r_isIn _ _ t 0 (nI σ.1.2.2.1 - 1)) (fun E9 h9 q9 => by cases q9.1) (fun v9 h9 q9 => ?_)
  obtain ⟨e9, rfl⟩ := q9
  cases e9
  rw [e]
  show AW G mX7_isType (d + 1) 0 0 _ 11 [(0, .ref (A.1 0)), (1, .int t)] [.int (if po_isT σ t then 1 else 0)] (rw_O A R h) 0 0
  exact ax_iret (st := []) dX7_isType_11 rfl (by split <;> rfl) ⟨rfl, rfl⟩
set_option maxRecDepth 100000 in
set_option maxHeartbeats 4000000 in
theorem r_fail (hA : rw_nd A) (d : Nat) (R : rw_S) (h : ax_H) (k : Int32) : AW G mX7_fail d 0 0 (fun r h1 => r = .inl (some (.int 0)) ∧ h1 = rw_O A (rw_setS R 0 k) h) 0 [(0, .ref (A.1 0)), (1, .int k)] [] (rw_O A R h) 0 0 := by
  refine ax_aload_n dX7_fail_0 rfl ?_
  refine ax_iload_n dX7_fail_1 rfl ?_
  refine ax_put dX7_fail_2 fpX7_52 (rw_g0 hA) rfl rfl (Nat.le_of_ble_eq_true rfl) ?_
  refine ax_eqh (rw_ps0 hA) ?_
  refine ax_iconst (v := 0) dX7_fail_5 (by decide) ?_
  exact ax_iret (st := []) dX7_fail_6 rfl rfl ⟨rfl, rfl⟩
set_option maxRecDepth 100000 in
set_option maxHeartbeats 4000000 in
theorem r_change (hA : rw_nd A) (d : Nat) (R : rw_S) (h : ax_H) : AW G mX7_change d 0 0 (fun r h1 => r = .inl none ∧ h1 = rw_O A (rw_setS (rw_setS R 12 0) 10 (-1)) h) 0 [(0, .ref (A.1 0))] [] (rw_O A R h) 0 0 := by
  refine ax_aload_n dX7_change_0 rfl ?_
  refine ax_iconst (v := 0) dX7_change_1 (by decide) ?_
  refine ax_put dX7_change_2 fpX7_62 (rw_g0 hA) rfl rfl (Nat.le_of_ble_eq_true rfl) ?_
  refine ax_eqh (rw_ps12 hA) ?_
  refine ax_aload_n dX7_change_5 rfl ?_
  refine ax_iconst (v := (-1)) dX7_change_6 (by decide) ?_
  refine ax_put dX7_change_7 fpX7_26 (rw_g0 hA) rfl rfl (Nat.le_of_ble_eq_true rfl) ?_
  refine ax_eqh (rw_ps10 hA) ?_
  exact ax_vret (st := []) dX7_change_10 rfl ⟨rfl, rfl⟩
set_option maxRecDepth 100000 in
set_option maxHeartbeats 4000000 in
theorem r_value (hA : rw_nd A) (d : Nat) (R : rw_S) (h : ax_H) {t k : Nat} {w : Int32} (ht : t < 4) (hk : k < 300) (hw : R.2.1 9 (300 * t + k) = w) : AW G mX7_value d 0 0 (fun r h1 => r = .inl (some (.int w)) ∧ h1 = rw_O A R h) 0 [(0, .ref (A.1 0)), (1, .int (nI t)), (2, .int (nI k))] [] (rw_O A R h) 0 0 := by
  refine ax_aload_n dX7_value_0 rfl ?_
  refine ax_get (v := .ref (A.1 9)) dX7_value_1 fkX7_43 (rw_g0 hA) rfl ?_
  refine ax_sipush (v := 300) dX7_value_4 (by decide) ?_
  refine ax_iload_n dX7_value_7 rfl ?_
  refine ax_imul dX7_value_8 ?_
  refine ax_top (y := (nI (300 * t))) ((pk_mul 300 t)) ?_
  refine ax_iload_n dX7_value_9 rfl ?_
  refine ax_iadd dX7_value_10 ?_
  refine ax_top (y := (nI (300 * t + k))) (nI_add _ _) ?_
  refine ax_ialdv (x := w) dX7_value_11 (rw_g9 hA) (nI_in (by omega) (by decide)) (by rw [nI_clamp (by omega)]; exact hw) ?_
  exact ax_iret (st := []) dX7_value_12 rfl rfl ⟨rfl, rfl⟩
end RW
