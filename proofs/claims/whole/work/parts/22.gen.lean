/-! ===== the values, made in their order ===== -/
/-- an entry of the table: type, constructor, arguments -/
abbrev sp_E : Type := Nat × Nat × List sp_X
def sp_att (v : Nat) (e : sp_E) : Nat × Nat × Nat × List Nat := (v, 1 + sp_size e.2.2, 1 + sp_max (sp_hts e.2.2), sp_ints e.2.2)
def sp_cnt (T : List sp_E) (t : Nat) : Nat := T.countP (fun e => e.1 == t)
/-- how many of a type have at most a size -/
def sp_upto (T : List sp_E) (t s : Nat) : Nat := T.countP (fun e => e.1 == t && decide (1 + sp_size e.2.2 ≤ s))
/-- the places of a type's entries, in order -/
def sp_of (T : List sp_E) (t : Nat) : List Nat := (List.range T.length).filter (fun v => match T[v]? with | some e => e.1 == t | none => false)
/-- a table as it can be: arguments are entries ahead -/
def sp_wT (T : List sp_E) : Prop := T.length ≤ 300 ∧ ∀ v e, T[v]? = some e → e.1 < 4 ∧ e.2.2.length ≤ 3 ∧ 1 + sp_size e.2.2 ≤ 8 ∧ sp_max (sp_hts e.2.2) ≤ sp_size e.2.2 ∧ (sp_ints e.2.2).length ≤ 3 * (1 + sp_size e.2.2) ∧ (∀ n ∈ sp_ints e.2.2, n ≤ 5) ∧ (∀ n, .inl n ∈ e.2.2 → n ≤ 5) ∧ ∀ q, .inr q ∈ e.2.2 → ∃ w e', w < v ∧ T[w]? = some e' ∧ q = sp_att w e'
theorem sp_wT_gx {T : List sp_E} (h : sp_wT T) {v : Nat} {e : sp_E} (he : T[v]? = some e) : sp_gx (.inr (sp_att v e)) := by
  obtain ⟨h1, h2, h3, h4, h5, h6, -, -⟩ := h.2 v e he
  refine ⟨?_, ?_, ?_, ?_, ?_, h6⟩
  · show 1 ≤ 1 + _; omega
  · exact h3
  · show 1 ≤ 1 + _; omega
  · show 1 + _ ≤ 8; omega
  · show (sp_ints e.2.2).length ≤ 24; omega
theorem sp_wT_g {T : List sp_E} (h : sp_wT T) {v : Nat} {e : sp_E} (he : T[v]? = some e) : sp_g e.2.2 := by
  obtain ⟨h1, h2, h3, h4, h5, h6, h7, h8⟩ := h.2 v e he
  refine ⟨h2, fun x hx => ?_⟩
  cases x with
  | inl n => exact h7 n hx
  | inr q =>
    obtain ⟨w, e', -, hw, rfl⟩ := h8 q hx
    exact sp_wT_gx h hw
/-- entries put behind a table of at most 300; true: there was one too many -/
def sp_push (p : List sp_E × Bool) (e : sp_E) : List sp_E × Bool := if p.2 then p else if p.1.length = 300 then (p.1, true) else (p.1 ++ [e], false)
def sp_pushes (p : List sp_E × Bool) (l : List sp_E) : List sp_E × Bool := l.foldl sp_push p
theorem sp_pushes_app (p : List sp_E × Bool) (a b : List sp_E) : sp_pushes p (a ++ b) = sp_pushes (sp_pushes p a) b := List.foldl_append
theorem sp_pushes_full (T : List sp_E) (l : List sp_E) : sp_pushes (T, true) l = (T, true) := by
  induction l with
  | nil => rfl
  | cons a r ih =>
    show sp_pushes (sp_push (T, true) a) r = _
    exact ih
/-- whether a part surely clashes (as the class sees it) -/
def sp_clash (k : Nat) (xs : List sp_X) (q : Nat × Nat × Nat × List Nat) : Bool := match k with
  | 1 => !(sp_ints xs).isEmpty && (!q.2.2.2.isEmpty && decide (q.2.2.2.headD 0 ≤ (sp_ints xs).getLastD 0))
  | 3 => !(sp_hts xs).isEmpty && decide (q.2.2.1 ≠ sp_min (sp_hts xs))
  | 4 => !(sp_hts xs).isEmpty && (decide (sp_min (sp_hts xs) + 1 < q.2.2.1) || decide (q.2.2.1 + 1 < sp_min (sp_hts xs)))
  | _ => false
/-- all completions of the arguments xs, as the class makes them: T0 the entries of smaller sizes -/
def sp_ext (T0 : List sp_E) (lo hi : Nat) (q : sp_C) : Nat → List sp_X → Nat → List (List sp_X)
  | 0, _, _ => []
  | n + 1, xs, left =>
    if (if sp_ah q xs.length = 0 then left ≠ 0 else left < sp_ah q xs.length) then []
    else if ((sp_par q xs.length = 10 ∨ q.2.2.2.2 ≠ 5) ∧ sp_cond q.2.2.2.2 xs = false) then []
    else if sp_par q xs.length = 10 then [xs]
    else if sp_par q xs.length = 9 then (List.range' lo (hi + 1 - lo)).flatMap (fun m => sp_ext T0 lo hi q n (xs ++ [.inl m]) left)
    else ((sp_of T0 (sp_par q xs.length)).take (sp_upto T0 (sp_par q xs.length) (left - (sp_ah q xs.length - 1)))).drop (sp_upto T0 (sp_par q xs.length) ((if sp_ah q xs.length = 1 then left else 1) - 1)) |>.flatMap (fun v => match T0[v]? with
      | some e => if sp_clash q.2.2.2.2 xs (sp_att v e) then [] else sp_ext T0 lo hi q n (xs ++ [.inr (sp_att v e)]) (left - (1 + sp_size e.2.2))
      | none => [])
/-- the cells of the stock: fixed rows -/
def st_fix (S : cs_S) : Prop := (∀ j, j < 300 → S.2.2.1 7 j = some j) ∧ (∀ j, j < 4 → S.2.2.1 11 j = some (300 + j)) ∧ (∀ j, j < 8 → S.2.2.1 14 j = some (304 + j))
/-- the cells of the stock hold the table -/
def st_T (S : cs_S) (T : List sp_E) : Prop := S.1 4 = nI T.length ∧ (∀ t, t < 4 → S.2.1 9 t = nI (sp_cnt T t)) ∧ ∀ v e, T[v]? = some e → sp_ok (cs_vf S v) (cs_vn S v) (cs_vp S v) e.1 e.2.1 e.2.2 ∧ cs_vf S v 1 = nI (sp_cnt (T.take v) e.1) ∧ S.2.2.1 8 (e.1 * 300 + sp_cnt (T.take v) e.1) = some v
/-- the ends of the sizes up to s are those of T0 -/
def st_ends (S : cs_S) (T0 : List sp_E) (s : Nat) : Prop := ∀ t z, t < 4 → z ≤ s → S.2.1 10 (9 * t + z) = nI (sp_upto T0 t z)
/-- a beginning's cells hold the arguments xs -/
def st_beg (S : cs_S) (t c : Nat) (xs : List sp_X) : Prop := sp_ok (cs_vf S (300 + xs.length)) (cs_vn S (300 + xs.length)) (cs_vp S (300 + xs.length)) t c xs
/-- what a making of values with at most k arguments ahead leaves as it was -/
def st_same (k : Nat) (S S' : cs_S) : Prop := (∀ i, i ≠ 4 → i ≠ 5 → S'.1 i = S.1 i) ∧ (∀ i, i ≠ 9 → S'.2.1 i = S.2.1 i) ∧ (∀ i, i ≠ 8 → S'.2.2.1 i = S.2.2.1 i) ∧ (∀ v, 300 ≤ v → (v ≤ 300 + k ∨ 304 ≤ v) → cs_vf S' v = cs_vf S v ∧ cs_vn S' v = cs_vn S v ∧ cs_vp S' v = cs_vp S v) ∧ S'.2.2.2.2.2.2 = S.2.2.2.2.2.2
theorem st_same_rfl (k : Nat) (S : cs_S) : st_same k S S := ⟨fun _ _ _ => rfl, fun _ _ => rfl, fun _ _ => rfl, fun _ _ _ => ⟨rfl, rfl, rfl⟩, rfl⟩
theorem st_same_tr {k : Nat} {S1 S2 S3 : cs_S} (h1 : st_same k S1 S2) (h2 : st_same k S2 S3) : st_same k S1 S3 :=
  ⟨fun i a b => (h2.1 i a b).trans (h1.1 i a b), fun i a => (h2.2.1 i a).trans (h1.2.1 i a), fun i a => (h2.2.2.1 i a).trans (h1.2.2.1 i a), fun v a b => ⟨(h2.2.2.2.1 v a b).1.trans (h1.2.2.2.1 v a b).1, (h2.2.2.2.1 v a b).2.1.trans (h1.2.2.2.1 v a b).2.1, (h2.2.2.2.1 v a b).2.2.trans (h1.2.2.2.1 v a b).2.2⟩, h2.2.2.2.2.trans h1.2.2.2.2⟩
theorem st_same_le {k k' : Nat} (hk : k ≤ k') {S1 S2 : cs_S} (h : st_same k' S1 S2) : st_same k S1 S2 := ⟨h.1, h.2.1, h.2.2.1, fun v a b => h.2.2.2.1 v a (b.elim (fun z => Or.inl (by omega)) Or.inr), h.2.2.2.2⟩
theorem st_same_g {k : Nat} {S S' : cs_S} {g : sp_G} (h : st_same k S S') (hg : cs_g S g) : cs_g S' g := by
  obtain ⟨h0, h1, h2, h3, h4⟩ := hg
  refine ⟨(h.1 0 (by decide) (by decide)).trans h0, (h.1 1 (by decide) (by decide)).trans h1, (h.1 2 (by decide) (by decide)).trans h2, (h.1 3 (by decide) (by decide)).trans h3, fun c q hc => ?_⟩
  obtain ⟨a1, a2, a3⟩ := h4 c q hc
  refine ⟨by rw [h.2.1 2 (by decide)]; exact a1, fun k hk => ⟨by rw [h.2.1 3 (by decide)]; exact (a2 k hk).1, by rw [h.2.1 4 (by decide)]; exact (a2 k hk).2⟩, by rw [h.2.1 5 (by decide)]; exact a3⟩
theorem st_same_fix {k : Nat} {S S' : cs_S} (h : st_same k S S') (hf : st_fix S) : st_fix S' := ⟨fun j hj => by rw [h.2.2.1 7 (by decide)]; exact hf.1 j hj, fun j hj => by rw [h.2.2.1 11 (by decide)]; exact hf.2.1 j hj, fun j hj => by rw [h.2.2.1 14 (by decide)]; exact hf.2.2 j hj⟩
theorem st_same_ends {k s : Nat} {S S' : cs_S} {T0 : List sp_E} (h : st_same k S S') (he : st_ends S T0 s) : st_ends S' T0 s := fun t z ht hz => by rw [h.2.1 10 (by decide)]; exact he t z ht hz
theorem st_same_beg {k t c : Nat} {S S' : cs_S} {xs : List sp_X} (h : st_same k S S') (hx : xs.length ≤ k) (hb : st_beg S t c xs) : st_beg S' t c xs := by
  obtain ⟨e1, e2, e3⟩ := h.2.2.2.1 (300 + xs.length) (by omega) (Or.inl (by omega))
  unfold st_beg
  rw [e1, e2, e3]
  exact hb
