/-! ===== the class's own cells over a heap =====
keys: (0, i) the single objects: 0 DataMaker, 1 Grammar, 2 owners, 3 parameters, 4 typesAhead, 5 conditions, 6 Stock, 7 pool, 8 ordered, 9 kept, 10 ends, 11 beginnings, 12 Told, 13 its numbers, 14 drafts, 15 Code, 16 its numbers, 17 Reductions, 18 its values;
(1, v), (2, v), (3, v): the Value v, its numbers, its parts (v below 300: the pool; 300 to 303: the beginnings; 304 to 311: the drafts).
scalars: 0 low, 1 high, 2 types, 3 constructors, 4 used, 5 overfull, 6 reach, 7 fresh, 8 opened, 9 position, 10 told, 11 code's kept, 12 reductions' kept -/
abbrev cs_S : Type := (Nat → Int32) × (Nat → Nat → Int32) × (Nat → Nat → Option Nat) × (Nat → Nat → Int32) × (Nat → Nat → Int32) × (Nat → Nat → Option Nat) × Option Nat
abbrev cs_K : Type := Nat × Nat
def cs_rf (ad : cs_K → Nat) (r : Option Nat) : Option Nat := r.map (fun v => ad (1, v))
abbrev cs_vobj (ad : cs_K → Nat) (v : Nat) (V : Nat → Int32) : ax_E := .inr (5, [.int (V 0), .int (V 1), .int (V 2), .int (V 3), .ref (ad (2, v)), .ref (ad (3, v)), .int (V 6), .int (V 7), .int (V 8), .int (V 9), .int (V 10), .int (V 11), .int (V 12), .int (V 13), .int (V 14), .int (V 15)])
def cs_fix (ad : cs_K → Nat) (S : cs_S) (i : Nat) : ax_E := match i with
  | 0 => .inr (6, [.ref (ad (0, 1)), .ref (ad (0, 6)), .ref (ad (0, 12)), .ref (ad (0, 15)), .ref (ad (0, 17)), va_rf (cs_rf ad S.2.2.2.2.2.2)])
  | 1 => .inr (1, [.int (S.1 0), .int (S.1 1), .int (S.1 2), .int (S.1 3), .ref (ad (0, 2)), .ref (ad (0, 3)), .ref (ad (0, 4)), .ref (ad (0, 5))])
  | 2 => .inl (0, 6, .inl (S.2.1 2))
  | 3 => .inl (0, 18, .inl (S.2.1 3))
  | 4 => .inl (0, 18, .inl (S.2.1 4))
  | 5 => .inl (0, 6, .inl (S.2.1 5))
  | 6 => .inr (3, [.ref (ad (0, 1)), .ref (ad (0, 7)), .ref (ad (0, 8)), .ref (ad (0, 9)), .ref (ad (0, 10)), .ref (ad (0, 11)), .int (S.1 4), .int (S.1 5), .int (S.1 6), .int (S.1 7)])
  | 7 => .inl (3, 300, .inr (.inr (.inr (.inr (fun j => cs_rf ad (S.2.2.1 7 j))))))
  | 8 => .inl (3, 1200, .inr (.inr (.inr (.inr (fun j => cs_rf ad (S.2.2.1 8 j))))))
  | 9 => .inl (0, 4, .inl (S.2.1 9))
  | 10 => .inl (0, 36, .inl (S.2.1 10))
  | 11 => .inl (3, 4, .inr (.inr (.inr (.inr (fun j => cs_rf ad (S.2.2.1 11 j))))))
  | 12 => .inr (4, [.ref (ad (0, 1)), .ref (ad (0, 13)), .ref (ad (0, 14)), .int (S.1 8), .int (S.1 9), .int (S.1 10)])
  | 13 => .inl (0, 40, .inl (S.2.1 13))
  | 14 => .inl (3, 8, .inr (.inr (.inr (.inr (fun j => cs_rf ad (S.2.2.1 14 j))))))
  | 15 => .inr (0, [.ref (ad (0, 16)), .int (S.1 11)])
  | 16 => .inl (0, 32, .inl (S.2.1 16))
  | 17 => .inr (2, [.ref (ad (0, 18)), .int (S.1 12)])
  | _ => .inl (3, 300, .inr (.inr (.inr (.inr (fun j => cs_rf ad (S.2.2.1 18 j))))))
def cs_obj (ad : cs_K → Nat) (S : cs_S) (k : cs_K) : ax_E := match k with
  | (0, i) => cs_fix ad S i
  | (1, v) => cs_vobj ad v (S.2.2.2.1 v)
  | (2, v) => .inl (0, 3, .inl (S.2.2.2.2.1 v))
  | (_, v) => .inl (3, 3, .inr (.inr (.inr (.inr (fun j => cs_rf ad (S.2.2.2.2.2.1 v j))))))
def cs_keys : List cs_K := (List.range 19).map (fun i => (0, i)) ++ ((List.range 312).map (fun v => (1, v)) ++ ((List.range 312).map (fun v => (2, v)) ++ (List.range 312).map (fun v => (3, v))))
theorem cs_k0 {i : Nat} (h : i < 19) : ((0, i) : cs_K) ∈ cs_keys := List.mem_append_left _ (List.mem_map.mpr ⟨i, List.mem_range.mpr h, rfl⟩)
theorem cs_k1 {v : Nat} (h : v < 312) : ((1, v) : cs_K) ∈ cs_keys := List.mem_append_right _ (List.mem_append_left _ (List.mem_map.mpr ⟨v, List.mem_range.mpr h, rfl⟩))
theorem cs_k2 {v : Nat} (h : v < 312) : ((2, v) : cs_K) ∈ cs_keys := List.mem_append_right _ (List.mem_append_right _ (List.mem_append_left _ (List.mem_map.mpr ⟨v, List.mem_range.mpr h, rfl⟩)))
theorem cs_k3 {v : Nat} (h : v < 312) : ((3, v) : cs_K) ∈ cs_keys := List.mem_append_right _ (List.mem_append_right _ (List.mem_append_right _ (List.mem_map.mpr ⟨v, List.mem_range.mpr h, rfl⟩)))
def cs_inj (ad : cs_K → Nat) : Prop := ∀ i ∈ cs_keys, ∀ j ∈ cs_keys, ad i = ad j → i = j
def cs_O (ad : cs_K → Nat) (S : cs_S) (h : ax_H) : ax_H := fun x => match cs_keys.find? (fun k => ad k == x) with
  | some k => some (cs_obj ad S k)
  | none => h x
theorem cs_get {ad : cs_K → Nat} (hi : cs_inj ad) {S : cs_S} {h : ax_H} {k : cs_K} (hk : k ∈ cs_keys) : cs_O ad S h (ad k) = some (cs_obj ad S k) := by
  unfold cs_O
  cases hf : cs_keys.find? (fun q => ad q == ad k) with
  | none => exact absurd (List.find?_eq_none.mp hf k hk) (by simp)
  | some q =>
    have h1 : ad q = ad k := by simpa using List.find?_some hf
    rw [hi q (List.mem_of_find?_eq_some hf) k hk h1]
theorem cs_out {ad : cs_K → Nat} {S : cs_S} {h : ax_H} {x : Nat} (hx : ∀ k ∈ cs_keys, ad k ≠ x) : cs_O ad S h x = h x := by
  unfold cs_O
  cases hf : cs_keys.find? (fun q => ad q == x) with
  | none => rfl
  | some q =>
    have h1 : ad q = x := by simpa using List.find?_some hf
    exact absurd h1 (hx q (List.mem_of_find?_eq_some hf))
/-- the cells of some keys, laid over -/
def cs_l (ad : cs_K → Nat) (S : cs_S) (ks : List cs_K) : List (Nat × ax_E) := ks.map (fun k => (ad k, cs_obj ad S k))
theorem cs_in {ad : cs_K → Nat} (hi : cs_inj ad) {S : cs_S} {h : ax_H} {ks : List cs_K} (hk : ∀ k ∈ ks, k ∈ cs_keys) : ax_w (cs_O ad S h) (cs_l ad S ks) = cs_O ad S h := by
  refine ax_w_self fun q hq => ?_
  obtain ⟨k, hk1, rfl⟩ := List.mem_map.mp hq
  exact cs_get hi (hk k hk1)
theorem cs_upd {ad : cs_K → Nat} (hi : cs_inj ad) {S S' : cs_S} {h : ax_H} {ks : List cs_K} (hk : ∀ k ∈ ks, k ∈ cs_keys) (hs : ∀ k ∈ cs_keys, k ∉ ks → cs_obj ad S' k = cs_obj ad S k) : ax_w (cs_O ad S h) (cs_l ad S' ks) = cs_O ad S' h := by
  funext x
  by_cases hx : ∃ k ∈ cs_keys, ad k = x
  · obtain ⟨k, hk1, rfl⟩ := hx
    rw [cs_get hi hk1]
    by_cases hm : k ∈ ks
    · have : ax_w (cs_O ad S h) (cs_l ad S' ks) (ad k) = some (cs_obj ad S' k) := by
        unfold ax_w cs_l
        cases hf : (ks.map (fun k => (ad k, cs_obj ad S' k))).find? (fun q => q.1 == ad k) with
        | none => exact absurd (List.find?_eq_none.mp hf (ad k, cs_obj ad S' k) (List.mem_map.mpr ⟨k, hm, rfl⟩)) (by simp)
        | some q =>
          have h1 : q.1 = ad k := by simpa using List.find?_some hf
          obtain ⟨k2, hk2, rfl⟩ := List.mem_map.mp (List.mem_of_find?_eq_some hf)
          rw [hi k2 (hk k2 hk2) k hk1 h1]
      exact this
    · rw [ax_w_ne, cs_get hi hk1, hs k hk1 hm]
      intro hc
      obtain ⟨q, hq, hq2⟩ := List.mem_map.mp hc
      obtain ⟨k2, hk2, rfl⟩ := List.mem_map.mp hq
      exact hm (hi k2 (hk k2 hk2) k hk1 hq2 ▸ hk2)
  · have h1 : ∀ k ∈ cs_keys, ad k ≠ x := fun k hk1 e => hx ⟨k, hk1, e⟩
    rw [cs_out h1, ax_w_ne, cs_out h1]
    intro hc
    obtain ⟨q, hq, hq2⟩ := List.mem_map.mp hc
    obtain ⟨k2, hk2, rfl⟩ := List.mem_map.mp hq
    exact h1 k2 (hk k2 hk2) hq2
theorem cs_nd {ad : cs_K → Nat} (hi : cs_inj ad) {ks : List cs_K} (hk : ∀ k ∈ ks, k ∈ cs_keys) (hn : ks.Nodup) : (ks.map ad).Nodup := by
  induction ks with
  | nil => exact List.nodup_nil
  | cons k ks ih =>
    rw [List.nodup_cons] at hn
    rw [List.map_cons, List.nodup_cons]
    refine ⟨fun hc => ?_, ih (fun q hq => hk q (List.mem_cons_of_mem _ hq)) hn.2⟩
    obtain ⟨q, hq, hq2⟩ := List.mem_map.mp hc
    exact hn.1 (hi q (hk q (List.mem_cons_of_mem _ hq)) k (hk k List.mem_cons_self) hq2 ▸ hq)
