/-! ===== single cells of the class written ===== -/
def cs_setS (S : cs_S) (i : Nat) (x : Int32) : cs_S := (upd S.1 i x, S.2)
def cs_setA (S : cs_S) (i : Nat) (f : Nat → Int32) : cs_S := (S.1, va_up S.2.1 i f, S.2.2)
def cs_setR (S : cs_S) (i : Nat) (f : Nat → Option Nat) : cs_S := (S.1, S.2.1, va_up S.2.2.1 i f, S.2.2.2)
def cs_setL (S : cs_S) (o : Option Nat) : cs_S := (S.1, S.2.1, S.2.2.1, S.2.2.2.1, S.2.2.2.2.1, S.2.2.2.2.2.1, o)
theorem cs_put {ad : cs_K → Nat} (hi : cs_inj ad) {S S' : cs_S} {h : ax_H} {k : cs_K} {o : ax_E} (hk : k ∈ cs_keys) (ho : cs_obj ad S' k = o) (hs : ∀ j ∈ cs_keys, j ≠ k → cs_obj ad S' j = cs_obj ad S j) : va_up (cs_O ad S h) (ad k) (some o) = cs_O ad S' h := by
  have h1 := cs_upd hi (S := S) (S' := S') (h := h) (ks := [k]) (fun j hj => by simp at hj; subst hj; exact hk) (fun j hj hn => hs j hj (fun e => hn (by simp [e])))
  rw [← h1]
  unfold cs_l
  rw [List.map_cons, List.map_nil, ax_w_cons, ax_w_nil, ho]
theorem cs_cases {k : cs_K} (hk : k ∈ cs_keys) : (k.1 = 0 ∧ k.2 < 19) ∨ k.1 ≠ 0 := by
  obtain ⟨a, w⟩ := k
  simp only [cs_keys, List.mem_append, List.mem_map] at hk
  rcases hk with ⟨x, hm, hx⟩ | ⟨x, -, hx⟩ | ⟨x, -, hx⟩ | ⟨x, -, hx⟩
  · cases hx; exact Or.inl ⟨rfl, List.mem_range.mp hm⟩
  · cases hx; right; simp
  · cases hx; right; simp
  · cases hx; right; simp
theorem cs_othS {ad : cs_K → Nat} {S : cs_S} {i : Nat} {x : Int32} {k : cs_K} (hk : k.1 ≠ 0) : cs_obj ad (cs_setS S i x) k = cs_obj ad S k := by
  obtain ⟨a, w⟩ := k
  match a, hk with
  | 1, _ => rfl
  | 2, _ => rfl
  | a + 3, _ => rfl
theorem cs_othA {ad : cs_K → Nat} {S : cs_S} {i : Nat} {f : Nat → Int32} {k : cs_K} (hk : k.1 ≠ 0) : cs_obj ad (cs_setA S i f) k = cs_obj ad S k := by
  obtain ⟨a, w⟩ := k
  match a, hk with
  | 1, _ => rfl
  | 2, _ => rfl
  | a + 3, _ => rfl
theorem cs_othR {ad : cs_K → Nat} {S : cs_S} {i : Nat} {f : Nat → Option Nat} {k : cs_K} (hk : k.1 ≠ 0) : cs_obj ad (cs_setR S i f) k = cs_obj ad S k := by
  obtain ⟨a, w⟩ := k
  match a, hk with
  | 1, _ => rfl
  | 2, _ => rfl
  | a + 3, _ => rfl
theorem cs_othL {ad : cs_K → Nat} {S : cs_S} {o : Option Nat} {k : cs_K} (hk : k.1 ≠ 0) : cs_obj ad (cs_setL S o) k = cs_obj ad S k := by
  obtain ⟨a, w⟩ := k
  match a, hk with
  | 1, _ => rfl
  | 2, _ => rfl
  | a + 3, _ => rfl
theorem cs_ps0 {ad : cs_K → Nat} (hi : cs_inj ad) {S : cs_S} {h : ax_H} {x : Int32} : va_up (cs_O ad S h) (ad (0, 1)) (some (.inr (1, ([.int (S.1 0), .int (S.1 1), .int (S.1 2), .int (S.1 3), .ref (ad (0, 2)), .ref (ad (0, 3)), .ref (ad (0, 4)), .ref (ad (0, 5))] : List Value).set 0 (.int x)))) = cs_O ad (cs_setS S 0 x) h := by
  refine cs_put hi (cs_k0 (by decide)) rfl (fun j hj hne => ?_)
  rcases cs_cases hj with ⟨h0, hlt⟩ | h0
  · obtain ⟨a, w⟩ := j
    cases h0
    match w, hlt, hne with
    | 0, _, hne => rfl
    | 1, _, hne => exact absurd rfl hne
    | 2, _, hne => rfl
    | 3, _, hne => rfl
    | 4, _, hne => rfl
    | 5, _, hne => rfl
    | 6, _, hne => rfl
    | 7, _, hne => rfl
    | 8, _, hne => rfl
    | 9, _, hne => rfl
    | 10, _, hne => rfl
    | 11, _, hne => rfl
    | 12, _, hne => rfl
    | 13, _, hne => rfl
    | 14, _, hne => rfl
    | 15, _, hne => rfl
    | 16, _, hne => rfl
    | 17, _, hne => rfl
    | 18, _, hne => rfl
    | w + 19, hlt, _ => exact absurd hlt (by simp)
  · exact cs_othS h0
theorem cs_ps1 {ad : cs_K → Nat} (hi : cs_inj ad) {S : cs_S} {h : ax_H} {x : Int32} : va_up (cs_O ad S h) (ad (0, 1)) (some (.inr (1, ([.int (S.1 0), .int (S.1 1), .int (S.1 2), .int (S.1 3), .ref (ad (0, 2)), .ref (ad (0, 3)), .ref (ad (0, 4)), .ref (ad (0, 5))] : List Value).set 1 (.int x)))) = cs_O ad (cs_setS S 1 x) h := by
  refine cs_put hi (cs_k0 (by decide)) rfl (fun j hj hne => ?_)
  rcases cs_cases hj with ⟨h0, hlt⟩ | h0
  · obtain ⟨a, w⟩ := j
    cases h0
    match w, hlt, hne with
    | 0, _, hne => rfl
    | 1, _, hne => exact absurd rfl hne
    | 2, _, hne => rfl
    | 3, _, hne => rfl
    | 4, _, hne => rfl
    | 5, _, hne => rfl
    | 6, _, hne => rfl
    | 7, _, hne => rfl
    | 8, _, hne => rfl
    | 9, _, hne => rfl
    | 10, _, hne => rfl
    | 11, _, hne => rfl
    | 12, _, hne => rfl
    | 13, _, hne => rfl
    | 14, _, hne => rfl
    | 15, _, hne => rfl
    | 16, _, hne => rfl
    | 17, _, hne => rfl
    | 18, _, hne => rfl
    | w + 19, hlt, _ => exact absurd hlt (by simp)
  · exact cs_othS h0
theorem cs_ps2 {ad : cs_K → Nat} (hi : cs_inj ad) {S : cs_S} {h : ax_H} {x : Int32} : va_up (cs_O ad S h) (ad (0, 1)) (some (.inr (1, ([.int (S.1 0), .int (S.1 1), .int (S.1 2), .int (S.1 3), .ref (ad (0, 2)), .ref (ad (0, 3)), .ref (ad (0, 4)), .ref (ad (0, 5))] : List Value).set 2 (.int x)))) = cs_O ad (cs_setS S 2 x) h := by
  refine cs_put hi (cs_k0 (by decide)) rfl (fun j hj hne => ?_)
  rcases cs_cases hj with ⟨h0, hlt⟩ | h0
  · obtain ⟨a, w⟩ := j
    cases h0
    match w, hlt, hne with
    | 0, _, hne => rfl
    | 1, _, hne => exact absurd rfl hne
    | 2, _, hne => rfl
    | 3, _, hne => rfl
    | 4, _, hne => rfl
    | 5, _, hne => rfl
    | 6, _, hne => rfl
    | 7, _, hne => rfl
    | 8, _, hne => rfl
    | 9, _, hne => rfl
    | 10, _, hne => rfl
    | 11, _, hne => rfl
    | 12, _, hne => rfl
    | 13, _, hne => rfl
    | 14, _, hne => rfl
    | 15, _, hne => rfl
    | 16, _, hne => rfl
    | 17, _, hne => rfl
    | 18, _, hne => rfl
    | w + 19, hlt, _ => exact absurd hlt (by simp)
  · exact cs_othS h0
theorem cs_ps3 {ad : cs_K → Nat} (hi : cs_inj ad) {S : cs_S} {h : ax_H} {x : Int32} : va_up (cs_O ad S h) (ad (0, 1)) (some (.inr (1, ([.int (S.1 0), .int (S.1 1), .int (S.1 2), .int (S.1 3), .ref (ad (0, 2)), .ref (ad (0, 3)), .ref (ad (0, 4)), .ref (ad (0, 5))] : List Value).set 3 (.int x)))) = cs_O ad (cs_setS S 3 x) h := by
  refine cs_put hi (cs_k0 (by decide)) rfl (fun j hj hne => ?_)
  rcases cs_cases hj with ⟨h0, hlt⟩ | h0
  · obtain ⟨a, w⟩ := j
    cases h0
    match w, hlt, hne with
    | 0, _, hne => rfl
    | 1, _, hne => exact absurd rfl hne
    | 2, _, hne => rfl
    | 3, _, hne => rfl
    | 4, _, hne => rfl
    | 5, _, hne => rfl
    | 6, _, hne => rfl
    | 7, _, hne => rfl
    | 8, _, hne => rfl
    | 9, _, hne => rfl
    | 10, _, hne => rfl
    | 11, _, hne => rfl
    | 12, _, hne => rfl
    | 13, _, hne => rfl
    | 14, _, hne => rfl
    | 15, _, hne => rfl
    | 16, _, hne => rfl
    | 17, _, hne => rfl
    | 18, _, hne => rfl
    | w + 19, hlt, _ => exact absurd hlt (by simp)
  · exact cs_othS h0
theorem cs_ps4 {ad : cs_K → Nat} (hi : cs_inj ad) {S : cs_S} {h : ax_H} {x : Int32} : va_up (cs_O ad S h) (ad (0, 6)) (some (.inr (3, ([.ref (ad (0, 1)), .ref (ad (0, 7)), .ref (ad (0, 8)), .ref (ad (0, 9)), .ref (ad (0, 10)), .ref (ad (0, 11)), .int (S.1 4), .int (S.1 5), .int (S.1 6), .int (S.1 7)] : List Value).set 6 (.int x)))) = cs_O ad (cs_setS S 4 x) h := by
  refine cs_put hi (cs_k0 (by decide)) rfl (fun j hj hne => ?_)
  rcases cs_cases hj with ⟨h0, hlt⟩ | h0
  · obtain ⟨a, w⟩ := j
    cases h0
    match w, hlt, hne with
    | 0, _, hne => rfl
    | 1, _, hne => rfl
    | 2, _, hne => rfl
    | 3, _, hne => rfl
    | 4, _, hne => rfl
    | 5, _, hne => rfl
    | 6, _, hne => exact absurd rfl hne
    | 7, _, hne => rfl
    | 8, _, hne => rfl
    | 9, _, hne => rfl
    | 10, _, hne => rfl
    | 11, _, hne => rfl
    | 12, _, hne => rfl
    | 13, _, hne => rfl
    | 14, _, hne => rfl
    | 15, _, hne => rfl
    | 16, _, hne => rfl
    | 17, _, hne => rfl
    | 18, _, hne => rfl
    | w + 19, hlt, _ => exact absurd hlt (by simp)
  · exact cs_othS h0
theorem cs_ps5 {ad : cs_K → Nat} (hi : cs_inj ad) {S : cs_S} {h : ax_H} {x : Int32} : va_up (cs_O ad S h) (ad (0, 6)) (some (.inr (3, ([.ref (ad (0, 1)), .ref (ad (0, 7)), .ref (ad (0, 8)), .ref (ad (0, 9)), .ref (ad (0, 10)), .ref (ad (0, 11)), .int (S.1 4), .int (S.1 5), .int (S.1 6), .int (S.1 7)] : List Value).set 7 (.int x)))) = cs_O ad (cs_setS S 5 x) h := by
  refine cs_put hi (cs_k0 (by decide)) rfl (fun j hj hne => ?_)
  rcases cs_cases hj with ⟨h0, hlt⟩ | h0
  · obtain ⟨a, w⟩ := j
    cases h0
    match w, hlt, hne with
    | 0, _, hne => rfl
    | 1, _, hne => rfl
    | 2, _, hne => rfl
    | 3, _, hne => rfl
    | 4, _, hne => rfl
    | 5, _, hne => rfl
    | 6, _, hne => exact absurd rfl hne
    | 7, _, hne => rfl
    | 8, _, hne => rfl
    | 9, _, hne => rfl
    | 10, _, hne => rfl
    | 11, _, hne => rfl
    | 12, _, hne => rfl
    | 13, _, hne => rfl
    | 14, _, hne => rfl
    | 15, _, hne => rfl
    | 16, _, hne => rfl
    | 17, _, hne => rfl
    | 18, _, hne => rfl
    | w + 19, hlt, _ => exact absurd hlt (by simp)
  · exact cs_othS h0
theorem cs_ps6 {ad : cs_K → Nat} (hi : cs_inj ad) {S : cs_S} {h : ax_H} {x : Int32} : va_up (cs_O ad S h) (ad (0, 6)) (some (.inr (3, ([.ref (ad (0, 1)), .ref (ad (0, 7)), .ref (ad (0, 8)), .ref (ad (0, 9)), .ref (ad (0, 10)), .ref (ad (0, 11)), .int (S.1 4), .int (S.1 5), .int (S.1 6), .int (S.1 7)] : List Value).set 8 (.int x)))) = cs_O ad (cs_setS S 6 x) h := by
  refine cs_put hi (cs_k0 (by decide)) rfl (fun j hj hne => ?_)
  rcases cs_cases hj with ⟨h0, hlt⟩ | h0
  · obtain ⟨a, w⟩ := j
    cases h0
    match w, hlt, hne with
    | 0, _, hne => rfl
    | 1, _, hne => rfl
    | 2, _, hne => rfl
    | 3, _, hne => rfl
    | 4, _, hne => rfl
    | 5, _, hne => rfl
    | 6, _, hne => exact absurd rfl hne
    | 7, _, hne => rfl
    | 8, _, hne => rfl
    | 9, _, hne => rfl
    | 10, _, hne => rfl
    | 11, _, hne => rfl
    | 12, _, hne => rfl
    | 13, _, hne => rfl
    | 14, _, hne => rfl
    | 15, _, hne => rfl
    | 16, _, hne => rfl
    | 17, _, hne => rfl
    | 18, _, hne => rfl
    | w + 19, hlt, _ => exact absurd hlt (by simp)
  · exact cs_othS h0
theorem cs_ps7 {ad : cs_K → Nat} (hi : cs_inj ad) {S : cs_S} {h : ax_H} {x : Int32} : va_up (cs_O ad S h) (ad (0, 6)) (some (.inr (3, ([.ref (ad (0, 1)), .ref (ad (0, 7)), .ref (ad (0, 8)), .ref (ad (0, 9)), .ref (ad (0, 10)), .ref (ad (0, 11)), .int (S.1 4), .int (S.1 5), .int (S.1 6), .int (S.1 7)] : List Value).set 9 (.int x)))) = cs_O ad (cs_setS S 7 x) h := by
  refine cs_put hi (cs_k0 (by decide)) rfl (fun j hj hne => ?_)
  rcases cs_cases hj with ⟨h0, hlt⟩ | h0
  · obtain ⟨a, w⟩ := j
    cases h0
    match w, hlt, hne with
    | 0, _, hne => rfl
    | 1, _, hne => rfl
    | 2, _, hne => rfl
    | 3, _, hne => rfl
    | 4, _, hne => rfl
    | 5, _, hne => rfl
    | 6, _, hne => exact absurd rfl hne
    | 7, _, hne => rfl
    | 8, _, hne => rfl
    | 9, _, hne => rfl
    | 10, _, hne => rfl
    | 11, _, hne => rfl
    | 12, _, hne => rfl
    | 13, _, hne => rfl
    | 14, _, hne => rfl
    | 15, _, hne => rfl
    | 16, _, hne => rfl
    | 17, _, hne => rfl
    | 18, _, hne => rfl
    | w + 19, hlt, _ => exact absurd hlt (by simp)
  · exact cs_othS h0
theorem cs_ps8 {ad : cs_K → Nat} (hi : cs_inj ad) {S : cs_S} {h : ax_H} {x : Int32} : va_up (cs_O ad S h) (ad (0, 12)) (some (.inr (4, ([.ref (ad (0, 1)), .ref (ad (0, 13)), .ref (ad (0, 14)), .int (S.1 8), .int (S.1 9), .int (S.1 10)] : List Value).set 3 (.int x)))) = cs_O ad (cs_setS S 8 x) h := by
  refine cs_put hi (cs_k0 (by decide)) rfl (fun j hj hne => ?_)
  rcases cs_cases hj with ⟨h0, hlt⟩ | h0
  · obtain ⟨a, w⟩ := j
    cases h0
    match w, hlt, hne with
    | 0, _, hne => rfl
    | 1, _, hne => rfl
    | 2, _, hne => rfl
    | 3, _, hne => rfl
    | 4, _, hne => rfl
    | 5, _, hne => rfl
    | 6, _, hne => rfl
    | 7, _, hne => rfl
    | 8, _, hne => rfl
    | 9, _, hne => rfl
    | 10, _, hne => rfl
    | 11, _, hne => rfl
    | 12, _, hne => exact absurd rfl hne
    | 13, _, hne => rfl
    | 14, _, hne => rfl
    | 15, _, hne => rfl
    | 16, _, hne => rfl
    | 17, _, hne => rfl
    | 18, _, hne => rfl
    | w + 19, hlt, _ => exact absurd hlt (by simp)
  · exact cs_othS h0
theorem cs_ps9 {ad : cs_K → Nat} (hi : cs_inj ad) {S : cs_S} {h : ax_H} {x : Int32} : va_up (cs_O ad S h) (ad (0, 12)) (some (.inr (4, ([.ref (ad (0, 1)), .ref (ad (0, 13)), .ref (ad (0, 14)), .int (S.1 8), .int (S.1 9), .int (S.1 10)] : List Value).set 4 (.int x)))) = cs_O ad (cs_setS S 9 x) h := by
  refine cs_put hi (cs_k0 (by decide)) rfl (fun j hj hne => ?_)
  rcases cs_cases hj with ⟨h0, hlt⟩ | h0
  · obtain ⟨a, w⟩ := j
    cases h0
    match w, hlt, hne with
    | 0, _, hne => rfl
    | 1, _, hne => rfl
    | 2, _, hne => rfl
    | 3, _, hne => rfl
    | 4, _, hne => rfl
    | 5, _, hne => rfl
    | 6, _, hne => rfl
    | 7, _, hne => rfl
    | 8, _, hne => rfl
    | 9, _, hne => rfl
    | 10, _, hne => rfl
    | 11, _, hne => rfl
    | 12, _, hne => exact absurd rfl hne
    | 13, _, hne => rfl
    | 14, _, hne => rfl
    | 15, _, hne => rfl
    | 16, _, hne => rfl
    | 17, _, hne => rfl
    | 18, _, hne => rfl
    | w + 19, hlt, _ => exact absurd hlt (by simp)
  · exact cs_othS h0
theorem cs_ps10 {ad : cs_K → Nat} (hi : cs_inj ad) {S : cs_S} {h : ax_H} {x : Int32} : va_up (cs_O ad S h) (ad (0, 12)) (some (.inr (4, ([.ref (ad (0, 1)), .ref (ad (0, 13)), .ref (ad (0, 14)), .int (S.1 8), .int (S.1 9), .int (S.1 10)] : List Value).set 5 (.int x)))) = cs_O ad (cs_setS S 10 x) h := by
  refine cs_put hi (cs_k0 (by decide)) rfl (fun j hj hne => ?_)
  rcases cs_cases hj with ⟨h0, hlt⟩ | h0
  · obtain ⟨a, w⟩ := j
    cases h0
    match w, hlt, hne with
    | 0, _, hne => rfl
    | 1, _, hne => rfl
    | 2, _, hne => rfl
    | 3, _, hne => rfl
    | 4, _, hne => rfl
    | 5, _, hne => rfl
    | 6, _, hne => rfl
    | 7, _, hne => rfl
    | 8, _, hne => rfl
    | 9, _, hne => rfl
    | 10, _, hne => rfl
    | 11, _, hne => rfl
    | 12, _, hne => exact absurd rfl hne
    | 13, _, hne => rfl
    | 14, _, hne => rfl
    | 15, _, hne => rfl
    | 16, _, hne => rfl
    | 17, _, hne => rfl
    | 18, _, hne => rfl
    | w + 19, hlt, _ => exact absurd hlt (by simp)
  · exact cs_othS h0
theorem cs_ps11 {ad : cs_K → Nat} (hi : cs_inj ad) {S : cs_S} {h : ax_H} {x : Int32} : va_up (cs_O ad S h) (ad (0, 15)) (some (.inr (0, ([.ref (ad (0, 16)), .int (S.1 11)] : List Value).set 1 (.int x)))) = cs_O ad (cs_setS S 11 x) h := by
  refine cs_put hi (cs_k0 (by decide)) rfl (fun j hj hne => ?_)
  rcases cs_cases hj with ⟨h0, hlt⟩ | h0
  · obtain ⟨a, w⟩ := j
    cases h0
    match w, hlt, hne with
    | 0, _, hne => rfl
    | 1, _, hne => rfl
    | 2, _, hne => rfl
    | 3, _, hne => rfl
    | 4, _, hne => rfl
    | 5, _, hne => rfl
    | 6, _, hne => rfl
    | 7, _, hne => rfl
    | 8, _, hne => rfl
    | 9, _, hne => rfl
    | 10, _, hne => rfl
    | 11, _, hne => rfl
    | 12, _, hne => rfl
    | 13, _, hne => rfl
    | 14, _, hne => rfl
    | 15, _, hne => exact absurd rfl hne
    | 16, _, hne => rfl
    | 17, _, hne => rfl
    | 18, _, hne => rfl
    | w + 19, hlt, _ => exact absurd hlt (by simp)
  · exact cs_othS h0
theorem cs_ps12 {ad : cs_K → Nat} (hi : cs_inj ad) {S : cs_S} {h : ax_H} {x : Int32} : va_up (cs_O ad S h) (ad (0, 17)) (some (.inr (2, ([.ref (ad (0, 18)), .int (S.1 12)] : List Value).set 1 (.int x)))) = cs_O ad (cs_setS S 12 x) h := by
  refine cs_put hi (cs_k0 (by decide)) rfl (fun j hj hne => ?_)
  rcases cs_cases hj with ⟨h0, hlt⟩ | h0
  · obtain ⟨a, w⟩ := j
    cases h0
    match w, hlt, hne with
    | 0, _, hne => rfl
    | 1, _, hne => rfl
    | 2, _, hne => rfl
    | 3, _, hne => rfl
    | 4, _, hne => rfl
    | 5, _, hne => rfl
    | 6, _, hne => rfl
    | 7, _, hne => rfl
    | 8, _, hne => rfl
    | 9, _, hne => rfl
    | 10, _, hne => rfl
    | 11, _, hne => rfl
    | 12, _, hne => rfl
    | 13, _, hne => rfl
    | 14, _, hne => rfl
    | 15, _, hne => rfl
    | 16, _, hne => rfl
    | 17, _, hne => exact absurd rfl hne
    | 18, _, hne => rfl
    | w + 19, hlt, _ => exact absurd hlt (by simp)
  · exact cs_othS h0
theorem cs_pa2 {ad : cs_K → Nat} (hi : cs_inj ad) {S : cs_S} {h : ax_H} {f : Nat → Int32} : va_up (cs_O ad S h) (ad (0, 2)) (some (.inl (0, 6, .inl f))) = cs_O ad (cs_setA S 2 f) h := by
  refine cs_put hi (cs_k0 (by decide)) rfl (fun j hj hne => ?_)
  rcases cs_cases hj with ⟨h0, hlt⟩ | h0
  · obtain ⟨a, w⟩ := j
    cases h0
    match w, hlt, hne with
    | 0, _, hne => rfl
    | 1, _, hne => rfl
    | 2, _, hne => exact absurd rfl hne
    | 3, _, hne => rfl
    | 4, _, hne => rfl
    | 5, _, hne => rfl
    | 6, _, hne => rfl
    | 7, _, hne => rfl
    | 8, _, hne => rfl
    | 9, _, hne => rfl
    | 10, _, hne => rfl
    | 11, _, hne => rfl
    | 12, _, hne => rfl
    | 13, _, hne => rfl
    | 14, _, hne => rfl
    | 15, _, hne => rfl
    | 16, _, hne => rfl
    | 17, _, hne => rfl
    | 18, _, hne => rfl
    | w + 19, hlt, _ => exact absurd hlt (by simp)
  · exact cs_othA h0
theorem cs_pa3 {ad : cs_K → Nat} (hi : cs_inj ad) {S : cs_S} {h : ax_H} {f : Nat → Int32} : va_up (cs_O ad S h) (ad (0, 3)) (some (.inl (0, 18, .inl f))) = cs_O ad (cs_setA S 3 f) h := by
  refine cs_put hi (cs_k0 (by decide)) rfl (fun j hj hne => ?_)
  rcases cs_cases hj with ⟨h0, hlt⟩ | h0
  · obtain ⟨a, w⟩ := j
    cases h0
    match w, hlt, hne with
    | 0, _, hne => rfl
    | 1, _, hne => rfl
    | 2, _, hne => rfl
    | 3, _, hne => exact absurd rfl hne
    | 4, _, hne => rfl
    | 5, _, hne => rfl
    | 6, _, hne => rfl
    | 7, _, hne => rfl
    | 8, _, hne => rfl
    | 9, _, hne => rfl
    | 10, _, hne => rfl
    | 11, _, hne => rfl
    | 12, _, hne => rfl
    | 13, _, hne => rfl
    | 14, _, hne => rfl
    | 15, _, hne => rfl
    | 16, _, hne => rfl
    | 17, _, hne => rfl
    | 18, _, hne => rfl
    | w + 19, hlt, _ => exact absurd hlt (by simp)
  · exact cs_othA h0
theorem cs_pa4 {ad : cs_K → Nat} (hi : cs_inj ad) {S : cs_S} {h : ax_H} {f : Nat → Int32} : va_up (cs_O ad S h) (ad (0, 4)) (some (.inl (0, 18, .inl f))) = cs_O ad (cs_setA S 4 f) h := by
  refine cs_put hi (cs_k0 (by decide)) rfl (fun j hj hne => ?_)
  rcases cs_cases hj with ⟨h0, hlt⟩ | h0
  · obtain ⟨a, w⟩ := j
    cases h0
    match w, hlt, hne with
    | 0, _, hne => rfl
    | 1, _, hne => rfl
    | 2, _, hne => rfl
    | 3, _, hne => rfl
    | 4, _, hne => exact absurd rfl hne
    | 5, _, hne => rfl
    | 6, _, hne => rfl
    | 7, _, hne => rfl
    | 8, _, hne => rfl
    | 9, _, hne => rfl
    | 10, _, hne => rfl
    | 11, _, hne => rfl
    | 12, _, hne => rfl
    | 13, _, hne => rfl
    | 14, _, hne => rfl
    | 15, _, hne => rfl
    | 16, _, hne => rfl
    | 17, _, hne => rfl
    | 18, _, hne => rfl
    | w + 19, hlt, _ => exact absurd hlt (by simp)
  · exact cs_othA h0
theorem cs_pa5 {ad : cs_K → Nat} (hi : cs_inj ad) {S : cs_S} {h : ax_H} {f : Nat → Int32} : va_up (cs_O ad S h) (ad (0, 5)) (some (.inl (0, 6, .inl f))) = cs_O ad (cs_setA S 5 f) h := by
  refine cs_put hi (cs_k0 (by decide)) rfl (fun j hj hne => ?_)
  rcases cs_cases hj with ⟨h0, hlt⟩ | h0
  · obtain ⟨a, w⟩ := j
    cases h0
    match w, hlt, hne with
    | 0, _, hne => rfl
    | 1, _, hne => rfl
    | 2, _, hne => rfl
    | 3, _, hne => rfl
    | 4, _, hne => rfl
    | 5, _, hne => exact absurd rfl hne
    | 6, _, hne => rfl
    | 7, _, hne => rfl
    | 8, _, hne => rfl
    | 9, _, hne => rfl
    | 10, _, hne => rfl
    | 11, _, hne => rfl
    | 12, _, hne => rfl
    | 13, _, hne => rfl
    | 14, _, hne => rfl
    | 15, _, hne => rfl
    | 16, _, hne => rfl
    | 17, _, hne => rfl
    | 18, _, hne => rfl
    | w + 19, hlt, _ => exact absurd hlt (by simp)
  · exact cs_othA h0
theorem cs_pa9 {ad : cs_K → Nat} (hi : cs_inj ad) {S : cs_S} {h : ax_H} {f : Nat → Int32} : va_up (cs_O ad S h) (ad (0, 9)) (some (.inl (0, 4, .inl f))) = cs_O ad (cs_setA S 9 f) h := by
  refine cs_put hi (cs_k0 (by decide)) rfl (fun j hj hne => ?_)
  rcases cs_cases hj with ⟨h0, hlt⟩ | h0
  · obtain ⟨a, w⟩ := j
    cases h0
    match w, hlt, hne with
    | 0, _, hne => rfl
    | 1, _, hne => rfl
    | 2, _, hne => rfl
    | 3, _, hne => rfl
    | 4, _, hne => rfl
    | 5, _, hne => rfl
    | 6, _, hne => rfl
    | 7, _, hne => rfl
    | 8, _, hne => rfl
    | 9, _, hne => exact absurd rfl hne
    | 10, _, hne => rfl
    | 11, _, hne => rfl
    | 12, _, hne => rfl
    | 13, _, hne => rfl
    | 14, _, hne => rfl
    | 15, _, hne => rfl
    | 16, _, hne => rfl
    | 17, _, hne => rfl
    | 18, _, hne => rfl
    | w + 19, hlt, _ => exact absurd hlt (by simp)
  · exact cs_othA h0
theorem cs_pa10 {ad : cs_K → Nat} (hi : cs_inj ad) {S : cs_S} {h : ax_H} {f : Nat → Int32} : va_up (cs_O ad S h) (ad (0, 10)) (some (.inl (0, 36, .inl f))) = cs_O ad (cs_setA S 10 f) h := by
  refine cs_put hi (cs_k0 (by decide)) rfl (fun j hj hne => ?_)
  rcases cs_cases hj with ⟨h0, hlt⟩ | h0
  · obtain ⟨a, w⟩ := j
    cases h0
    match w, hlt, hne with
    | 0, _, hne => rfl
    | 1, _, hne => rfl
    | 2, _, hne => rfl
    | 3, _, hne => rfl
    | 4, _, hne => rfl
    | 5, _, hne => rfl
    | 6, _, hne => rfl
    | 7, _, hne => rfl
    | 8, _, hne => rfl
    | 9, _, hne => rfl
    | 10, _, hne => exact absurd rfl hne
    | 11, _, hne => rfl
    | 12, _, hne => rfl
    | 13, _, hne => rfl
    | 14, _, hne => rfl
    | 15, _, hne => rfl
    | 16, _, hne => rfl
    | 17, _, hne => rfl
    | 18, _, hne => rfl
    | w + 19, hlt, _ => exact absurd hlt (by simp)
  · exact cs_othA h0
theorem cs_pa13 {ad : cs_K → Nat} (hi : cs_inj ad) {S : cs_S} {h : ax_H} {f : Nat → Int32} : va_up (cs_O ad S h) (ad (0, 13)) (some (.inl (0, 40, .inl f))) = cs_O ad (cs_setA S 13 f) h := by
  refine cs_put hi (cs_k0 (by decide)) rfl (fun j hj hne => ?_)
  rcases cs_cases hj with ⟨h0, hlt⟩ | h0
  · obtain ⟨a, w⟩ := j
    cases h0
    match w, hlt, hne with
    | 0, _, hne => rfl
    | 1, _, hne => rfl
    | 2, _, hne => rfl
    | 3, _, hne => rfl
    | 4, _, hne => rfl
    | 5, _, hne => rfl
    | 6, _, hne => rfl
    | 7, _, hne => rfl
    | 8, _, hne => rfl
    | 9, _, hne => rfl
    | 10, _, hne => rfl
    | 11, _, hne => rfl
    | 12, _, hne => rfl
    | 13, _, hne => exact absurd rfl hne
    | 14, _, hne => rfl
    | 15, _, hne => rfl
    | 16, _, hne => rfl
    | 17, _, hne => rfl
    | 18, _, hne => rfl
    | w + 19, hlt, _ => exact absurd hlt (by simp)
  · exact cs_othA h0
theorem cs_pa16 {ad : cs_K → Nat} (hi : cs_inj ad) {S : cs_S} {h : ax_H} {f : Nat → Int32} : va_up (cs_O ad S h) (ad (0, 16)) (some (.inl (0, 32, .inl f))) = cs_O ad (cs_setA S 16 f) h := by
  refine cs_put hi (cs_k0 (by decide)) rfl (fun j hj hne => ?_)
  rcases cs_cases hj with ⟨h0, hlt⟩ | h0
  · obtain ⟨a, w⟩ := j
    cases h0
    match w, hlt, hne with
    | 0, _, hne => rfl
    | 1, _, hne => rfl
    | 2, _, hne => rfl
    | 3, _, hne => rfl
    | 4, _, hne => rfl
    | 5, _, hne => rfl
    | 6, _, hne => rfl
    | 7, _, hne => rfl
    | 8, _, hne => rfl
    | 9, _, hne => rfl
    | 10, _, hne => rfl
    | 11, _, hne => rfl
    | 12, _, hne => rfl
    | 13, _, hne => rfl
    | 14, _, hne => rfl
    | 15, _, hne => rfl
    | 16, _, hne => exact absurd rfl hne
    | 17, _, hne => rfl
    | 18, _, hne => rfl
    | w + 19, hlt, _ => exact absurd hlt (by simp)
  · exact cs_othA h0
theorem cs_pr8 {ad : cs_K → Nat} (hi : cs_inj ad) {S : cs_S} {h : ax_H} {f : Nat → Option Nat} : va_up (cs_O ad S h) (ad (0, 8)) (some (.inl (3, 1200, .inr (.inr (.inr (.inr (fun j => cs_rf ad (f j)))))))) = cs_O ad (cs_setR S 8 f) h := by
  refine cs_put hi (cs_k0 (by decide)) rfl (fun j hj hne => ?_)
  rcases cs_cases hj with ⟨h0, hlt⟩ | h0
  · obtain ⟨a, w⟩ := j
    cases h0
    match w, hlt, hne with
    | 0, _, hne => rfl
    | 1, _, hne => rfl
    | 2, _, hne => rfl
    | 3, _, hne => rfl
    | 4, _, hne => rfl
    | 5, _, hne => rfl
    | 6, _, hne => rfl
    | 7, _, hne => rfl
    | 8, _, hne => exact absurd rfl hne
    | 9, _, hne => rfl
    | 10, _, hne => rfl
    | 11, _, hne => rfl
    | 12, _, hne => rfl
    | 13, _, hne => rfl
    | 14, _, hne => rfl
    | 15, _, hne => rfl
    | 16, _, hne => rfl
    | 17, _, hne => rfl
    | 18, _, hne => rfl
    | w + 19, hlt, _ => exact absurd hlt (by simp)
  · exact cs_othR h0
theorem cs_pr18 {ad : cs_K → Nat} (hi : cs_inj ad) {S : cs_S} {h : ax_H} {f : Nat → Option Nat} : va_up (cs_O ad S h) (ad (0, 18)) (some (.inl (3, 300, .inr (.inr (.inr (.inr (fun j => cs_rf ad (f j)))))))) = cs_O ad (cs_setR S 18 f) h := by
  refine cs_put hi (cs_k0 (by decide)) rfl (fun j hj hne => ?_)
  rcases cs_cases hj with ⟨h0, hlt⟩ | h0
  · obtain ⟨a, w⟩ := j
    cases h0
    match w, hlt, hne with
    | 0, _, hne => rfl
    | 1, _, hne => rfl
    | 2, _, hne => rfl
    | 3, _, hne => rfl
    | 4, _, hne => rfl
    | 5, _, hne => rfl
    | 6, _, hne => rfl
    | 7, _, hne => rfl
    | 8, _, hne => rfl
    | 9, _, hne => rfl
    | 10, _, hne => rfl
    | 11, _, hne => rfl
    | 12, _, hne => rfl
    | 13, _, hne => rfl
    | 14, _, hne => rfl
    | 15, _, hne => rfl
    | 16, _, hne => rfl
    | 17, _, hne => rfl
    | 18, _, hne => exact absurd rfl hne
    | w + 19, hlt, _ => exact absurd hlt (by simp)
  · exact cs_othR h0
theorem cs_pl {ad : cs_K → Nat} (hi : cs_inj ad) {S : cs_S} {h : ax_H} {o : Option Nat} : va_up (cs_O ad S h) (ad (0, 0)) (some (.inr (6, ([.ref (ad (0, 1)), .ref (ad (0, 6)), .ref (ad (0, 12)), .ref (ad (0, 15)), .ref (ad (0, 17)), va_rf (cs_rf ad S.2.2.2.2.2.2)] : List Value).set 5 (va_rf (cs_rf ad o))))) = cs_O ad (cs_setL S o) h := by
  refine cs_put hi (cs_k0 (by decide)) rfl (fun j hj hne => ?_)
  rcases cs_cases hj with ⟨h0, hlt⟩ | h0
  · obtain ⟨a, w⟩ := j
    cases h0
    match w, hlt, hne with
    | 0, _, hne => exact absurd rfl hne
    | 1, _, hne => rfl
    | 2, _, hne => rfl
    | 3, _, hne => rfl
    | 4, _, hne => rfl
    | 5, _, hne => rfl
    | 6, _, hne => rfl
    | 7, _, hne => rfl
    | 8, _, hne => rfl
    | 9, _, hne => rfl
    | 10, _, hne => rfl
    | 11, _, hne => rfl
    | 12, _, hne => rfl
    | 13, _, hne => rfl
    | 14, _, hne => rfl
    | 15, _, hne => rfl
    | 16, _, hne => rfl
    | 17, _, hne => rfl
    | 18, _, hne => rfl
    | w + 19, hlt, _ => exact absurd hlt (by simp)
  · exact cs_othL h0
theorem cs_pv {ad : cs_K → Nat} (hi : cs_inj ad) {S : cs_S} {h : ax_H} {v : Nat} (hv : v < 312) {V : Nat → Int32} : va_up (cs_O ad S h) (ad (1, v)) (some (cs_vobj ad v V)) = cs_O ad (cs_setV S v V (cs_vn S v) (cs_vp S v)) h := by
  refine cs_put hi (cs_k1 hv) cs_setV1 (fun j hj hne => ?_)
  by_cases h3 : j ∈ ([(1, v), (2, v), (3, v)] : List cs_K)
  · simp only [List.mem_cons, List.not_mem_nil, or_false] at h3
    rcases h3 with rfl | rfl | rfl
    · exact absurd rfl hne
    · rw [cs_setV2]; rfl
    · rw [cs_setV3]; rfl
  · exact cs_setVn (cs_key3 hj h3)
