/-! ===== the Values' methods over the class's cells ===== -/
def cs_setV (S : cs_S) (v : Nat) (V N : Nat → Int32) (P : Nat → Option Nat) : cs_S := (S.1, S.2.1, S.2.2.1, va_up S.2.2.2.1 v V, va_up S.2.2.2.2.1 v N, va_up S.2.2.2.2.2.1 v P, S.2.2.2.2.2.2)
theorem cs_setV1 {ad : cs_K → Nat} {S : cs_S} {v : Nat} {V N : Nat → Int32} {P : Nat → Option Nat} : cs_obj ad (cs_setV S v V N P) (1, v) = cs_vobj ad v V := by simp [cs_obj, cs_setV, va_up]
theorem cs_setV2 {ad : cs_K → Nat} {S : cs_S} {v : Nat} {V N : Nat → Int32} {P : Nat → Option Nat} : cs_obj ad (cs_setV S v V N P) (2, v) = .inl (0, 3, .inl N) := by simp [cs_obj, cs_setV, va_up]
theorem cs_setV3 {ad : cs_K → Nat} {S : cs_S} {v : Nat} {V N : Nat → Int32} {P : Nat → Option Nat} : cs_obj ad (cs_setV S v V N P) (3, v) = .inl (3, 3, .inr (.inr (.inr (.inr (fun j => cs_rf ad (P j)))))) := by simp [cs_obj, cs_setV, va_up]
theorem cs_setVn {ad : cs_K → Nat} {S : cs_S} {v : Nat} {V N : Nat → Int32} {P : Nat → Option Nat} {k : cs_K} (h : k.2 ≠ v ∨ k.1 = 0) : cs_obj ad (cs_setV S v V N P) k = cs_obj ad S k := by
  obtain ⟨a, w⟩ := k
  match a, h with
  | 0, _ => rfl
  | 1, h =>
    have hw : ¬ w = v := fun e => by rcases h with h | h; exact h e; cases h
    simp [cs_obj, cs_setV, va_up, hw]
  | 2, h =>
    have hw : ¬ w = v := fun e => by rcases h with h | h; exact h e; cases h
    simp [cs_obj, cs_setV, va_up, hw]
  | a + 3, h =>
    have hw : ¬ w = v := fun e => by rcases h with h | h; exact h e; cases h
    simp [cs_obj, cs_setV, va_up, hw]
theorem cs_rf_up {ad : cs_K → Nat} {P : Nat → Option Nat} {k : Nat} {o : Option Nat} : (fun j => cs_rf ad (va_up P k o j)) = va_up (fun j => cs_rf ad (P j)) k (cs_rf ad o) := by
  funext j
  by_cases h : j = k <;> simp [va_up, h]
theorem cs_key3 {k : cs_K} (hk : k ∈ cs_keys) {v : Nat} (h : k ∉ ([(1, v), (2, v), (3, v)] : List cs_K)) : k.2 ≠ v ∨ k.1 = 0 := by
  obtain ⟨a, w⟩ := k
  by_cases ha : a = 0
  · exact Or.inr ha
  · refine Or.inl fun e => h ?_
    have e : w = v := e
    subst e
    simp only [cs_keys, List.mem_append, List.mem_map] at hk
    rcases hk with ⟨x, -, hx⟩ | ⟨x, -, hx⟩ | ⟨x, -, hx⟩ | ⟨x, -, hx⟩
    · cases hx; exact absurd rfl ha
    · cases hx; simp
    · cases hx; simp
    · cases hx; simp
theorem cs_k3in {v : Nat} (hv : v < 312) : ∀ k ∈ ([(1, v), (2, v), (3, v)] : List cs_K), k ∈ cs_keys := by
  intro k hk
  simp only [List.mem_cons, List.not_mem_nil, or_false] at hk
  rcases hk with rfl | rfl | rfl
  · exact cs_k1 hv
  · exact cs_k2 hv
  · exact cs_k3 hv
theorem cs_k3nd (v : Nat) : ([(1, v), (2, v), (3, v)] : List cs_K).Nodup := by simp
/-- the three cells of a Value, and as many as else, written -/
theorem cs_wV {ad : cs_K → Nat} (hi : cs_inj ad) {S : cs_S} {h : ax_H} {v : Nat} (hv : v < 312) {V N : Nat → Int32} {P : Nat → Option Nat} {ks : List cs_K} (hk : ∀ k ∈ ks, k ∈ cs_keys) (hx : ∀ k ∈ ks, k.2 ≠ v ∨ k.1 = 0) :
    ax_w (cs_O ad S h) ([(ad (1, v), cs_vobj ad v V), (ad (2, v), .inl (0, 3, .inl N)), (ad (3, v), .inl (3, 3, .inr (.inr (.inr (.inr (fun j => cs_rf ad (P j)))))))] ++ cs_l ad S ks) = cs_O ad (cs_setV S v V N P) h := by
  have h1 := cs_upd hi (S := S) (S' := cs_setV S v V N P) (h := h) (ks := [(1, v), (2, v), (3, v)] ++ ks) (fun k hk9 => (List.mem_append.mp hk9).elim (cs_k3in hv k) (hk k)) (fun k hk1 hk2 => cs_setVn (cs_key3 hk1 (fun z => hk2 (List.mem_append_left _ z))))
  rw [← h1]
  congr 1
  unfold cs_l
  rw [List.map_append, List.map_cons, List.map_cons, List.map_cons, List.map_nil, cs_setV1, cs_setV2, cs_setV3]
  congr 1
  apply List.map_congr_left
  intro k hk9
  rw [cs_setVn (hx k hk9)]
abbrev cs_vf (S : cs_S) (v : Nat) : Nat → Int32 := S.2.2.2.1 v
abbrev cs_vn (S : cs_S) (v : Nat) : Nat → Int32 := S.2.2.2.2.1 v
abbrev cs_vp (S : cs_S) (v : Nat) : Nat → Option Nat := S.2.2.2.2.2.1 v
theorem cv_begin {G : ax_G} {ad : cs_K → Nat} (hi : cs_inj ad) (d : Nat) (S : cs_S) (h : ax_H) {v : Nat} (hv : v < 312) (t c : Int32) : AW G mX5_begin d 0 0 (fun r h1 => r = .inl none ∧ h1 = cs_O ad (cs_setV S v (vr_beg t c) (cs_vn S v) (cs_vp S v)) h) 0 [(0, .ref (ad (1, v))), (1, .int t), (2, .int c)] [] (cs_O ad S h) 0 0 := by
  refine ax_eqh (cs_in hi (ks := [(1, v)]) (fun k hk => cs_k3in hv k (by simp at hk; simp [hk]))).symm ?_
  refine ax_mono (ctX5_begin d (cs_O ad S h) (ad (1, v)) (ad (2, v)) (ad (3, v)) (cs_vf S v) t c (by simp)) ?_
  rintro r h1 ⟨e, rfl⟩
  refine ⟨e, ?_⟩
  have h2 := cs_upd hi (S := S) (S' := cs_setV S v (vr_beg t c) (cs_vn S v) (cs_vp S v)) (h := h) (ks := [(1, v)]) (fun k hk => cs_k3in hv k (by simp at hk; simp [hk])) (fun k hk1 hk2 => by
    by_cases h3 : k ∈ ([(1, v), (2, v), (3, v)] : List cs_K)
    · simp only [List.mem_cons, List.not_mem_nil, or_false] at h3 hk2
      rcases h3 with rfl | rfl | rfl
      · exact absurd rfl hk2
      · rw [cs_setV2]; rfl
      · rw [cs_setV3]; rfl
    · exact cs_setVn (cs_key3 hk1 h3))
  rw [← h2]
  unfold cs_l
  rw [List.map_cons, List.map_nil, cs_setV1]
  rfl
theorem cv_num {G : ax_G} {ad : cs_K → Nat} (hi : cs_inj ad) (d : Nat) (S : cs_S) (h : ax_H) {v : Nat} (hv : v < 312) (k : Int32) (h0 : ¬ cs_vf S v 3 < 0) (h1 : cs_vf S v 3 < 3) : AW G mX5_addNumber (d + 1) 0 0 (fun r h1 => r = .inl none ∧ h1 = cs_O ad (cs_setV S v (vr_num (cs_vf S v) k) (upd (cs_vn S v) (cs_vf S v 3).toNatClampNeg k) (va_up (cs_vp S v) (cs_vf S v 3).toNatClampNeg none)) h) 0 [(0, .ref (ad (1, v))), (1, .int k)] [] (cs_O ad S h) 0 0 := by
  refine ax_eqh (cs_in hi (ks := [(1, v), (2, v), (3, v)]) (cs_k3in hv)).symm ?_
  refine ax_mono (ctX5_addNumber d (cs_O ad S h) (ad (1, v)) (ad (2, v)) (ad (3, v)) (cs_vf S v) k (cs_vn S v) (fun j => cs_rf ad (cs_vp S v j)) h0 h1 (cs_nd hi (cs_k3in hv) (cs_k3nd v))) ?_
  rintro r h1 ⟨e, rfl⟩
  refine ⟨e, ?_⟩
  rw [← cs_wV hi hv (ks := []) (fun _ z => by cases z) (fun _ z => by cases z), cs_rf_up]
  rfl
theorem cv_part {G : ax_G} {ad : cs_K → Nat} (hi : cs_inj ad) (d : Nat) (S : cs_S) (h : ax_H) {v w : Nat} (hv : v < 312) (hw : w < 312) (hvw : w ≠ v) (h0 : ¬ cs_vf S v 3 < 0) (h1 : cs_vf S v 3 < 3) : AW G mX5_addPart (d + 1) 0 0 (fun r h1 => r = .inl none ∧ h1 = cs_O ad (cs_setV S v (vr_part (cs_vf S v) (cs_vf S w)) (upd (cs_vn S v) (cs_vf S v 3).toNatClampNeg 0) (va_up (cs_vp S v) (cs_vf S v 3).toNatClampNeg (some w))) h) 0 [(0, .ref (ad (1, v))), (1, .ref (ad (1, w)))] [] (cs_O ad S h) 0 0 := by
  have hks : ∀ k ∈ ([(1, v), (2, v), (3, v), (1, w)] : List cs_K), k ∈ cs_keys := by
    intro k hk
    simp only [List.mem_cons, List.not_mem_nil, or_false] at hk
    rcases hk with rfl | rfl | rfl | rfl
    · exact cs_k1 hv
    · exact cs_k2 hv
    · exact cs_k3 hv
    · exact cs_k1 hw
  refine ax_eqh (cs_in hi (ks := [(1, v), (2, v), (3, v), (1, w)]) hks).symm ?_
  refine ax_mono (ctX5_addPart d (cs_O ad S h) (ad (1, v)) (ad (2, v)) (ad (3, v)) (cs_vf S v) (ad (1, w)) (ad (2, w)) (ad (3, w)) (cs_vf S w) (cs_vn S v) (fun j => cs_rf ad (cs_vp S v j)) h0 h1 (cs_nd hi hks (by simp [Ne.symm hvw]))) ?_
  rintro r h1 ⟨e, rfl⟩
  refine ⟨e, ?_⟩
  rw [← cs_wV hi hv (ks := [(1, w)]) (fun k z => by simp at z; subst z; exact cs_k1 hw) (fun k z => by simp at z; subst z; exact Or.inl hvw), cs_rf_up]
  rfl
theorem cv_fits {G : ax_G} {ad : cs_K → Nat} (hi : cs_inj ad) (d : Nat) (S : cs_S) (h : ax_H) {v : Nat} (hv : v < 312) (k : Int32) (hb : narrow .boolean (.int (cs_vf S v 15)) = .int (cs_vf S v 15)) : AW G mX5_fits (d + 1) 0 0 (fun r h1 => r = .inl (some (.int (if k = 1 then cs_vf S v 15 else (if k = 2 then (if cs_vf S v 9 < 0 then 1 else (if cs_vf S v 12 < cs_vf S v 9 then 0 else 1)) else (if k = 3 then (if ((cs_vf S v 7 - 1) - cs_vf S v 8) = 0 then 1 else 0) else (if k = 4 then (if (1 : Int32) < ((cs_vf S v 7 - 1) - cs_vf S v 8) then 0 else 1) else (if k = 5 then (if (cs_vf S v 11 - cs_vf S v 11 / 2 * 2) = 0 then 1 else 0) else 1))))))) ∧ h1 = cs_O ad S h) 0 [(0, .ref (ad (1, v))), (1, .int k)] [] (cs_O ad S h) 0 0 := by
  have hks : ∀ k ∈ ([(1, v)] : List cs_K), k ∈ cs_keys := fun k hk => cs_k3in hv k (by simp at hk; simp [hk])
  refine ax_eqh (cs_in hi (ks := [(1, v)]) hks).symm ?_
  refine ax_mono (ctX5_fits d (cs_O ad S h) (ad (1, v)) (ad (2, v)) (ad (3, v)) (cs_vf S v) k hb (by simp)) ?_
  rintro r h1 ⟨e, rfl⟩
  exact ⟨e, cs_in hi hks⟩
theorem cv_clash {G : ax_G} {ad : cs_K → Nat} (hi : cs_inj ad) (d : Nat) (S : cs_S) (h : ax_H) {v w : Nat} (hv : v < 312) (hw : w < 312) (hvw : w ≠ v) (k : Int32) : AW G mX5_clashesWith d 0 0 (fun r h1 => r = .inl (some (.int (if k = 1 then (if cs_vf S v 10 ≤ 0 then 0 else (if cs_vf S w 10 ≤ 0 then 0 else (if cs_vf S v 13 < cs_vf S w 14 then 0 else 1))) else (if k = 2 then 0 else (if k = 3 then (if cs_vf S v 8 ≤ 0 then 0 else (if cs_vf S w 7 = cs_vf S v 8 then 0 else 1)) else (if k = 4 then (if cs_vf S v 8 ≤ 0 then 0 else (if ((if 0 ≤ (cs_vf S w 7 - cs_vf S v 8) then (cs_vf S w 7 - cs_vf S v 8) else 0 - (cs_vf S w 7 - cs_vf S v 8)) : Int32) ≤ 1 then 0 else 1)) else 0)))))) ∧ h1 = cs_O ad S h) 0 [(0, .ref (ad (1, v))), (1, .ref (ad (1, w))), (2, .int k)] [] (cs_O ad S h) 0 0 := by
  have hks : ∀ k ∈ ([(1, v), (1, w)] : List cs_K), k ∈ cs_keys := by
    intro k hk
    simp only [List.mem_cons, List.not_mem_nil, or_false] at hk
    rcases hk with rfl | rfl
    · exact cs_k1 hv
    · exact cs_k1 hw
  refine ax_eqh (cs_in hi (ks := [(1, v), (1, w)]) hks).symm ?_
  refine ax_mono (ctX5_clashesWith d (cs_O ad S h) (ad (1, v)) (ad (2, v)) (ad (3, v)) (cs_vf S v) (ad (1, w)) (ad (2, w)) (ad (3, w)) (cs_vf S w) k (cs_nd hi hks (by simp [Ne.symm hvw]))) ?_
  rintro r h1 ⟨e, rfl⟩
  exact ⟨e, cs_in hi hks⟩
