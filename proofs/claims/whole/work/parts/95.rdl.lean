/-! ===== the reference's reductions are the class's ===== -/
def cn_at (L : List Nat) (lo a : Nat) : List (List Nat) := match L[a]? with
  | none => []
  | some x => if x < 100 then (List.range' lo (x - lo)).map (fun m => L.set a m) else []
def cn_l (L : List Nat) (lo : Nat) : Nat → Nat → List (List Nat)
  | 0, _ => []
  | i + 1, a => cn_at L lo a ++ cn_l L lo i (a + 1)
theorem rf_ms_f (T : List sp_E) (t : Nat) (L : List Nat) (a : Nat) : ∀ (j m : Nat) (Rs : List Nat), rf_ms T t L a j m Rs = ((List.range' m j).map (fun m => L.set a m)).foldl (fun Rs M => rf_add Rs (fi_num T t M)) Rs := by
  intro j
  induction j with
  | zero => intro m Rs; rfl
  | succ j ih =>
    intro m Rs
    show rf_ms T t L a j (m + 1) _ = _
    rw [ih, List.range'_succ, List.map_cons, List.foldl_cons]
theorem rf_2_f (T : List sp_E) (t : Nat) (L : List Nat) (lo : Nat) : ∀ (i a : Nat) (Rs : List Nat), rf_2 T t L lo i a Rs = (cn_l L lo i a).foldl (fun Rs M => rf_add Rs (fi_num T t M)) Rs := by
  intro i
  induction i with
  | zero => intro a Rs; rfl
  | succ i ih =>
    intro a Rs
    show rf_2 T t L lo i (a + 1) (rf_at T t L lo a Rs) = _
    rw [ih]
    show _ = (cn_at L lo a ++ cn_l L lo i (a + 1)).foldl _ Rs
    rw [List.foldl_append]
    congr 1
    unfold rf_at cn_at
    cases L[a]? with
    | none => rfl
    | some x =>
      show (if x < 100 then _ else _) = (if x < 100 then _ else _ : List (List Nat)).foldl _ Rs
      by_cases hx : x < 100
      · rw [if_pos hx, if_pos hx, rf_ms_f]
      · rw [if_neg hx, if_neg hx]; rfl
theorem rf_fold (F : List Nat → Option Nat) : ∀ (l : List (List Nat)) (Rs : List Nat), (Rs ++ l.filterMap F).Nodup → l.foldl (fun Rs M => rf_add Rs (F M)) Rs = Rs ++ l.filterMap F := by
  intro l
  induction l with
  | nil => intro Rs _; simp
  | cons M l ih =>
    intro Rs hn
    rw [List.foldl_cons]
    cases hF : F M with
    | none =>
      rw [List.filterMap_cons_none hF] at hn ⊢
      exact ih Rs hn
    | some r =>
      rw [List.filterMap_cons_some hF] at hn ⊢
      have hr : r ∉ Rs := fun z => by
        rw [List.nodup_append] at hn
        exact hn.2.2 r z r List.mem_cons_self rfl
      have e1 : rf_add Rs (some r) = Rs ++ [r] := if_neg hr
      rw [e1, ih (Rs ++ [r]) (by rw [List.append_assoc]; exact hn), List.append_assoc]; rfl
theorem srt_ext : ∀ (X Y : List Nat), X.Pairwise (fun a b => a < b) → Y.Pairwise (fun a b => a < b) → (∀ r, r ∈ X ↔ r ∈ Y) → X = Y := by
  intro X
  induction X with
  | nil =>
    intro Y _ _ h
    cases Y with
    | nil => rfl
    | cons y Y => exact absurd ((h y).mpr List.mem_cons_self) List.not_mem_nil
  | cons x X ih =>
    intro Y h1 h2 h
    cases Y with
    | nil => exact absurd ((h x).mp List.mem_cons_self) List.not_mem_nil
    | cons y Y =>
      rw [List.pairwise_cons] at h1 h2
      have hxy : x = y := by
        rcases List.mem_cons.mp ((h x).mp List.mem_cons_self) with z | z
        · exact z
        · rcases List.mem_cons.mp ((h y).mpr List.mem_cons_self) with k | k
          · exact k.symm
          · have a := h2.1 x z
            have b := h1.1 y k
            omega
      subst hxy
      rw [ih Y h1.2 h2.2 (fun r => ⟨fun z => ?_, fun z => ?_⟩)]
      · rcases List.mem_cons.mp ((h r).mp (List.mem_cons_of_mem _ z)) with k | k
        · have := h1.1 r z; omega
        · exact k
      · rcases List.mem_cons.mp ((h r).mpr (List.mem_cons_of_mem _ z)) with k | k
        · have := h2.1 r z; omega
        · exact k
theorem cn_mem {L : List Nat} {lo : Nat} : ∀ (i a : Nat) (M : List Nat), M ∈ cn_l L lo i a ↔ ∃ b x m, a ≤ b ∧ b < a + i ∧ L[b]? = some x ∧ x < 100 ∧ lo ≤ m ∧ m < x ∧ M = L.set b m := by
  intro i
  induction i with
  | zero =>
    intro a M
    constructor
    · intro z; cases z
    · rintro ⟨b, x, m, h1, h2, -⟩; omega
  | succ i ih =>
    intro a M
    show M ∈ cn_at L lo a ++ cn_l L lo i (a + 1) ↔ _
    rw [List.mem_append, ih]
    constructor
    · rintro (z | ⟨b, x, m, h1, h2, h3⟩)
      · unfold cn_at at z
        cases hx : L[a]? with
        | none => rw [hx] at z; cases z
        | some x =>
          rw [hx] at z
          have z : M ∈ (if x < 100 then (List.range' lo (x - lo)).map (fun m => L.set a m) else []) := z
          by_cases h100 : x < 100
          · rw [if_pos h100] at z
            obtain ⟨m, m1, rfl⟩ := List.mem_map.mp z
            rw [List.mem_range'] at m1
            obtain ⟨k, k1, k2⟩ := m1
            exact ⟨a, x, m, Nat.le_refl _, by omega, hx, h100, by omega, by omega, rfl⟩
          · rw [if_neg h100] at z; cases z
      · exact ⟨b, x, m, by omega, by omega, h3⟩
    · rintro ⟨b, x, m, h1, h2, h3, h4, h5, h6, rfl⟩
      by_cases hba : b = a
      · left
        subst hba
        unfold cn_at
        rw [h3]
        show _ ∈ (if x < 100 then _ else _)
        rw [if_pos h4]
        exact List.mem_map.mpr ⟨m, List.mem_range'.mpr ⟨m - lo, by omega, by omega⟩, rfl⟩
      · right
        exact ⟨b, x, m, by omega, by omega, h3, h4, h5, h6, rfl⟩
theorem set_split {L : List Nat} {b x : Nat} (h : L[b]? = some x) (m : Nat) : L = L.take b ++ x :: L.drop (b + 1) ∧ L.set b m = L.take b ++ m :: L.drop (b + 1) := by
  have hb := (List.getElem?_eq_some_iff.mp h).1
  have hx := (List.getElem?_eq_some_iff.mp h).2
  constructor
  · rw [← hx, ← List.drop_eq_getElem_cons hb, List.take_append_drop]
  · rw [List.set_eq_take_append_cons_drop, if_pos hb]
theorem cn_pw {L : List Nat} {lo : Nat} : ∀ (i a : Nat), (cn_l L lo i a).Pairwise cd_lt := by
  intro i
  induction i with
  | zero => intro a; exact List.Pairwise.nil
  | succ i ih =>
    intro a
    show (cn_at L lo a ++ cn_l L lo i (a + 1)).Pairwise cd_lt
    rw [List.pairwise_append]
    refine ⟨?_, ih (a + 1), fun M hM M' hM' => ?_⟩
    · unfold cn_at
      cases hx : L[a]? with
      | none => exact List.Pairwise.nil
      | some x =>
        show (if x < 100 then (List.range' lo (x - lo)).map (fun m => L.set a m) else []).Pairwise cd_lt
        split
        · rw [List.pairwise_map]
          refine List.Pairwise.imp ?_ (List.pairwise_lt_range' (s := lo) (n := x - lo) (step := 1))
          intro m m' hm
          rw [(set_split hx m).2, (set_split hx m').2]
          exact ⟨_, m, m', _, _, rfl, rfl, hm⟩
        · exact List.Pairwise.nil
    · have hM : M ∈ cn_l L lo 1 a := by
        show M ∈ cn_at L lo a ++ []
        rw [List.append_nil]; exact hM
      obtain ⟨b, x, m, h1, h2, h3, h4, h5, h6, rfl⟩ := (cn_mem 1 a M).mp hM
      obtain ⟨b', x', m', k1, k2, k3, k4, k5, k6, rfl⟩ := (cn_mem i (a + 1) M').mp hM'
      have hbl := (List.getElem?_eq_some_iff.mp h3).1
      have hgx : (L.set b' m')[b]? = some x := by rw [List.getElem?_set_ne (by omega)]; exact h3
      have htk : (L.set b' m').take b = L.take b := by
        rw [List.take_set_of_le (by omega)]
      obtain ⟨s1, -⟩ := set_split hgx 0
      rw [(set_split h3 m).2, s1, htk]
      exact ⟨_, m, x, _, _, rfl, rfl, h6⟩
