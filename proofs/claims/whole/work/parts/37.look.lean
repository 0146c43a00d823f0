/-! ===== reading a code: what it says, purely ===== -/
theorem ax_lift {G : ax_G} {M : ax_M} {d d' mc ms : Nat} {Q : ax_P} {pc : Nat} {lv : ax_L} {st : List Value} {h : ax_H} {cn sn : Nat} (hd : d ≤ d') (k : AW G M d mc ms Q pc lv st h cn sn) : AW G M d' mc ms Q pc lv st h cn sn := by
  intro p e s m args below meth c R H locs ls E Rm Fx Hp hS hl hc hs
  exact k p e s m args below meth c R H locs ls E ⟨Rm.1, Rm.2.1, by have := Rm.2.2.1; omega, by have := Rm.2.2.2; omega⟩ Fx Hp hS hl hc hs
abbrev sp_P : Type := (Nat × Nat × List Nat) × List Nat
def sp_lka (F : Nat → List Nat → Option sp_P) (g : sp_G) (q : sp_C) : Nat → Nat → List sp_X → List Nat → Option (List sp_X × List Nat)
  | 0, _, xs, L => some (xs, L)
  | j + 1, k, xs, L =>
    if sp_par q k = 10 then some (xs, L)
    else if sp_par q k = 9 then match L with
      | [] => none
      | a :: L' => if g.1 ≤ a ∧ a ≤ g.2.1 then sp_lka F g q j (k + 1) (xs ++ [.inl a]) L' else none
    else match F (sp_par q k) L with
      | none => none
      | some p => sp_lka F g q j (k + 1) (xs ++ [.inr (0, p.1)]) p.2
def sp_node (q : sp_C) (r : Option (List sp_X × List Nat)) : Option sp_P := match r with
  | none => none
  | some p => if sp_cond q.2.2.2.2 p.1 then some ((1 + sp_size p.1, 1 + sp_max (sp_hts p.1), sp_ints p.1), p.2) else none
/-- the value of a type that a code begins with: its size, its height, its ints; what follows -/
def sp_look (g : sp_G) : Nat → Nat → List Nat → Option sp_P
  | 0, _, _ => none
  | _ + 1, _, [] => none
  | n + 1, t, a :: L => if 100 ≤ a then match g.2.2.2[a - 100]? with
    | none => none
    | some q => if q.1 = t then sp_node q (sp_lka (sp_look g n) g q 3 0 [] L) else none
    else none
def sp_x0 (x : sp_X) : sp_X := match x with
  | .inl n => .inl n
  | .inr q => .inr (0, q.2)
theorem sp_x0_ints (xs : List sp_X) : sp_ints (xs.map sp_x0) = sp_ints xs := by
  induction xs with
  | nil => rfl
  | cons x r ih => cases x <;> simp [sp_ints, sp_x0, ih]
theorem sp_x0_size (xs : List sp_X) : sp_size (xs.map sp_x0) = sp_size xs := by
  induction xs with
  | nil => rfl
  | cons x r ih => cases x <;> simp [sp_size, sp_x0, ih]
theorem sp_x0_hts (xs : List sp_X) : sp_hts (xs.map sp_x0) = sp_hts xs := by
  induction xs with
  | nil => rfl
  | cons x r ih => cases x <;> simp [sp_hts, sp_x0, ih]
theorem sp_x0_fst (xs : List sp_X) : sp_fst (xs.map sp_x0) = sp_fst xs := by
  induction xs with
  | nil => rfl
  | cons x r ih => cases x <;> simp [sp_fst, sp_x0, ih]
theorem sp_x0_cond (k : Nat) (xs : List sp_X) : sp_cond k (xs.map sp_x0) = sp_cond k xs := by
  unfold sp_cond
  rw [sp_x0_ints, sp_x0_hts, sp_x0_fst]
theorem sp_size_mem : ∀ (xs : List sp_X) (q : Nat × Nat × Nat × List Nat), .inr q ∈ xs → q.2.1 ≤ sp_size xs := by
  intro xs
  induction xs with
  | nil => intro q z; cases z
  | cons x r ih3 =>
    intro q z
    cases x with
    | inl n =>
      rcases List.mem_cons.mp z with z | z
      · cases z
      · exact ih3 q z
    | inr p =>
      rcases List.mem_cons.mp z with z | z
      · cases z; show q.2.1 ≤ q.2.1 + _; omega
      · have := ih3 q z; show q.2.1 ≤ p.2.1 + sp_size r; omega
theorem sp_lka_size {F : Nat → List Nat → Option sp_P} {g : sp_G} {q : sp_C} : ∀ (j k : Nat) (xs : List sp_X) (L : List Nat) (ys : List sp_X) (R : List Nat), sp_lka F g q j k xs L = some (ys, R) → sp_size xs ≤ sp_size ys := by
  intro j
  induction j with
  | zero => intro k xs L ys R h; cases h; exact Nat.le_refl _
  | succ j ih =>
    intro k xs L ys R h
    unfold sp_lka at h
    split at h
    · cases h; exact Nat.le_refl _
    · split at h
      · split at h
        · cases h
        · split at h
          · have := ih _ _ _ _ _ h
            rw [sp_size_app] at this
            omega
          · cases h
      · split at h
        · cases h
        · have := ih _ _ _ _ _ h
          rw [sp_size_app] at this
          omega
theorem sp_look_pos {g : sp_G} {n t : Nat} {L : List Nat} {p : sp_P} (h : sp_look g n t L = some p) : 1 ≤ p.1.1 := by
  cases n with
  | zero => cases h
  | succ n =>
    cases L with
    | nil => cases h
    | cons a L =>
      unfold sp_look at h
      split at h
      · split at h
        · cases h
        · split at h
          · unfold sp_node at h
            split at h
            · cases h
            · split at h
              · cases h; show 1 ≤ 1 + _; omega
              · cases h
          · cases h
      · cases h
/-- what is found: a code ahead of the rest, its numbers in their bounds -/
def sp_lkok (p : sp_P) (L : List Nat) : Prop := p.1.2.1 ≤ p.1.1 ∧ 1 ≤ p.1.2.1 ∧ p.1.2.2.length ≤ 3 * p.1.1 ∧ (∀ m ∈ p.1.2.2, m ≤ 5) ∧ ∃ L1, L = L1 ++ p.2 ∧ L1.length = p.1.1 + p.1.2.2.length
def sp_aok (xs : List sp_X) : Prop := sp_max (sp_hts xs) ≤ sp_size xs ∧ (sp_ints xs).length ≤ 3 * sp_size xs + xs.length ∧ ∀ m ∈ sp_ints xs, m ≤ 5
theorem sp_lka_ok {F : Nat → List Nat → Option sp_P} {g : sp_G} (hg : g.2.1 ≤ 5) {q : sp_C} (hF : ∀ t L p, F t L = some p → 1 ≤ p.1.1 ∧ sp_lkok p L) : ∀ (j k : Nat) (xs : List sp_X) (L : List Nat) (ys : List sp_X) (R : List Nat), sp_lka F g q j k xs L = some (ys, R) → sp_aok xs → sp_aok ys ∧ ys.length ≤ xs.length + j ∧ ∃ L1, L = L1 ++ R ∧ L1.length + sp_size xs + (sp_ints xs).length = sp_size ys + (sp_ints ys).length := by
  intro j
  induction j with
  | zero => intro k xs L ys R h ha; cases h; exact ⟨ha, Nat.le_refl _, [], rfl, by simp⟩
  | succ j ih =>
    intro k xs L ys R h ha
    unfold sp_lka at h
    split at h
    · cases h; exact ⟨ha, by omega, [], rfl, by simp⟩
    · split at h
      · split at h
        · cases h
        · rename_i a L'
          split at h
          · rename_i hr
            have eI : sp_ints (xs ++ [.inl a]) = sp_ints xs ++ [a] := by rw [sp_ints_app]; rfl
            have eS : sp_size (xs ++ [.inl a]) = sp_size xs := by rw [sp_size_app]; simp [sp_size]
            have eH : sp_hts (xs ++ [.inl a]) = sp_hts xs := by rw [sp_hts_app]; simp [sp_hts]
            obtain ⟨b1, b2, L1, b3, b4⟩ := ih _ _ _ _ _ h ⟨by rw [eH, eS]; exact ha.1, by rw [eI, eS]; have := ha.2.1; simp; omega, by
              rw [eI]; intro m hm
              rcases List.mem_append.mp hm with z | z
              · exact ha.2.2 m z
              · simp at z; subst z; omega⟩
            rw [eI, eS] at b4
            simp at b2 b4
            exact ⟨b1, by omega, a :: L1, by rw [b3]; rfl, by simp; omega⟩
          · cases h
      · split at h
        · cases h
        · rename_i p hp
          obtain ⟨f0, f1, f2, f3, f4, L2, f5, f6⟩ := hF _ _ _ hp
          have eI : sp_ints (xs ++ [.inr (0, p.1)]) = sp_ints xs ++ p.1.2.2 := by rw [sp_ints_app]; simp [sp_ints]
          have eS : sp_size (xs ++ [.inr (0, p.1)]) = sp_size xs + p.1.1 := by rw [sp_size_app]; simp [sp_size]
          have eH : sp_hts (xs ++ [.inr (0, p.1)]) = sp_hts xs ++ [p.1.2.1] := by rw [sp_hts_app]; simp [sp_hts]
          obtain ⟨b1, b2, L1, b3, b4⟩ := ih _ _ _ _ _ h ⟨by rw [eH, eS, sp_max_app]; have := ha.1; simp [sp_max]; omega, by rw [eI, eS]; have := ha.2.1; simp; omega, by
            rw [eI]; intro m hm
            rcases List.mem_append.mp hm with z | z
            · exact ha.2.2 m z
            · exact f4 m z⟩
          rw [eI, eS] at b4
          simp at b2 b4
          exact ⟨b1, by omega, L2 ++ L1, by rw [f5, b3, List.append_assoc], by simp; omega⟩
theorem sp_look_ok {g : sp_G} (hg : g.2.1 ≤ 5) : ∀ (n t : Nat) (L : List Nat) (p : sp_P), sp_look g n t L = some p → 1 ≤ p.1.1 ∧ sp_lkok p L := by
  intro n
  induction n with
  | zero => intro t L p h; cases h
  | succ n ih =>
    intro t L p h
    refine ⟨sp_look_pos h, ?_⟩
    cases L with
    | nil => cases h
    | cons a L =>
      unfold sp_look at h
      split at h
      · split at h
        · cases h
        · rename_i q _
          split at h
          · unfold sp_node at h
            split at h
            · cases h
            · rename_i r hr
              split at h
              · cases h
                obtain ⟨b1, b2, L1, b3, b4⟩ := sp_lka_ok hg (fun t L p hp => ih t L p hp) 3 0 [] L r.1 r.2 hr ⟨by simp [sp_hts, sp_max], by simp [sp_ints], fun m hm => absurd hm (by simp [sp_ints])⟩
                simp [sp_size, sp_ints] at b4 b2
                refine ⟨?_, ?_, ?_, b1.2.2, a :: L1, by rw [b3]; rfl, ?_⟩
                · have := b1.1; show 1 + _ ≤ 1 + _; omega
                · show 1 ≤ 1 + _; omega
                · have := b1.2.1; show (sp_ints r.1).length ≤ 3 * (1 + sp_size r.1); omega
                · show (a :: L1).length = 1 + sp_size r.1 + (sp_ints r.1).length
                  simp; omega
              · cases h
          · cases h
      · cases h
/-- more fuel than the list is long changes nothing -/
theorem sp_lka_cong {F F' : Nat → List Nat → Option sp_P} {g : sp_G} {q : sp_C} {m : Nat} (hF : ∀ t L, L.length ≤ m → F t L = F' t L) (hS : ∀ t L p, F t L = some p → p.2.length ≤ L.length) : ∀ (j k : Nat) (xs : List sp_X) (L : List Nat), L.length ≤ m → sp_lka F g q j k xs L = sp_lka F' g q j k xs L := by
  intro j
  induction j with
  | zero => intro k xs L _; rfl
  | succ j ih =>
    intro k xs L hL
    unfold sp_lka
    rw [← hF _ L hL]
    split
    · rfl
    · split
      · split
        · rfl
        · split
          · apply ih; simp at hL; omega
          · rfl
      · split
        · rfl
        · rename_i p hp
          exact ih _ _ _ (Nat.le_trans (hS _ _ _ hp) hL)
theorem sp_look_len {g : sp_G} (hg : g.2.1 ≤ 5) {n t : Nat} {L : List Nat} {p : sp_P} (h : sp_look g n t L = some p) : p.2.length < L.length := by
  obtain ⟨h0, h1, h2, h3, h4, L1, h5, h6⟩ := sp_look_ok hg n t L p h
  rw [h5, List.length_append]; omega
theorem sp_look_fuel {g : sp_G} (hg : g.2.1 ≤ 5) : ∀ (n n' t : Nat) (L : List Nat), L.length < n → L.length < n' → sp_look g n t L = sp_look g n' t L := by
  intro n
  induction n with
  | zero => intro n' t L h; omega
  | succ n ih =>
    intro n' t L h h'
    obtain ⟨n', rfl⟩ : ∃ k, n' = k + 1 := ⟨n' - 1, by omega⟩
    cases L with
    | nil => rfl
    | cons a L =>
      simp at h h'
      have : ∀ q, sp_lka (sp_look g n) g q 3 0 [] L = sp_lka (sp_look g n') g q 3 0 [] L := fun q => sp_lka_cong (m := L.length) (fun t M hM => ih n' t M (by omega) (by omega)) (fun t M p hp => Nat.le_of_lt (sp_look_len hg hp)) 3 0 [] L (Nat.le_refl _)
      unfold sp_look
      simp only [this]
