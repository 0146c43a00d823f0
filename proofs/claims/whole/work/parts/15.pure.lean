/-! ===== what a value is: its arguments, and what the conditions ask of them ===== -/
/-- an argument: a number, or a value: its place, its size, its height, its ints -/
abbrev sp_X : Type := Nat ⊕ (Nat × Nat × Nat × List Nat)
def sp_ints : List sp_X → List Nat
  | [] => []
  | .inl n :: r => n :: sp_ints r
  | .inr q :: r => q.2.2.2 ++ sp_ints r
def sp_size : List sp_X → Nat
  | [] => 0
  | .inl _ :: r => sp_size r
  | .inr q :: r => q.2.1 + sp_size r
def sp_hts : List sp_X → List Nat
  | [] => []
  | .inl _ :: r => sp_hts r
  | .inr q :: r => q.2.2.1 :: sp_hts r
def sp_fst : List sp_X → Option Nat
  | [] => none
  | .inl n :: _ => some n
  | .inr _ :: r => sp_fst r
def sp_max : List Nat → Nat
  | [] => 0
  | a :: r => max a (sp_max r)
def sp_min : List Nat → Nat
  | [] => 0
  | [a] => a
  | a :: b :: r => min a (sp_min (b :: r))
def sp_asc : List Nat → Bool
  | [] => true
  | [_] => true
  | a :: b :: r => decide (a < b) && sp_asc (b :: r)
theorem sp_ints_app (xs ys : List sp_X) : sp_ints (xs ++ ys) = sp_ints xs ++ sp_ints ys := by
  induction xs with
  | nil => rfl
  | cons x r ih => cases x <;> simp [sp_ints, ih]
theorem sp_size_app (xs ys : List sp_X) : sp_size (xs ++ ys) = sp_size xs + sp_size ys := by
  induction xs with
  | nil => simp [sp_size]
  | cons x r ih => cases x <;> simp [sp_size, ih, Nat.add_assoc]
theorem sp_hts_app (xs ys : List sp_X) : sp_hts (xs ++ ys) = sp_hts xs ++ sp_hts ys := by
  induction xs with
  | nil => rfl
  | cons x r ih => cases x <;> simp [sp_hts, ih]
theorem sp_fst_app (xs ys : List sp_X) : sp_fst (xs ++ ys) = (sp_fst xs).orElse (fun _ => sp_fst ys) := by
  induction xs with
  | nil => rfl
  | cons x r ih => cases x <;> simp [sp_fst, ih]
theorem sp_max_app (a b : List Nat) : sp_max (a ++ b) = max (sp_max a) (sp_max b) := by
  induction a with
  | nil => simp [sp_max]
  | cons x r ih => simp [sp_max, ih, Nat.max_assoc]
theorem sp_min_cons (a : Nat) {r : List Nat} (h : r ≠ []) : sp_min (a :: r) = min a (sp_min r) := by
  cases r with
  | nil => exact absurd rfl h
  | cons b r => rfl
theorem sp_min_app {a b : List Nat} (ha : a ≠ []) (hb : b ≠ []) : sp_min (a ++ b) = min (sp_min a) (sp_min b) := by
  induction a with
  | nil => exact absurd rfl ha
  | cons x r ih =>
    cases r with
    | nil => rw [List.singleton_append, sp_min_cons x hb]; rfl
    | cons y r =>
      rw [List.cons_append, sp_min_cons x (by simp), ih (by simp), sp_min_cons x (by simp), Nat.min_assoc]
theorem sp_min_mem {a : List Nat} (h : a ≠ []) : sp_min a ∈ a := by
  induction a with
  | nil => exact absurd rfl h
  | cons x r ih =>
    cases r with
    | nil => exact List.mem_cons_self
    | cons y r =>
      rw [sp_min_cons x (by simp)]
      rcases Nat.le_total x (sp_min (y :: r)) with q | q
      · rw [Nat.min_eq_left q]; exact List.mem_cons_self
      · rw [Nat.min_eq_right q]; exact List.mem_cons_of_mem _ (ih (by simp))
theorem sp_asc_app {a b : List Nat} (ha : a ≠ []) (hb : b ≠ []) : sp_asc (a ++ b) = (sp_asc a && (decide (a.getLastD 0 < b.headD 0) && sp_asc b)) := by
  induction a with
  | nil => exact absurd rfl ha
  | cons x r ih =>
    cases r with
    | nil =>
      cases b with
      | nil => exact absurd rfl hb
      | cons y b => simp [sp_asc]
    | cons y r =>
      have h1 := ih (by simp)
      simp only [List.cons_append] at h1 ⊢
      simp only [sp_asc]
      rw [h1]
      simp [Bool.and_assoc]
/-- what the rows keep of a beginning with the arguments xs -/
def sp_ok (V nu : Nat → Int32) (pa : Nat → Option Nat) (t c : Nat) (xs : List sp_X) : Prop :=
  V 0 = nI t ∧ V 2 = nI c ∧ V 3 = nI xs.length ∧ V 6 = nI (1 + sp_size xs) ∧ V 7 = nI (1 + sp_max (sp_hts xs)) ∧ V 8 = nI (sp_min (sp_hts xs)) ∧ V 9 = (match sp_fst xs with | some n => nI n | none => -1) ∧
  V 10 = nI (sp_ints xs).length ∧ V 11 = nI (sp_ints xs).sum ∧ (sp_ints xs ≠ [] → V 12 = nI (sp_min (sp_ints xs)) ∧ V 13 = nI ((sp_ints xs).getLastD 0) ∧ V 14 = nI ((sp_ints xs).headD 0)) ∧ V 15 = (if sp_asc (sp_ints xs) then 1 else 0) ∧
  (∀ (j n : Nat), xs[j]? = some (.inl n) → nu j = nI n ∧ pa j = none) ∧ (∀ (j : Nat) (q : Nat × Nat × Nat × List Nat), xs[j]? = some (.inr q) → pa j = some q.1)
/-- arguments that can be -/
def sp_gx (x : sp_X) : Prop := match x with
  | .inl n => n ≤ 5
  | .inr q => 1 ≤ q.2.1 ∧ q.2.1 ≤ 8 ∧ 1 ≤ q.2.2.1 ∧ q.2.2.1 ≤ 8 ∧ q.2.2.2.length ≤ 24 ∧ ∀ n ∈ q.2.2.2, n ≤ 5
def sp_g (xs : List sp_X) : Prop := xs.length ≤ 3 ∧ ∀ x ∈ xs, sp_gx x
def vr_beg (t c : Int32) : Nat → Int32 := fun j => match j with
  | 0 => t
  | 1 => -1
  | 2 => c
  | 6 => 1
  | 7 => 1
  | 9 => -1
  | 15 => 1
  | _ => 0
def vr_num (V : Nat → Int32) (k : Int32) : Nat → Int32 := fun j => match j with
  | 3 => V 3 + 1
  | 9 => if 0 ≤ V 9 then V 9 else k
  | 10 => V 10 + 1
  | 11 => V 11 + k
  | 12 => if V 10 = 0 then k else (if V 12 ≤ k then V 12 else k)
  | 13 => k
  | 14 => if V 10 = 0 then k else V 14
  | 15 => if V 10 = 0 then V 15 else (if V 15 = 0 then 0 else (if k ≤ V 13 then 0 else 1))
  | j => V j
def vr_part (V W : Nat → Int32) : Nat → Int32 := fun j => match j with
  | 3 => if W 10 ≤ 0 then V 3 + 1 else (V 3 + 1)
  | 6 => if W 10 ≤ 0 then V 6 + W 6 else (V 6 + W 6)
  | 7 => if W 7 < V 7 then V 7 else W 7 + 1
  | 8 => if V 8 = 0 then W 7 else (if V 8 ≤ W 7 then V 8 else W 7)
  | 10 => if W 10 ≤ 0 then V 10 else V 10 + W 10
  | 11 => if W 10 ≤ 0 then V 11 else V 11 + W 11
  | 12 => if W 10 ≤ 0 then V 12 else (if V 10 = 0 then W 12 else (if V 12 ≤ W 12 then V 12 else W 12))
  | 13 => if W 10 ≤ 0 then V 13 else W 13
  | 14 => if W 10 ≤ 0 then V 14 else (if V 10 = 0 then W 14 else V 14)
  | 15 => if W 10 ≤ 0 then V 15 else (if ((if V 10 = 0 then V 15 else (if V 15 = 0 then 0 else (if W 14 ≤ V 13 then 0 else 1))) : Int32) = 0 then 0 else (if W 15 = 0 then 0 else 1))
  | j => V j
theorem sp_beg (t c : Nat) (nu : Nat → Int32) (pa : Nat → Option Nat) : sp_ok (vr_beg (nI t) (nI c)) nu pa t c [] :=
  ⟨rfl, rfl, rfl, rfl, rfl, rfl, rfl, rfl, rfl, fun h => absurd rfl h, rfl, fun j n h => by simp at h, fun j q h => by simp at h⟩
theorem sp_len_ints {xs : List sp_X} (h : ∀ x ∈ xs, sp_gx x) : (sp_ints xs).length ≤ 24 * xs.length ∧ (∀ n ∈ sp_ints xs, n ≤ 5) ∧ sp_size xs ≤ 8 * xs.length ∧ (∀ n ∈ sp_hts xs, 1 ≤ n ∧ n ≤ 8) := by
  induction xs with
  | nil => simp [sp_ints, sp_size, sp_hts]
  | cons x r ih =>
    obtain ⟨h1, h2, h3, h4⟩ := ih (fun y hy => h y (List.mem_cons_of_mem _ hy))
    have hx := h x List.mem_cons_self
    cases x with
    | inl n =>
      have hx : n ≤ 5 := hx
      refine ⟨by simp [sp_ints]; omega, ?_, by simp [sp_size]; omega, by simpa [sp_hts] using h4⟩
      intro m hm
      simp only [sp_ints, List.mem_cons] at hm
      rcases hm with rfl | hm
      · exact hx
      · exact h2 m hm
    | inr q =>
      obtain ⟨g1, g2, g3, g4, g5, g6⟩ := hx
      refine ⟨by simp [sp_ints]; omega, ?_, by simp [sp_size]; omega, ?_⟩
      · intro m hm
        simp only [sp_ints, List.mem_append] at hm
        rcases hm with hm | hm
        · exact g6 m hm
        · exact h2 m hm
      · intro m hm
        simp only [sp_hts, List.mem_cons] at hm
        rcases hm with rfl | hm
        · exact ⟨g3, g4⟩
        · exact h4 m hm
theorem sp_sum_le {l : List Nat} (h : ∀ n ∈ l, n ≤ 5) : l.sum ≤ 5 * l.length := by
  induction l with
  | nil => simp
  | cons a r ih =>
    have h1 := h a List.mem_cons_self
    have h2 := ih (fun n hn => h n (List.mem_cons_of_mem _ hn))
    simp; omega
theorem sp_max_le {l : List Nat} {m : Nat} (h : ∀ n ∈ l, n ≤ m) : sp_max l ≤ m := by
  induction l with
  | nil => simp [sp_max]
  | cons a r ih =>
    have h1 := h a List.mem_cons_self
    have h2 := ih (fun n hn => h n (List.mem_cons_of_mem _ hn))
    simp [sp_max]; omega
theorem sp_last_mem {l : List Nat} (h : l ≠ []) : l.getLastD 0 ∈ l := by
  cases l with
  | nil => exact absurd rfl h
  | cons a r => simp [List.getLastD, List.getLast_mem]
theorem sp_head_mem {l : List Nat} (h : l ≠ []) : l.headD 0 ∈ l := by
  cases l with
  | nil => exact absurd rfl h
  | cons a r => simp
