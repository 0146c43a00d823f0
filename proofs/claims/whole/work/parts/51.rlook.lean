/-! ===== the reference: look ===== -/
theorem nI_s1 {n : Nat} (h : n ≤ 300) : (nI n - 1).toInt = (n : Int) - 1 := by
  cases n with
  | zero => decide
  | succ n => rw [nI_pred, nI_toInt (by omega)]; omega
theorem lk_neg : ∀ a, a ≤ 5 → ¬ (0 : Int32) ≤ nI a - 100 := by decide +kernel
theorem lk_in {c n : Nat} (hc : c < 300) (hn : n ≤ 300) : ((0 : Int32) ≤ nI c ∧ nI c ≤ nI n - 1) ↔ c < n := by
  rw [Int32.le_iff_toInt_le, Int32.le_iff_toInt_le, nI_s1 hn, nI_toInt (by omega), show (0 : Int32).toInt = 0 by decide]
  omega
def lk_lo (xs : List sp_X) : Nat := if sp_hts xs = [] then 320 else sp_min (sp_hts xs)
theorem rc_snoc {g : sp_G} {q : sp_C} {n : Nat} {xs : List sp_X} {ps : List (List Nat)} {x : sp_X} {P : List Nat} (h : rc_pcs g q n xs ps) (hx : match x with
  | .inl m => m ≤ 5 ∧ sp_par q xs.length = 9 ∧ P = [m]
  | .inr p => sp_par q xs.length < 4 ∧ sp_wf g n (sp_par q xs.length) P ∧ it_f P = p.2.2.2 ∧ (∀ a ∈ P, a ≤ 5 ∨ (100 ≤ a ∧ a ≤ 105))) : rc_pcs g q n (xs ++ [x]) (ps ++ [P]) := by
  refine ⟨by rw [List.length_append, List.length_append, h.1]; rfl, fun j y P' hj hP => ?_⟩
  by_cases hjl : j < xs.length
  · rw [List.getElem?_append_left hjl] at hj
    rw [List.getElem?_append_left (by rw [h.1]; exact hjl)] at hP
    exact h.2 j y P' hj hP
  · have hj2 := (List.getElem?_eq_some_iff.mp hj).1
    rw [List.length_append] at hj2
    have hj2 : j < xs.length + 1 := hj2
    have hje : j = xs.length := by omega
    subst hje
    rw [List.getElem?_append_right (Nat.le_refl _), Nat.sub_self] at hj
    rw [List.getElem?_append_right (by rw [h.1]; exact Nat.le_refl _), h.1, Nat.sub_self] at hP
    have e1 : x = y := by simpa using hj
    have e2 : P = P' := by simpa using hP
    subst e1; subst e2
    exact hx
/-- what reading leaves: the pieces -/
theorem lk_wf {g : sp_G} (hg5 : g.2.1 ≤ 5) : ∀ (F t : Nat) (L : List Nat) (p : sp_P), sp_look g F t L = some p → (∀ q ∈ g.2.2.2, ∀ k, k < 3 → sp_par q k < 4 ∨ sp_par q k = 9 ∨ sp_par q k = 10) → (∀ a ∈ L, a ≤ 5 ∨ (100 ≤ a ∧ a ≤ 105)) → ∃ P, L = P ++ p.2 ∧ sp_wf g F t P ∧ it_f P = p.1.2.2 := by
  intro F
  induction F with
  | zero => intro t L p h; cases h
  | succ F ih =>
    intro t L p h hq hL
    cases L with
    | nil => cases h
    | cons a L =>
      have h : (if 100 ≤ a then match g.2.2.2[a - 100]? with | none => none | some q => if q.1 = t then sp_node q (sp_lka (sp_look g F) g q 3 0 [] L) else none else none) = some p := h
      by_cases ha : 100 ≤ a
      · rw [if_pos ha] at h
        cases hc : g.2.2.2[a - 100]? with
        | none => rw [hc] at h; cases h
        | some q =>
          rw [hc] at h
          have h : (if q.1 = t then sp_node q (sp_lka (sp_look g F) g q 3 0 [] L) else none) = some p := h
          by_cases hqt : q.1 = t
          · rw [if_pos hqt] at h
            have key : ∀ (j k : Nat) (xs : List sp_X) (M : List Nat) (ys : List sp_X) (Rm : List Nat) (ps : List (List Nat)), k + j = 3 → xs.length = k → rc_pcs g q F xs ps → (∀ a ∈ M, a ≤ 5 ∨ (100 ≤ a ∧ a ≤ 105)) → (∀ i, i < k → sp_par q i ≠ 10) → sp_lka (sp_look g F) g q j k xs M = some (ys, Rm) → ∃ ps2, rc_pcs g q F ys ps2 ∧ ps.flatten ++ M = ps2.flatten ++ Rm ∧ ys.length = sp_ar q := by
              intro j
              induction j with
              | zero =>
                intro k xs M ys Rm ps hk hx hps hM hne h
                have h : some (xs, M) = some (ys, Rm) := h
                cases h
                refine ⟨ps, hps, rfl, ?_⟩
                exact (sp_ar_of (by omega) (fun j hj => hne j (by omega)) (by rw [hx, show k = 3 by omega]; rfl)).symm
              | succ j ihj =>
                intro k xs M ys Rm ps hk hx hps hM hne h
                by_cases h10 : sp_par q k = 10
                · rw [sp_lka_10 h10] at h
                  cases h
                  exact ⟨ps, hps, rfl, (sp_ar_of (by omega) (fun j hj => hne j (by omega)) (by rw [hx]; exact h10)).symm⟩
                · have hne' : ∀ i, i < k + 1 → sp_par q i ≠ 10 := fun i hi => by
                    by_cases hik : i = k
                    · subst hik; exact h10
                    · exact hne i (by omega)
                  rcases hq q (List.mem_of_getElem? hc) k (by omega) with h4 | h9 | h9
                  · rw [sp_lka_t (by omega)] at h
                    cases hF : sp_look g F (sp_par q k) M with
                    | none => rw [hF] at h; cases h
                    | some p2 =>
                      rw [hF] at h
                      obtain ⟨P, e1, e2, e3⟩ := ih _ _ _ hF hq hM
                      have hM2 : ∀ a ∈ p2.2, a ≤ 5 ∨ (100 ≤ a ∧ a ≤ 105) := fun a ha => hM a (by rw [e1]; exact List.mem_append_right _ ha)
                      have hP2 : ∀ a ∈ P, a ≤ 5 ∨ (100 ≤ a ∧ a ≤ 105) := fun a ha => hM a (by rw [e1]; exact List.mem_append_left _ ha)
                      obtain ⟨ps2, r1, r2, r3⟩ := ihj (k + 1) (xs ++ [.inr (0, p2.1)]) p2.2 ys Rm (ps ++ [P]) (by omega) (by simp [hx]) (rc_snoc hps (by rw [hx]; exact ⟨h4, e2, e3, hP2⟩)) hM2 hne' h
                      refine ⟨ps2, r1, ?_, r3⟩
                      rw [← r2, List.flatten_append, List.flatten_singleton, List.append_assoc, ← e1]
                  · rw [sp_lka_9 h9] at h
                    cases M with
                    | nil => cases h
                    | cons b M =>
                      have h : (if g.1 ≤ b ∧ b ≤ g.2.1 then sp_lka (sp_look g F) g q j (k + 1) (xs ++ [.inl b]) M else none) = some (ys, Rm) := h
                      by_cases hb : g.1 ≤ b ∧ b ≤ g.2.1
                      · rw [if_pos hb] at h
                        obtain ⟨ps2, r1, r2, r3⟩ := ihj (k + 1) (xs ++ [.inl b]) M ys Rm (ps ++ [[b]]) (by omega) (by simp [hx]) (rc_snoc hps (by rw [hx]; exact ⟨by omega, h9, rfl⟩)) (fun a ha => hM a (List.mem_cons_of_mem _ ha)) hne' h
                        refine ⟨ps2, r1, ?_, r3⟩
                        rw [← r2, List.flatten_append, List.flatten_singleton, List.append_assoc]; rfl
                      · rw [if_neg hb] at h; cases h
                  · exact absurd h9 h10
            cases hr : sp_lka (sp_look g F) g q 3 0 [] L with
            | none => rw [hr] at h; cases h
            | some r =>
              rw [hr] at h
              obtain ⟨ys, Rm⟩ := r
              have h : (if sp_cond q.2.2.2.2 ys then some ((1 + sp_size ys, 1 + sp_max (sp_hts ys), sp_ints ys), Rm) else none) = some p := h
              by_cases hcd : sp_cond q.2.2.2.2 ys = true
              · rw [if_pos hcd] at h
                cases h
                obtain ⟨ps2, r1, r2, r3⟩ := key 3 0 [] L ys Rm [] rfl rfl ⟨rfl, fun j x P z => by simp at z⟩ (fun a ha => hL a (List.mem_cons_of_mem _ ha)) (fun i hi => absurd hi (by omega)) hr
                have r2 : L = ps2.flatten ++ Rm := r2
                refine ⟨a :: ps2.flatten, ?_, ⟨a - 100, q, ps2, hc, hqt, ?_, ?_, fun j P hj => ?_⟩, ?_⟩
                · rw [r2]; rfl
                · rw [r1.1]; exact r3
                · rw [show 100 + (a - 100) = a by omega]
                · have hjl : j < ys.length := by rw [← r1.1]; exact (List.getElem?_eq_some_iff.mp hj).1
                  have := r1.2 j ys[j] P (List.getElem?_eq_getElem hjl) hj
                  cases hy : ys[j] with
                  | inl m => rw [hy] at this; exact Or.inl ⟨m, this.1, this.2.1, this.2.2⟩
                  | inr w => rw [hy] at this; exact Or.inr ⟨this.1, this.2.1⟩
                · have := (rc_pcs_f r1).1
                  rw [← this]
                  exact List.filter_cons_of_neg (by simp; omega)
              · rw [if_neg hcd] at h; cases h
          · rw [if_neg hqt] at h; cases h
      · rw [if_neg ha] at h; cases h

section RLOOK
variable {G : ax_G} {A : rw_Ad}

set_option maxRecDepth 100000 in
set_option maxHeartbeats 4000000 in
theorem lo_e1 (hA : rw_nd A) (d : Nat) (s : Nat → Int32) (R2 : (Nat → Nat → Int32) × (Nat → Option Nat)) (h : ax_H) {ca N : Nat} {f : Nat → Int32} (hca : ∀ s, rw_O A (s, R2) h ca = some (.inl (0, N, .inl f))) {n a0 t : Nat} (hn : n ≤ 100) (ha0 : n ≤ a0) (ha1 : a0 ≤ 100) {Q : ax_P} (hq : Q (.inl (some (.int (-1)))) (rw_O A (s, R2) h)) : AW G mX7_look (d + 1) 0 0 Q 0 [(0, .ref (A.1 0)), (1, .ref ca), (2, .int (nI n)), (3, .int (nI a0)), (4, .int (nI t))] [] (rw_O A (s, R2) h) 0 0 := by
  refine ax_iload_n dX7_look_0 rfl ?_
  refine ax_iload_n dX7_look_1 rfl ?_
  refine ax_icmp_ge (tgt := 40) dX7_look_2 (by decide) (fun _ => ?_) (fun z => absurd (il_le n a0 ha0) z)
  refine ax_iconst (v := (-1)) dX7_look_40 (by decide) ?_
  exact ax_iret (st := []) dX7_look_41 rfl rfl hq
theorem lo_e2 (hA : rw_nd A) (d : Nat) (s : Nat → Int32) (R2 : (Nat → Nat → Int32) × (Nat → Option Nat)) (h : ax_H) {ca N : Nat} {f : Nat → Int32} (hca : ∀ s, rw_O A (s, R2) h ca = some (.inl (0, N, .inl f))) {n a0 t a nc : Nat} {v : Int32} (hN : N ≤ 100) (hn : n ≤ N) (ha0 : a0 < n) (hf : f a0 = nI a) (hv : nI a - 100 = v) (hs4 : s 4 = nI nc) (hno : ¬ ((0 : Int32) ≤ v ∧ v ≤ nI nc - 1)) {Q : ax_P} (hq : Q (.inl (some (.int (-1)))) (rw_O A (s, R2) h)) : AW G mX7_look (d + 1) 0 0 Q 0 [(0, .ref (A.1 0)), (1, .ref ca), (2, .int (nI n)), (3, .int (nI a0)), (4, .int (nI t))] [] (rw_O A (s, R2) h) 0 0 := by
  have hin0 : a0 < N := by omega
  refine ax_iload_n dX7_look_0 rfl ?_
  refine ax_iload_n dX7_look_1 rfl ?_
  refine ax_icmp_ge (tgt := 40) dX7_look_2 (by decide) (fun z => absurd z (il_nle n a0 ha0)) (fun _ => ?_)
  refine ax_aload_n dX7_look_5 rfl ?_
  refine ax_iload_n dX7_look_6 rfl ?_
  refine ax_ialdv (x := (nI a)) dX7_look_7 (hca _) (nI_in hin0 (by omega)) (by rw [nI_clamp (by omega)]; exact hf) ?_
  refine ax_bipush (v := 100) dX7_look_8 (by decide) ?_
  refine ax_isub dX7_look_10 ?_
  refine ax_top (y := v) (hv) ?_
  refine ax_iconst (v := 0) dX7_look_11 (by decide) ?_
  refine ax_aload_n dX7_look_12 rfl ?_
  refine ax_get (v := .int (nI nc)) dX7_look_13 fkX7_80 (rw_g0 hA) (congrArg (fun z => some (Value.int z)) (hs4)) ?_
  refine ax_iconst (v := 1) dX7_look_16 (by decide) ?_
  refine ax_isub dX7_look_17 ?_
  refine ax_callS (av := [.int v, .int 0, .int ((nI nc) - 1)]) (rest := []) (mc' := 0) (ms' := 0) dX7_look_18 rfl lkX7_58 rfl (Nat.le_of_ble_eq_true rfl) (Nat.le_of_ble_eq_true rfl) (by decide) (by decide) (r_isIn _ _ v 0 ((nI nc) - 1)) (fun E9 h9 q9 => by cases q9.1) (fun v9 h9 q9 => ?_)
  obtain ⟨e9, rfl⟩ := q9
  cases e9
  rw [if_neg hno]
  show AW G mX7_look (d + 1) 0 0 _ 21 [(0, .ref (A.1 0)), (1, .ref ca), (2, .int (nI n)), (3, .int (nI a0)), (4, .int (nI t))] [.int 0] (rw_O A (s, R2) h) 0 0
  refine ax_if_eq (tgt := 40) dX7_look_21 (by decide) (fun _ => ?_) (fun z => absurd rfl z)
  refine ax_iconst (v := (-1)) dX7_look_40 (by decide) ?_
  exact ax_iret (st := []) dX7_look_41 rfl rfl hq
theorem lo_e3 (hA : rw_nd A) (d : Nat) (s : Nat → Int32) (R2 : (Nat → Nat → Int32) × (Nat → Option Nat)) (h : ax_H) {ca N : Nat} {f : Nat → Int32} (hca : ∀ s, rw_O A (s, R2) h ca = some (.inl (0, N, .inl f))) {n a0 t a nc c ow : Nat} (hN : N ≤ 100) (hn : n ≤ N) (ha0 : a0 < n) (hf : f a0 = nI a) (hac : nI a - 100 = nI c) (hs4 : s 4 = nI nc) (hyes : (0 : Int32) ≤ nI c ∧ nI c ≤ nI nc - 1) (hc : c < 6) (how : R2.1 1 c = nI ow) (hot : ¬ nI ow = nI t) {Q : ax_P} (hq : Q (.inl (some (.int (-1)))) (rw_O A (s, R2) h)) : AW G mX7_look (d + 1) 0 0 Q 0 [(0, .ref (A.1 0)), (1, .ref ca), (2, .int (nI n)), (3, .int (nI a0)), (4, .int (nI t))] [] (rw_O A (s, R2) h) 0 0 := by
  have hin0 : a0 < N := by omega
  refine ax_iload_n dX7_look_0 rfl ?_
  refine ax_iload_n dX7_look_1 rfl ?_
  refine ax_icmp_ge (tgt := 40) dX7_look_2 (by decide) (fun z => absurd z (il_nle n a0 ha0)) (fun _ => ?_)
  refine ax_aload_n dX7_look_5 rfl ?_
  refine ax_iload_n dX7_look_6 rfl ?_
  refine ax_ialdv (x := (nI a)) dX7_look_7 (hca _) (nI_in hin0 (by omega)) (by rw [nI_clamp (by omega)]; exact hf) ?_
  refine ax_bipush (v := 100) dX7_look_8 (by decide) ?_
  refine ax_isub dX7_look_10 ?_
  refine ax_top (y := (nI c)) (hac) ?_
  refine ax_iconst (v := 0) dX7_look_11 (by decide) ?_
  refine ax_aload_n dX7_look_12 rfl ?_
  refine ax_get (v := .int (nI nc)) dX7_look_13 fkX7_80 (rw_g0 hA) (congrArg (fun z => some (Value.int z)) (hs4)) ?_
  refine ax_iconst (v := 1) dX7_look_16 (by decide) ?_
  refine ax_isub dX7_look_17 ?_
  refine ax_callS (av := [.int (nI c), .int 0, .int ((nI nc) - 1)]) (rest := []) (mc' := 0) (ms' := 0) dX7_look_18 rfl lkX7_58 rfl (Nat.le_of_ble_eq_true rfl) (Nat.le_of_ble_eq_true rfl) (by decide) (by decide) (r_isIn _ _ (nI c) 0 ((nI nc) - 1)) (fun E9 h9 q9 => by cases q9.1) (fun v9 h9 q9 => ?_)
  obtain ⟨e9, rfl⟩ := q9
  cases e9
  rw [if_pos hyes]
  show AW G mX7_look (d + 1) 0 0 _ 21 [(0, .ref (A.1 0)), (1, .ref ca), (2, .int (nI n)), (3, .int (nI a0)), (4, .int (nI t))] [.int 1] (rw_O A (s, R2) h) 0 0
  refine ax_if_eq (tgt := 40) dX7_look_21 (by decide) (fun z => absurd z (by decide)) (fun _ => ?_)
  refine ax_aload_n dX7_look_24 rfl ?_
  refine ax_get (v := .ref (A.1 1)) dX7_look_25 fkX7_13 (rw_g0 hA) rfl ?_
  refine ax_aload_n dX7_look_28 rfl ?_
  refine ax_iload_n dX7_look_29 rfl ?_
  refine ax_ialdv (x := (nI a)) dX7_look_30 (hca _) (nI_in hin0 (by omega)) (by rw [nI_clamp (by omega)]; exact hf) ?_
  refine ax_bipush (v := 100) dX7_look_31 (by decide) ?_
  refine ax_isub dX7_look_33 ?_
  refine ax_top (y := (nI c)) (hac) ?_
  refine ax_ialdv (x := (nI ow)) dX7_look_34 (rw_g1 hA) (nI_in hc (by decide)) (by rw [nI_clamp (by omega)]; exact how) ?_
  refine ax_iload dX7_look_35 rfl ?_
  refine ax_icmp_eq (tgt := 42) dX7_look_37 (by decide) (fun z => absurd z hot) (fun _ => ?_)
  refine ax_iconst (v := (-1)) dX7_look_40 (by decide) ?_
  exact ax_iret (st := []) dX7_look_41 rfl rfl hq
theorem lo_e4 (hA : rw_nd A) (d : Nat) (s : Nat → Int32) (R2 : (Nat → Nat → Int32) × (Nat → Option Nat)) (h : ax_H) {ca N : Nat} {f : Nat → Int32} (hca : ∀ s, rw_O A (s, R2) h ca = some (.inl (0, N, .inl f))) {n a0 t a nc c ow : Nat} (hN : N ≤ 100) (hn : n ≤ N) (ha0 : a0 < n) (hf : f a0 = nI a) (hac : nI a - 100 = nI c) (hs4 : s 4 = nI nc) (hyes : (0 : Int32) ≤ nI c ∧ nI c ≤ nI nc - 1) (hc : c < 6) (how : R2.1 1 c = nI ow) (hot : nI ow = nI t) {Q : ax_P} (kk : AW G mX7_look (d + 1) 0 0 Q 69 [(0, .ref (A.1 0)), (1, .ref ca), (2, .int (nI n)), (3, .int (nI a0)), (4, .int (nI t)), (5, .int (nI c)), (6, .int (nI (a0 + 1))), (7, .int (nI 1)), (8, .int (nI 320)), (9, .int (nI 0)), (10, .int (nI 0))] [] (rw_O A (s, R2) h) 0 0) : AW G mX7_look (d + 1) 0 0 Q 0 [(0, .ref (A.1 0)), (1, .ref ca), (2, .int (nI n)), (3, .int (nI a0)), (4, .int (nI t))] [] (rw_O A (s, R2) h) 0 0 := by
  have hin0 : a0 < N := by omega
  refine ax_iload_n dX7_look_0 rfl ?_
  refine ax_iload_n dX7_look_1 rfl ?_
  refine ax_icmp_ge (tgt := 40) dX7_look_2 (by decide) (fun z => absurd z (il_nle n a0 ha0)) (fun _ => ?_)
  refine ax_aload_n dX7_look_5 rfl ?_
  refine ax_iload_n dX7_look_6 rfl ?_
  refine ax_ialdv (x := (nI a)) dX7_look_7 (hca _) (nI_in hin0 (by omega)) (by rw [nI_clamp (by omega)]; exact hf) ?_
  refine ax_bipush (v := 100) dX7_look_8 (by decide) ?_
  refine ax_isub dX7_look_10 ?_
  refine ax_top (y := (nI c)) (hac) ?_
  refine ax_iconst (v := 0) dX7_look_11 (by decide) ?_
  refine ax_aload_n dX7_look_12 rfl ?_
  refine ax_get (v := .int (nI nc)) dX7_look_13 fkX7_80 (rw_g0 hA) (congrArg (fun z => some (Value.int z)) (hs4)) ?_
  refine ax_iconst (v := 1) dX7_look_16 (by decide) ?_
  refine ax_isub dX7_look_17 ?_
  refine ax_callS (av := [.int (nI c), .int 0, .int ((nI nc) - 1)]) (rest := []) (mc' := 0) (ms' := 0) dX7_look_18 rfl lkX7_58 rfl (Nat.le_of_ble_eq_true rfl) (Nat.le_of_ble_eq_true rfl) (by decide) (by decide) (r_isIn _ _ (nI c) 0 ((nI nc) - 1)) (fun E9 h9 q9 => by cases q9.1) (fun v9 h9 q9 => ?_)
  obtain ⟨e9, rfl⟩ := q9
  cases e9
  rw [if_pos hyes]
  show AW G mX7_look (d + 1) 0 0 _ 21 [(0, .ref (A.1 0)), (1, .ref ca), (2, .int (nI n)), (3, .int (nI a0)), (4, .int (nI t))] [.int 1] (rw_O A (s, R2) h) 0 0
  refine ax_if_eq (tgt := 40) dX7_look_21 (by decide) (fun z => absurd z (by decide)) (fun _ => ?_)
  refine ax_aload_n dX7_look_24 rfl ?_
  refine ax_get (v := .ref (A.1 1)) dX7_look_25 fkX7_13 (rw_g0 hA) rfl ?_
  refine ax_aload_n dX7_look_28 rfl ?_
  refine ax_iload_n dX7_look_29 rfl ?_
  refine ax_ialdv (x := (nI a)) dX7_look_30 (hca _) (nI_in hin0 (by omega)) (by rw [nI_clamp (by omega)]; exact hf) ?_
  refine ax_bipush (v := 100) dX7_look_31 (by decide) ?_
  refine ax_isub dX7_look_33 ?_
  refine ax_top (y := (nI c)) (hac) ?_
  refine ax_ialdv (x := (nI ow)) dX7_look_34 (rw_g1 hA) (nI_in hc (by decide)) (by rw [nI_clamp (by omega)]; exact how) ?_
  refine ax_iload dX7_look_35 rfl ?_
  refine ax_icmp_eq (tgt := 42) dX7_look_37 (by decide) (fun _ => ?_) (fun z => absurd hot z)
  refine ax_aload_n dX7_look_42 rfl ?_
  refine ax_iload_n dX7_look_43 rfl ?_
  refine ax_ialdv (x := (nI a)) dX7_look_44 (hca _) (nI_in hin0 (by omega)) (by rw [nI_clamp (by omega)]; exact hf) ?_
  refine ax_bipush (v := 100) dX7_look_45 (by decide) ?_
  refine ax_isub dX7_look_47 ?_
  refine ax_top (y := (nI c)) (hac) ?_
  refine ax_istore dX7_look_48 (by decide) ?_
  refine ax_sub (lv' := [(0, .ref (A.1 0)), (1, .ref ca), (2, .int (nI n)), (3, .int (nI a0)), (4, .int (nI t)), (5, .int (nI c))]) (fun _ z => z) ?_
  refine ax_iload_n dX7_look_50 rfl ?_
  refine ax_iconst (v := 1) dX7_look_51 (by decide) ?_
  refine ax_iadd dX7_look_52 ?_
  refine ax_top (y := (nI (a0 + 1))) (nI_1 a0) ?_
  refine ax_istore dX7_look_53 (by decide) ?_
  refine ax_sub (lv' := [(0, .ref (A.1 0)), (1, .ref ca), (2, .int (nI n)), (3, .int (nI a0)), (4, .int (nI t)), (5, .int (nI c)), (6, .int (nI (a0 + 1)))]) (fun _ z => z) ?_
  refine ax_iconst (v := 1) dX7_look_55 (by decide) ?_
  refine ax_istore dX7_look_56 (by decide) ?_
  refine ax_sub (lv' := [(0, .ref (A.1 0)), (1, .ref ca), (2, .int (nI n)), (3, .int (nI a0)), (4, .int (nI t)), (5, .int (nI c)), (6, .int (nI (a0 + 1))), (7, .int 1)]) (fun _ z => z) ?_
  refine ax_sipush (v := 320) dX7_look_58 (by decide) ?_
  refine ax_istore dX7_look_61 (by decide) ?_
  refine ax_sub (lv' := [(0, .ref (A.1 0)), (1, .ref ca), (2, .int (nI n)), (3, .int (nI a0)), (4, .int (nI t)), (5, .int (nI c)), (6, .int (nI (a0 + 1))), (7, .int 1), (8, .int 320)]) (fun _ z => z) ?_
  refine ax_iconst (v := 0) dX7_look_63 (by decide) ?_
  refine ax_istore dX7_look_64 (by decide) ?_
  refine ax_sub (lv' := [(0, .ref (A.1 0)), (1, .ref ca), (2, .int (nI n)), (3, .int (nI a0)), (4, .int (nI t)), (5, .int (nI c)), (6, .int (nI (a0 + 1))), (7, .int 1), (8, .int 320), (9, .int 0)]) (fun _ z => z) ?_
  refine ax_iconst (v := 0) dX7_look_66 (by decide) ?_
  refine ax_istore dX7_look_67 (by decide) ?_
  refine ax_sub (lv' := [(0, .ref (A.1 0)), (1, .ref ca), (2, .int (nI n)), (3, .int (nI a0)), (4, .int (nI t)), (5, .int (nI c)), (6, .int (nI (a0 + 1))), (7, .int 1), (8, .int 320), (9, .int 0), (10, .int 0)]) (fun _ z => z) ?_
  exact kk

set_option maxRecDepth 100000 in
set_option maxHeartbeats 4000000 in
theorem lo_i0 (hA : rw_nd A) (d : Nat) (s : Nat → Int32) (R2 : (Nat → Nat → Int32) × (Nat → Option Nat)) (h : ax_H) {ca N : Nat} {f : Nat → Int32} (hca : ∀ s, rw_O A (s, R2) h ca = some (.inl (0, N, .inl f))) {n a0 t c p sz lo hg k : Nat} (hc : c < 6) (hk : k < 3) (hn : n ≤ 100) (hp : n ≤ p) (hp1 : p ≤ 100) (h9 : R2.1 2 (3 * c + k) = nI 9) {Q : ax_P} (hq : Q (.inl (some (.int (-1)))) (rw_O A (s, R2) h)) : AW G mX7_look (d + 1) 0 0 Q 69 [(0, .ref (A.1 0)), (1, .ref ca), (2, .int (nI n)), (3, .int (nI a0)), (4, .int (nI t)), (5, .int (nI c)), (6, .int (nI p)), (7, .int (nI sz)), (8, .int (nI lo)), (9, .int (nI hg)), (10, .int (nI k))] [] (rw_O A (s, R2) h) 0 0 := by
  refine ax_iload dX7_look_69 rfl ?_
  refine ax_iconst (v := 3) dX7_look_71 (by decide) ?_
  refine ax_icmp_ge (tgt := 201) dX7_look_72 (by decide) (fun z => absurd z (il_nle 3 k hk)) (fun _ => ?_)
  refine ax_aload_n dX7_look_75 rfl ?_
  refine ax_get (v := .ref (A.1 2)) dX7_look_76 fkX7_17 (rw_g0 hA) rfl ?_
  refine ax_iconst (v := 3) dX7_look_79 (by decide) ?_
  refine ax_iload dX7_look_80 rfl ?_
  refine ax_imul dX7_look_82 ?_
  refine ax_top (y := (nI (3 * c))) ((pk_mul 3 c)) ?_
  refine ax_iload dX7_look_83 rfl ?_
  refine ax_iadd dX7_look_85 ?_
  refine ax_top (y := (nI (3 * c + k))) (nI_add _ _) ?_
  refine ax_ialdv (x := (nI 9)) dX7_look_86 (rw_g2 hA) (nI_in (by omega) (by decide)) (by rw [nI_clamp (by omega)]; exact h9) ?_
  refine ax_iconst (v := (-1)) dX7_look_87 (by decide) ?_
  refine ax_icmp_eq (tgt := 201) dX7_look_88 (by decide) (fun z => absurd z (by decide)) (fun _ => ?_)
  refine ax_aload_n dX7_look_91 rfl ?_
  refine ax_get (v := .ref (A.1 2)) dX7_look_92 fkX7_17 (rw_g0 hA) rfl ?_
  refine ax_iconst (v := 3) dX7_look_95 (by decide) ?_
  refine ax_iload dX7_look_96 rfl ?_
  refine ax_imul dX7_look_98 ?_
  refine ax_top (y := (nI (3 * c))) ((pk_mul 3 c)) ?_
  refine ax_iload dX7_look_99 rfl ?_
  refine ax_iadd dX7_look_101 ?_
  refine ax_top (y := (nI (3 * c + k))) (nI_add _ _) ?_
  refine ax_ialdv (x := (nI 9)) dX7_look_102 (rw_g2 hA) (nI_in (by omega) (by decide)) (by rw [nI_clamp (by omega)]; exact h9) ?_
  refine ax_istore dX7_look_103 (by decide) ?_
  refine ax_sub (lv' := [(0, .ref (A.1 0)), (1, .ref ca), (2, .int (nI n)), (3, .int (nI a0)), (4, .int (nI t)), (5, .int (nI c)), (6, .int (nI p)), (7, .int (nI sz)), (8, .int (nI lo)), (9, .int (nI hg)), (10, .int (nI k)), (11, .int (nI 9))]) (fun _ z => z) ?_
  refine ax_iload dX7_look_105 rfl ?_
  refine ax_bipush (v := 9) dX7_look_107 (by decide) ?_
  refine ax_icmp_ne (tgt := 144) dX7_look_109 (by decide) (fun z => absurd (by decide) z) (fun _ => ?_)
  refine ax_iload dX7_look_112 rfl ?_
  refine ax_iload_n dX7_look_114 rfl ?_
  refine ax_icmp_ge (tgt := 136) dX7_look_115 (by decide) (fun _ => ?_) (fun z => absurd (il_le n p hp) z)
  refine ax_iconst (v := (-1)) dX7_look_136 (by decide) ?_
  exact ax_iret (st := []) dX7_look_137 rfl rfl hq
theorem lo_i1 (hA : rw_nd A) (d : Nat) (s : Nat → Int32) (R2 : (Nat → Nat → Int32) × (Nat → Option Nat)) (h : ax_H) {ca N : Nat} {f : Nat → Int32} (hca : ∀ s, rw_O A (s, R2) h ca = some (.inl (0, N, .inl f))) {n a0 t c p sz lo hg k : Nat} {b l0 h0 : Nat} (hc : c < 6) (hk : k < 3) (hN : N ≤ 100) (hn : n ≤ N) (hp : p < n) (h9 : R2.1 2 (3 * c + k) = nI 9) (hf : f p = nI b) (hs1 : s 1 = nI l0) (hs2 : s 2 = nI h0) (hno : ¬ (nI l0 ≤ nI b ∧ nI b ≤ nI h0)) {Q : ax_P} (hq : Q (.inl (some (.int (-1)))) (rw_O A (s, R2) h)) : AW G mX7_look (d + 1) 0 0 Q 69 [(0, .ref (A.1 0)), (1, .ref ca), (2, .int (nI n)), (3, .int (nI a0)), (4, .int (nI t)), (5, .int (nI c)), (6, .int (nI p)), (7, .int (nI sz)), (8, .int (nI lo)), (9, .int (nI hg)), (10, .int (nI k))] [] (rw_O A (s, R2) h) 0 0 := by
  have hpN : p < N := by omega
  refine ax_iload dX7_look_69 rfl ?_
  refine ax_iconst (v := 3) dX7_look_71 (by decide) ?_
  refine ax_icmp_ge (tgt := 201) dX7_look_72 (by decide) (fun z => absurd z (il_nle 3 k hk)) (fun _ => ?_)
  refine ax_aload_n dX7_look_75 rfl ?_
  refine ax_get (v := .ref (A.1 2)) dX7_look_76 fkX7_17 (rw_g0 hA) rfl ?_
  refine ax_iconst (v := 3) dX7_look_79 (by decide) ?_
  refine ax_iload dX7_look_80 rfl ?_
  refine ax_imul dX7_look_82 ?_
  refine ax_top (y := (nI (3 * c))) ((pk_mul 3 c)) ?_
  refine ax_iload dX7_look_83 rfl ?_
  refine ax_iadd dX7_look_85 ?_
  refine ax_top (y := (nI (3 * c + k))) (nI_add _ _) ?_
  refine ax_ialdv (x := (nI 9)) dX7_look_86 (rw_g2 hA) (nI_in (by omega) (by decide)) (by rw [nI_clamp (by omega)]; exact h9) ?_
  refine ax_iconst (v := (-1)) dX7_look_87 (by decide) ?_
  refine ax_icmp_eq (tgt := 201) dX7_look_88 (by decide) (fun z => absurd z (by decide)) (fun _ => ?_)
  refine ax_aload_n dX7_look_91 rfl ?_
  refine ax_get (v := .ref (A.1 2)) dX7_look_92 fkX7_17 (rw_g0 hA) rfl ?_
  refine ax_iconst (v := 3) dX7_look_95 (by decide) ?_
  refine ax_iload dX7_look_96 rfl ?_
  refine ax_imul dX7_look_98 ?_
  refine ax_top (y := (nI (3 * c))) ((pk_mul 3 c)) ?_
  refine ax_iload dX7_look_99 rfl ?_
  refine ax_iadd dX7_look_101 ?_
  refine ax_top (y := (nI (3 * c + k))) (nI_add _ _) ?_
  refine ax_ialdv (x := (nI 9)) dX7_look_102 (rw_g2 hA) (nI_in (by omega) (by decide)) (by rw [nI_clamp (by omega)]; exact h9) ?_
  refine ax_istore dX7_look_103 (by decide) ?_
  refine ax_sub (lv' := [(0, .ref (A.1 0)), (1, .ref ca), (2, .int (nI n)), (3, .int (nI a0)), (4, .int (nI t)), (5, .int (nI c)), (6, .int (nI p)), (7, .int (nI sz)), (8, .int (nI lo)), (9, .int (nI hg)), (10, .int (nI k)), (11, .int (nI 9))]) (fun _ z => z) ?_
  refine ax_iload dX7_look_105 rfl ?_
  refine ax_bipush (v := 9) dX7_look_107 (by decide) ?_
  refine ax_icmp_ne (tgt := 144) dX7_look_109 (by decide) (fun z => absurd (by decide) z) (fun _ => ?_)
  refine ax_iload dX7_look_112 rfl ?_
  refine ax_iload_n dX7_look_114 rfl ?_
  refine ax_icmp_ge (tgt := 136) dX7_look_115 (by decide) (fun z => absurd z (il_nle n p hp)) (fun _ => ?_)
  refine ax_aload_n dX7_look_118 rfl ?_
  refine ax_iload dX7_look_119 rfl ?_
  refine ax_ialdv (x := (nI b)) dX7_look_121 (hca _) (nI_in hpN (by omega)) (by rw [nI_clamp (by omega)]; exact hf) ?_
  refine ax_aload_n dX7_look_122 rfl ?_
  refine ax_get (v := .int (nI l0)) dX7_look_123 fkX7_66 (rw_g0 hA) (congrArg (fun z => some (Value.int z)) (hs1)) ?_
  refine ax_aload_n dX7_look_126 rfl ?_
  refine ax_get (v := .int (nI h0)) dX7_look_127 fkX7_7 (rw_g0 hA) (congrArg (fun z => some (Value.int z)) (hs2)) ?_
  refine ax_callS (av := [.int (nI b), .int (nI l0), .int (nI h0)]) (rest := []) (mc' := 0) (ms' := 0) dX7_look_130 rfl lkX7_58 rfl (Nat.le_of_ble_eq_true rfl) (Nat.le_of_ble_eq_true rfl) (by decide) (by decide) (r_isIn _ _ (nI b) (nI l0) (nI h0)) (fun E9 h9 q9 => by cases q9.1) (fun v9 h9 q9 => ?_)
  obtain ⟨e9, rfl⟩ := q9
  cases e9
  rw [if_neg hno]
  show AW G mX7_look (d + 1) 0 0 _ 133 [(0, .ref (A.1 0)), (1, .ref ca), (2, .int (nI n)), (3, .int (nI a0)), (4, .int (nI t)), (5, .int (nI c)), (6, .int (nI p)), (7, .int (nI sz)), (8, .int (nI lo)), (9, .int (nI hg)), (10, .int (nI k)), (11, .int (nI 9))] [.int 0] (rw_O A (s, R2) h) 0 0
  refine ax_if_ne (tgt := 138) dX7_look_133 (by decide) (fun z => absurd rfl z) (fun _ => ?_)
  refine ax_iconst (v := (-1)) dX7_look_136 (by decide) ?_
  exact ax_iret (st := []) dX7_look_137 rfl rfl hq
theorem lo_i2 (hA : rw_nd A) (d : Nat) (s : Nat → Int32) (R2 : (Nat → Nat → Int32) × (Nat → Option Nat)) (h : ax_H) {ca N : Nat} {f : Nat → Int32} (hca : ∀ s, rw_O A (s, R2) h ca = some (.inl (0, N, .inl f))) {n a0 t c p sz lo hg k : Nat} {b l0 h0 : Nat} (hc : c < 6) (hk : k < 3) (hN : N ≤ 100) (hn : n ≤ N) (hp : p < n) (h9 : R2.1 2 (3 * c + k) = nI 9) (hf : f p = nI b) (hs1 : s 1 = nI l0) (hs2 : s 2 = nI h0) (hyes : nI l0 ≤ nI b ∧ nI b ≤ nI h0) {Q : ax_P} (kk : AW G mX7_look (d + 1) 0 0 Q 69 [(0, .ref (A.1 0)), (1, .ref ca), (2, .int (nI n)), (3, .int (nI a0)), (4, .int (nI t)), (5, .int (nI c)), (6, .int (nI (p + 1))), (7, .int (nI sz)), (8, .int (nI lo)), (9, .int (nI hg)), (10, .int (nI (k + 1)))] [] (rw_O A (s, R2) h) 0 0) : AW G mX7_look (d + 1) 0 0 Q 69 [(0, .ref (A.1 0)), (1, .ref ca), (2, .int (nI n)), (3, .int (nI a0)), (4, .int (nI t)), (5, .int (nI c)), (6, .int (nI p)), (7, .int (nI sz)), (8, .int (nI lo)), (9, .int (nI hg)), (10, .int (nI k))] [] (rw_O A (s, R2) h) 0 0 := by
  have hpN : p < N := by omega
  refine ax_iload dX7_look_69 rfl ?_
  refine ax_iconst (v := 3) dX7_look_71 (by decide) ?_
  refine ax_icmp_ge (tgt := 201) dX7_look_72 (by decide) (fun z => absurd z (il_nle 3 k hk)) (fun _ => ?_)
  refine ax_aload_n dX7_look_75 rfl ?_
  refine ax_get (v := .ref (A.1 2)) dX7_look_76 fkX7_17 (rw_g0 hA) rfl ?_
  refine ax_iconst (v := 3) dX7_look_79 (by decide) ?_
  refine ax_iload dX7_look_80 rfl ?_
  refine ax_imul dX7_look_82 ?_
  refine ax_top (y := (nI (3 * c))) ((pk_mul 3 c)) ?_
  refine ax_iload dX7_look_83 rfl ?_
  refine ax_iadd dX7_look_85 ?_
  refine ax_top (y := (nI (3 * c + k))) (nI_add _ _) ?_
  refine ax_ialdv (x := (nI 9)) dX7_look_86 (rw_g2 hA) (nI_in (by omega) (by decide)) (by rw [nI_clamp (by omega)]; exact h9) ?_
  refine ax_iconst (v := (-1)) dX7_look_87 (by decide) ?_
  refine ax_icmp_eq (tgt := 201) dX7_look_88 (by decide) (fun z => absurd z (by decide)) (fun _ => ?_)
  refine ax_aload_n dX7_look_91 rfl ?_
  refine ax_get (v := .ref (A.1 2)) dX7_look_92 fkX7_17 (rw_g0 hA) rfl ?_
  refine ax_iconst (v := 3) dX7_look_95 (by decide) ?_
  refine ax_iload dX7_look_96 rfl ?_
  refine ax_imul dX7_look_98 ?_
  refine ax_top (y := (nI (3 * c))) ((pk_mul 3 c)) ?_
  refine ax_iload dX7_look_99 rfl ?_
  refine ax_iadd dX7_look_101 ?_
  refine ax_top (y := (nI (3 * c + k))) (nI_add _ _) ?_
  refine ax_ialdv (x := (nI 9)) dX7_look_102 (rw_g2 hA) (nI_in (by omega) (by decide)) (by rw [nI_clamp (by omega)]; exact h9) ?_
  refine ax_istore dX7_look_103 (by decide) ?_
  refine ax_sub (lv' := [(0, .ref (A.1 0)), (1, .ref ca), (2, .int (nI n)), (3, .int (nI a0)), (4, .int (nI t)), (5, .int (nI c)), (6, .int (nI p)), (7, .int (nI sz)), (8, .int (nI lo)), (9, .int (nI hg)), (10, .int (nI k)), (11, .int (nI 9))]) (fun _ z => z) ?_
  refine ax_iload dX7_look_105 rfl ?_
  refine ax_bipush (v := 9) dX7_look_107 (by decide) ?_
  refine ax_icmp_ne (tgt := 144) dX7_look_109 (by decide) (fun z => absurd (by decide) z) (fun _ => ?_)
  refine ax_iload dX7_look_112 rfl ?_
  refine ax_iload_n dX7_look_114 rfl ?_
  refine ax_icmp_ge (tgt := 136) dX7_look_115 (by decide) (fun z => absurd z (il_nle n p hp)) (fun _ => ?_)
  refine ax_aload_n dX7_look_118 rfl ?_
  refine ax_iload dX7_look_119 rfl ?_
  refine ax_ialdv (x := (nI b)) dX7_look_121 (hca _) (nI_in hpN (by omega)) (by rw [nI_clamp (by omega)]; exact hf) ?_
  refine ax_aload_n dX7_look_122 rfl ?_
  refine ax_get (v := .int (nI l0)) dX7_look_123 fkX7_66 (rw_g0 hA) (congrArg (fun z => some (Value.int z)) (hs1)) ?_
  refine ax_aload_n dX7_look_126 rfl ?_
  refine ax_get (v := .int (nI h0)) dX7_look_127 fkX7_7 (rw_g0 hA) (congrArg (fun z => some (Value.int z)) (hs2)) ?_
  refine ax_callS (av := [.int (nI b), .int (nI l0), .int (nI h0)]) (rest := []) (mc' := 0) (ms' := 0) dX7_look_130 rfl lkX7_58 rfl (Nat.le_of_ble_eq_true rfl) (Nat.le_of_ble_eq_true rfl) (by decide) (by decide) (r_isIn _ _ (nI b) (nI l0) (nI h0)) (fun E9 h9 q9 => by cases q9.1) (fun v9 h9 q9 => ?_)
  obtain ⟨e9, rfl⟩ := q9
  cases e9
  rw [if_pos hyes]
  show AW G mX7_look (d + 1) 0 0 _ 133 [(0, .ref (A.1 0)), (1, .ref ca), (2, .int (nI n)), (3, .int (nI a0)), (4, .int (nI t)), (5, .int (nI c)), (6, .int (nI p)), (7, .int (nI sz)), (8, .int (nI lo)), (9, .int (nI hg)), (10, .int (nI k)), (11, .int (nI 9))] [.int 1] (rw_O A (s, R2) h) 0 0
  refine ax_if_ne (tgt := 138) dX7_look_133 (by decide) (fun _ => ?_) (fun z => absurd z (by decide))
  refine ax_iinc (v := (nI (p + 1))) dX7_look_138 rfl (nI_1 p) (by decide) ?_
  refine ax_sub (lv' := [(0, .ref (A.1 0)), (1, .ref ca), (2, .int (nI n)), (3, .int (nI a0)), (4, .int (nI t)), (5, .int (nI c)), (6, .int (nI (p + 1))), (7, .int (nI sz)), (8, .int (nI lo)), (9, .int (nI hg)), (10, .int (nI k)), (11, .int (nI 9))]) (fun _ z => z) ?_
  refine ax_goto (tgt := 195) dX7_look_141 (by decide) ?_
  refine ax_iinc (v := (nI (k + 1))) dX7_look_195 rfl (nI_1 k) (by decide) ?_
  refine ax_sub (lv' := [(0, .ref (A.1 0)), (1, .ref ca), (2, .int (nI n)), (3, .int (nI a0)), (4, .int (nI t)), (5, .int (nI c)), (6, .int (nI (p + 1))), (7, .int (nI sz)), (8, .int (nI lo)), (9, .int (nI hg)), (10, .int (nI (k + 1))), (11, .int (nI 9))]) (fun _ z => z) ?_
  refine ax_goto (tgt := 69) dX7_look_198 (by decide) ?_
  exact ax_sub (fun q hq => List.mem_append_left [(11, Value.int (nI 9))] hq) kk

set_option maxRecDepth 100000 in
set_option maxHeartbeats 4000000 in
theorem lo_part (hA : rw_nd A) (d : Nat) (s : Nat → Int32) (R2 : (Nat → Nat → Int32) × (Nat → Option Nat)) (h : ax_H) {ca N : Nat} {f : Nat → Int32} (hca : ∀ s, rw_O A (s, R2) h ca = some (.inl (0, N, .inl f))) {n a0 t c p sz lo hg k : Nat} {u : Nat} (hc : c < 6) (hk : k < 3) (hu : u < 4) (hlo : lo ≤ 320) (hhg : hg ≤ 100) (h9 : R2.1 2 (3 * c + k) = nI u) {Q0 : (Nat → Int32) → Prop} {Q1 : (Nat → Int32) → Nat → Nat → Nat → Prop} (IH : AW G mX7_look d 0 0 (fun r h1 => ∃ s', h1 = rw_O A (s', R2) h ∧ ((r = .inl (some (.int (-1))) ∧ Q0 s') ∨ ∃ (p2 z2 t2 : Nat), r = .inl (some (.int (nI p2))) ∧ p2 ≤ 100 ∧ z2 ≤ 100 ∧ t2 ≤ 100 ∧ s' 20 = nI z2 ∧ s' 21 = nI t2 ∧ Q1 s' p2 z2 t2)) 0 [(0, .ref (A.1 0)), (1, .ref ca), (2, .int (nI n)), (3, .int (nI p)), (4, .int (nI u))] [] (rw_O A (s, R2) h) 0 0) {Q : ax_P} (hq : ∀ s1, Q0 s1 → Q (.inl (some (.int (-1)))) (rw_O A (s1, R2) h)) (kk : ∀ s1 p2 z2 t2, p2 ≤ 100 → z2 ≤ 100 → t2 ≤ 100 → Q1 s1 p2 z2 t2 → AW G mX7_look (d + 1) 0 0 Q 69 [(0, .ref (A.1 0)), (1, .ref ca), (2, .int (nI n)), (3, .int (nI a0)), (4, .int (nI t)), (5, .int (nI c)), (6, .int (nI p2)), (7, .int (nI (sz + z2))), (8, .int (nI (min lo t2))), (9, .int (nI (max hg t2))), (10, .int (nI (k + 1)))] [] (rw_O A (s1, R2) h) 0 0) : AW G mX7_look (d + 1) 0 0 Q 69 [(0, .ref (A.1 0)), (1, .ref ca), (2, .int (nI n)), (3, .int (nI a0)), (4, .int (nI t)), (5, .int (nI c)), (6, .int (nI p)), (7, .int (nI sz)), (8, .int (nI lo)), (9, .int (nI hg)), (10, .int (nI k))] [] (rw_O A (s, R2) h) 0 0 := by
  refine ax_iload dX7_look_69 rfl ?_
  refine ax_iconst (v := 3) dX7_look_71 (by decide) ?_
  refine ax_icmp_ge (tgt := 201) dX7_look_72 (by decide) (fun z => absurd z (il_nle 3 k hk)) (fun _ => ?_)
  refine ax_aload_n dX7_look_75 rfl ?_
  refine ax_get (v := .ref (A.1 2)) dX7_look_76 fkX7_17 (rw_g0 hA) rfl ?_
  refine ax_iconst (v := 3) dX7_look_79 (by decide) ?_
  refine ax_iload dX7_look_80 rfl ?_
  refine ax_imul dX7_look_82 ?_
  refine ax_top (y := (nI (3 * c))) ((pk_mul 3 c)) ?_
  refine ax_iload dX7_look_83 rfl ?_
  refine ax_iadd dX7_look_85 ?_
  refine ax_top (y := (nI (3 * c + k))) (nI_add _ _) ?_
  refine ax_ialdv (x := (nI u)) dX7_look_86 (rw_g2 hA) (nI_in (by omega) (by decide)) (by rw [nI_clamp (by omega)]; exact h9) ?_
  refine ax_iconst (v := (-1)) dX7_look_87 (by decide) ?_
  refine ax_icmp_eq (tgt := 201) dX7_look_88 (by decide) (fun z => absurd z (nI_m1 (by omega))) (fun _ => ?_)
  refine ax_aload_n dX7_look_91 rfl ?_
  refine ax_get (v := .ref (A.1 2)) dX7_look_92 fkX7_17 (rw_g0 hA) rfl ?_
  refine ax_iconst (v := 3) dX7_look_95 (by decide) ?_
  refine ax_iload dX7_look_96 rfl ?_
  refine ax_imul dX7_look_98 ?_
  refine ax_top (y := (nI (3 * c))) ((pk_mul 3 c)) ?_
  refine ax_iload dX7_look_99 rfl ?_
  refine ax_iadd dX7_look_101 ?_
  refine ax_top (y := (nI (3 * c + k))) (nI_add _ _) ?_
  refine ax_ialdv (x := (nI u)) dX7_look_102 (rw_g2 hA) (nI_in (by omega) (by decide)) (by rw [nI_clamp (by omega)]; exact h9) ?_
  refine ax_istore dX7_look_103 (by decide) ?_
  refine ax_sub (lv' := [(0, .ref (A.1 0)), (1, .ref ca), (2, .int (nI n)), (3, .int (nI a0)), (4, .int (nI t)), (5, .int (nI c)), (6, .int (nI p)), (7, .int (nI sz)), (8, .int (nI lo)), (9, .int (nI hg)), (10, .int (nI k)), (11, .int (nI u))]) (fun _ z => z) ?_
  refine ax_iload dX7_look_105 rfl ?_
  refine ax_bipush (v := 9) dX7_look_107 (by decide) ?_
  refine ax_icmp_ne (tgt := 144) dX7_look_109 (by decide) (fun _ => ?_) (fun z => absurd z (il_ne u 9 (by omega)))
  refine ax_aload_n dX7_look_144 rfl ?_
  refine ax_aload_n dX7_look_145 rfl ?_
  refine ax_iload_n dX7_look_146 rfl ?_
  refine ax_iload dX7_look_147 rfl ?_
  refine ax_iload dX7_look_149 rfl ?_
  refine ax_callV (b := (A.1 0)) (av := [.ref ca, .int (nI n), .int (nI p), .int (nI u)]) (rest := []) (mc' := 0) (ms' := 0) dX7_look_151 rfl lkX7_83 (rw_g0 hA) rfl (Nat.le_of_ble_eq_true rfl) (Nat.le_of_ble_eq_true rfl) (by decide) (by decide) (IH) (fun E9 h9 q9 => by obtain ⟨s1, -, (⟨e9, -⟩ | ⟨p2, z2, t2, e9, -⟩)⟩ := q9 <;> cases e9) (fun v9 h9 q9 => ?_)
  obtain ⟨s1, rfl, (⟨e9, o1⟩ | ⟨p2, z2, t2, e9, o1, o2, o3, o4, o5, o6⟩)⟩ := q9
  · cases e9
    have hq := hq s1 o1
    show AW G mX7_look (d + 1) 0 0 _ 154 [(0, .ref (A.1 0)), (1, .ref ca), (2, .int (nI n)), (3, .int (nI a0)), (4, .int (nI t)), (5, .int (nI c)), (6, .int (nI p)), (7, .int (nI sz)), (8, .int (nI lo)), (9, .int (nI hg)), (10, .int (nI k)), (11, .int (nI u))] [.int (-1)] (rw_O A (s1, R2) h) 0 0
    refine ax_istore dX7_look_154 (by decide) ?_
    refine ax_sub (lv' := [(0, .ref (A.1 0)), (1, .ref ca), (2, .int (nI n)), (3, .int (nI a0)), (4, .int (nI t)), (5, .int (nI c)), (6, .int (-1)), (7, .int (nI sz)), (8, .int (nI lo)), (9, .int (nI hg)), (10, .int (nI k)), (11, .int (nI u))]) (fun _ z => z) ?_
    refine ax_iload dX7_look_156 rfl ?_
    refine ax_iconst (v := (-1)) dX7_look_158 (by decide) ?_
    refine ax_icmp_ne (tgt := 164) dX7_look_159 (by decide) (fun z => absurd rfl z) (fun _ => ?_)
    refine ax_iconst (v := (-1)) dX7_look_162 (by decide) ?_
    exact ax_iret (st := []) dX7_look_163 rfl rfl hq
  · cases e9
    have kk := kk s1 p2 z2 t2 o1 o2 o3 o6
    have hmn : (if nI t2 < nI lo then nI t2 else nI lo) = nI (min lo t2) := by
      by_cases z : t2 < lo
      · rw [if_pos (il_lt t2 lo z), show min lo t2 = t2 by omega]
      · rw [if_neg (il_nlt t2 lo (by omega)), show min lo t2 = lo by omega]
    have hmx : (if nI hg < nI t2 then nI t2 else nI hg) = nI (max hg t2) := by
      by_cases z : hg < t2
      · rw [if_pos (il_lt hg t2 z), show max hg t2 = t2 by omega]
      · rw [if_neg (il_nlt hg t2 (by omega)), show max hg t2 = hg by omega]
    show AW G mX7_look (d + 1) 0 0 _ 154 [(0, .ref (A.1 0)), (1, .ref ca), (2, .int (nI n)), (3, .int (nI a0)), (4, .int (nI t)), (5, .int (nI c)), (6, .int (nI p)), (7, .int (nI sz)), (8, .int (nI lo)), (9, .int (nI hg)), (10, .int (nI k)), (11, .int (nI u))] [.int (nI p2)] (rw_O A (s1, R2) h) 0 0
    refine ax_istore dX7_look_154 (by decide) ?_
    refine ax_sub (lv' := [(0, .ref (A.1 0)), (1, .ref ca), (2, .int (nI n)), (3, .int (nI a0)), (4, .int (nI t)), (5, .int (nI c)), (6, .int (nI p2)), (7, .int (nI sz)), (8, .int (nI lo)), (9, .int (nI hg)), (10, .int (nI k)), (11, .int (nI u))]) (fun _ z => z) ?_
    refine ax_iload dX7_look_156 rfl ?_
    refine ax_iconst (v := (-1)) dX7_look_158 (by decide) ?_
    refine ax_icmp_ne (tgt := 164) dX7_look_159 (by decide) (fun _ => ?_) (fun z => absurd z (nI_m1 (by omega)))
    refine ax_iload dX7_look_164 rfl ?_
    refine ax_aload_n dX7_look_166 rfl ?_
    refine ax_get (v := .int (nI z2)) dX7_look_167 fkX7_87 (rw_g0 hA) (congrArg (fun z => some (Value.int z)) (o4)) ?_
    refine ax_iadd dX7_look_170 ?_
    refine ax_top (y := (nI (sz + z2))) (nI_add _ _) ?_
    refine ax_istore dX7_look_171 (by decide) ?_
    refine ax_sub (lv' := [(0, .ref (A.1 0)), (1, .ref ca), (2, .int (nI n)), (3, .int (nI a0)), (4, .int (nI t)), (5, .int (nI c)), (6, .int (nI p2)), (7, .int (nI (sz + z2))), (8, .int (nI lo)), (9, .int (nI hg)), (10, .int (nI k)), (11, .int (nI u))]) (fun _ z => z) ?_
    refine ax_iload dX7_look_173 rfl ?_
    refine ax_aload_n dX7_look_175 rfl ?_
    refine ax_get (v := .int (nI t2)) dX7_look_176 fkX7_90 (rw_g0 hA) (congrArg (fun z => some (Value.int z)) (o5)) ?_
    refine ax_mmin dX7_look_179 mlX7_93 ax_mS_min ax_iMath ax_mC_min (Nat.le_of_ble_eq_true rfl) ?_
    refine ax_top (y := (nI (min lo t2))) (hmn) ?_
    refine ax_istore dX7_look_182 (by decide) ?_
    refine ax_sub (lv' := [(0, .ref (A.1 0)), (1, .ref ca), (2, .int (nI n)), (3, .int (nI a0)), (4, .int (nI t)), (5, .int (nI c)), (6, .int (nI p2)), (7, .int (nI (sz + z2))), (8, .int (nI (min lo t2))), (9, .int (nI hg)), (10, .int (nI k)), (11, .int (nI u))]) (fun _ z => z) ?_
    refine ax_iload dX7_look_184 rfl ?_
    refine ax_aload_n dX7_look_186 rfl ?_
    refine ax_get (v := .int (nI t2)) dX7_look_187 fkX7_90 (rw_g0 hA) (congrArg (fun z => some (Value.int z)) (o5)) ?_
    refine ax_mmax dX7_look_190 mlX7_99 ax_mS_max ax_iMath ax_mC_max (Nat.le_of_ble_eq_true rfl) ?_
    refine ax_top (y := (nI (max hg t2))) (hmx) ?_
    refine ax_istore dX7_look_193 (by decide) ?_
    refine ax_sub (lv' := [(0, .ref (A.1 0)), (1, .ref ca), (2, .int (nI n)), (3, .int (nI a0)), (4, .int (nI t)), (5, .int (nI c)), (6, .int (nI p2)), (7, .int (nI (sz + z2))), (8, .int (nI (min lo t2))), (9, .int (nI (max hg t2))), (10, .int (nI k)), (11, .int (nI u))]) (fun _ z => z) ?_
    refine ax_iinc (v := (nI (k + 1))) dX7_look_195 rfl (nI_1 k) (by decide) ?_
    refine ax_sub (lv' := [(0, .ref (A.1 0)), (1, .ref ca), (2, .int (nI n)), (3, .int (nI a0)), (4, .int (nI t)), (5, .int (nI c)), (6, .int (nI p2)), (7, .int (nI (sz + z2))), (8, .int (nI (min lo t2))), (9, .int (nI (max hg t2))), (10, .int (nI (k + 1))), (11, .int (nI u))]) (fun _ z => z) ?_
    refine ax_goto (tgt := 69) dX7_look_198 (by decide) ?_
    exact ax_sub (fun q hq => List.mem_append_left [(11, Value.int (nI u))] hq) kk

set_option maxRecDepth 100000 in
set_option maxHeartbeats 4000000 in
theorem lo_z (hA : rw_nd A) (d : Nat) (s : Nat → Int32) (R2 : (Nat → Nat → Int32) × (Nat → Option Nat)) (h : ax_H) {ca N : Nat} {f : Nat → Int32} (hca : ∀ s, rw_O A (s, R2) h ca = some (.inl (0, N, .inl f))) {n a0 t c p sz lo hg mn df cd : Nat} {kv : Int32} (hc : c < 6) (hcd : R2.1 3 c = nI cd) {b : Bool} (hmn : (if nI hg < nI lo then nI hg else nI lo) = nI mn) (hdf : nI hg - nI mn = nI df) (htr : AW G mX7_isTrue d 0 0 (fun r h1 => r = .inl (some (.int (if b then 1 else 0))) ∧ h1 = (rw_O A (s, R2) h)) 0 [(0, .ref (A.1 0)), (1, .int (nI cd)), (2, .ref ca), (3, .int (nI a0)), (4, .int (nI p)), (5, .int (nI df)), (6, .int (nI c))] [] (rw_O A (s, R2) h) 0 0) {Q : ax_P} (hq0 : b = false → Q (.inl (some (.int (-1)))) (rw_O A (s, R2) h)) (hq1 : b = true → Q (.inl (some (.int (nI p)))) (rw_O A (upd (upd s 20 (nI sz)) 21 (nI (1 + hg)), R2) h)) : AW G mX7_look (d + 1) 0 0 Q 201 [(0, .ref (A.1 0)), (1, .ref ca), (2, .int (nI n)), (3, .int (nI a0)), (4, .int (nI t)), (5, .int (nI c)), (6, .int (nI p)), (7, .int (nI sz)), (8, .int (nI lo)), (9, .int (nI hg)), (10, .int kv)] [] (rw_O A (s, R2) h) 0 0 := by
  cases hb : b with
  | false =>
    have hq := hq0 hb
    have hcv : (if b then 1 else 0 : Int32) = 0 := by rw [hb]; rfl
    refine ax_aload_n dX7_look_201 rfl ?_
    refine ax_aload_n dX7_look_202 rfl ?_
    refine ax_get (v := .ref (A.1 3)) dX7_look_203 fkX7_20 (rw_g0 hA) rfl ?_
    refine ax_iload dX7_look_206 rfl ?_
    refine ax_ialdv (x := (nI cd)) dX7_look_208 (rw_g3 hA) (nI_in hc (by decide)) (by rw [nI_clamp (by omega)]; exact hcd) ?_
    refine ax_aload_n dX7_look_209 rfl ?_
    refine ax_iload_n dX7_look_210 rfl ?_
    refine ax_iload dX7_look_211 rfl ?_
    refine ax_iload dX7_look_213 rfl ?_
    refine ax_iload dX7_look_215 rfl ?_
    refine ax_iload dX7_look_217 rfl ?_
    refine ax_mmin dX7_look_219 mlX7_93 ax_mS_min ax_iMath ax_mC_min (Nat.le_of_ble_eq_true rfl) ?_
    refine ax_top (y := (nI mn)) (hmn) ?_
    refine ax_isub dX7_look_222 ?_
    refine ax_top (y := (nI df)) (hdf) ?_
    refine ax_iload dX7_look_223 rfl ?_
    refine ax_callV (b := (A.1 0)) (av := [.int (nI cd), .ref ca, .int (nI a0), .int (nI p), .int (nI df), .int (nI c)]) (rest := []) (mc' := 0) (ms' := 0) dX7_look_225 rfl lkX7_102 (rw_g0 hA) rfl (Nat.le_of_ble_eq_true rfl) (Nat.le_of_ble_eq_true rfl) (by decide) (by decide) (htr) (fun E9 h9 q9 => by cases q9.1) (fun v9 h9 q9 => ?_)
    obtain ⟨e9, rfl⟩ := q9
    rw [hcv] at e9
    cases e9
    show AW G mX7_look (d + 1) 0 0 _ 228 [(0, .ref (A.1 0)), (1, .ref ca), (2, .int (nI n)), (3, .int (nI a0)), (4, .int (nI t)), (5, .int (nI c)), (6, .int (nI p)), (7, .int (nI sz)), (8, .int (nI lo)), (9, .int (nI hg)), (10, .int kv)] [.int 0] (rw_O A (s, R2) h) 0 0
    refine ax_if_ne (tgt := 233) dX7_look_228 (by decide) (fun z => absurd rfl z) (fun _ => ?_)
    refine ax_iconst (v := (-1)) dX7_look_231 (by decide) ?_
    exact ax_iret (st := []) dX7_look_232 rfl rfl hq
  | true =>
    have hq := hq1 hb
    have hcv : (if b then 1 else 0 : Int32) = 1 := by rw [hb]; rfl
    refine ax_aload_n dX7_look_201 rfl ?_
    refine ax_aload_n dX7_look_202 rfl ?_
    refine ax_get (v := .ref (A.1 3)) dX7_look_203 fkX7_20 (rw_g0 hA) rfl ?_
    refine ax_iload dX7_look_206 rfl ?_
    refine ax_ialdv (x := (nI cd)) dX7_look_208 (rw_g3 hA) (nI_in hc (by decide)) (by rw [nI_clamp (by omega)]; exact hcd) ?_
    refine ax_aload_n dX7_look_209 rfl ?_
    refine ax_iload_n dX7_look_210 rfl ?_
    refine ax_iload dX7_look_211 rfl ?_
    refine ax_iload dX7_look_213 rfl ?_
    refine ax_iload dX7_look_215 rfl ?_
    refine ax_iload dX7_look_217 rfl ?_
    refine ax_mmin dX7_look_219 mlX7_93 ax_mS_min ax_iMath ax_mC_min (Nat.le_of_ble_eq_true rfl) ?_
    refine ax_top (y := (nI mn)) (hmn) ?_
    refine ax_isub dX7_look_222 ?_
    refine ax_top (y := (nI df)) (hdf) ?_
    refine ax_iload dX7_look_223 rfl ?_
    refine ax_callV (b := (A.1 0)) (av := [.int (nI cd), .ref ca, .int (nI a0), .int (nI p), .int (nI df), .int (nI c)]) (rest := []) (mc' := 0) (ms' := 0) dX7_look_225 rfl lkX7_102 (rw_g0 hA) rfl (Nat.le_of_ble_eq_true rfl) (Nat.le_of_ble_eq_true rfl) (by decide) (by decide) (htr) (fun E9 h9 q9 => by cases q9.1) (fun v9 h9 q9 => ?_)
    obtain ⟨e9, rfl⟩ := q9
    rw [hcv] at e9
    cases e9
    show AW G mX7_look (d + 1) 0 0 _ 228 [(0, .ref (A.1 0)), (1, .ref ca), (2, .int (nI n)), (3, .int (nI a0)), (4, .int (nI t)), (5, .int (nI c)), (6, .int (nI p)), (7, .int (nI sz)), (8, .int (nI lo)), (9, .int (nI hg)), (10, .int kv)] [.int 1] (rw_O A (s, R2) h) 0 0
    refine ax_if_ne (tgt := 233) dX7_look_228 (by decide) (fun _ => ?_) (fun z => absurd z (by decide))
    refine ax_aload_n dX7_look_233 rfl ?_
    refine ax_iload dX7_look_234 rfl ?_
    refine ax_put dX7_look_236 fpX7_87 (rw_g0 hA) rfl rfl (Nat.le_of_ble_eq_true rfl) ?_
    refine ax_eqh (rw_ps20 hA) ?_
    refine ax_aload_n dX7_look_239 rfl ?_
    refine ax_iconst (v := 1) dX7_look_240 (by decide) ?_
    refine ax_iload dX7_look_241 rfl ?_
    refine ax_iadd dX7_look_243 ?_
    refine ax_top (y := (nI (1 + hg))) (nI_add 1 hg) ?_
    refine ax_put dX7_look_244 fpX7_90 (rw_g0 hA) rfl rfl (Nat.le_of_ble_eq_true rfl) ?_
    refine ax_eqh (rw_ps21 hA) ?_
    refine ax_iload dX7_look_247 rfl ?_
    exact ax_iret (st := []) dX7_look_249 rfl rfl hq
theorem lo_x3 (hA : rw_nd A) (d : Nat) (s : Nat → Int32) (R2 : (Nat → Nat → Int32) × (Nat → Option Nat)) (h : ax_H) {ca N : Nat} {f : Nat → Int32} (hca : ∀ s, rw_O A (s, R2) h ca = some (.inl (0, N, .inl f))) {n a0 t c p sz lo hg : Nat} {Q : ax_P} (kk : AW G mX7_look (d + 1) 0 0 Q 201 [(0, .ref (A.1 0)), (1, .ref ca), (2, .int (nI n)), (3, .int (nI a0)), (4, .int (nI t)), (5, .int (nI c)), (6, .int (nI p)), (7, .int (nI sz)), (8, .int (nI lo)), (9, .int (nI hg)), (10, .int (nI 3))] [] (rw_O A (s, R2) h) 0 0) : AW G mX7_look (d + 1) 0 0 Q 69 [(0, .ref (A.1 0)), (1, .ref ca), (2, .int (nI n)), (3, .int (nI a0)), (4, .int (nI t)), (5, .int (nI c)), (6, .int (nI p)), (7, .int (nI sz)), (8, .int (nI lo)), (9, .int (nI hg)), (10, .int (nI 3))] [] (rw_O A (s, R2) h) 0 0 := by
  refine ax_iload dX7_look_69 rfl ?_
  refine ax_iconst (v := 3) dX7_look_71 (by decide) ?_
  refine ax_icmp_ge (tgt := 201) dX7_look_72 (by decide) (fun _ => ?_) (fun z => absurd (by decide) z)
  exact kk
theorem lo_x10 (hA : rw_nd A) (d : Nat) (s : Nat → Int32) (R2 : (Nat → Nat → Int32) × (Nat → Option Nat)) (h : ax_H) {ca N : Nat} {f : Nat → Int32} (hca : ∀ s, rw_O A (s, R2) h ca = some (.inl (0, N, .inl f))) {n a0 t c p sz lo hg k : Nat} (hc : c < 6) (hk : k < 3) (h9 : R2.1 2 (3 * c + k) = -1) {Q : ax_P} (kk : AW G mX7_look (d + 1) 0 0 Q 201 [(0, .ref (A.1 0)), (1, .ref ca), (2, .int (nI n)), (3, .int (nI a0)), (4, .int (nI t)), (5, .int (nI c)), (6, .int (nI p)), (7, .int (nI sz)), (8, .int (nI lo)), (9, .int (nI hg)), (10, .int (nI k))] [] (rw_O A (s, R2) h) 0 0) : AW G mX7_look (d + 1) 0 0 Q 69 [(0, .ref (A.1 0)), (1, .ref ca), (2, .int (nI n)), (3, .int (nI a0)), (4, .int (nI t)), (5, .int (nI c)), (6, .int (nI p)), (7, .int (nI sz)), (8, .int (nI lo)), (9, .int (nI hg)), (10, .int (nI k))] [] (rw_O A (s, R2) h) 0 0 := by
  refine ax_iload dX7_look_69 rfl ?_
  refine ax_iconst (v := 3) dX7_look_71 (by decide) ?_
  refine ax_icmp_ge (tgt := 201) dX7_look_72 (by decide) (fun z => absurd z (il_nle 3 k hk)) (fun _ => ?_)
  refine ax_aload_n dX7_look_75 rfl ?_
  refine ax_get (v := .ref (A.1 2)) dX7_look_76 fkX7_17 (rw_g0 hA) rfl ?_
  refine ax_iconst (v := 3) dX7_look_79 (by decide) ?_
  refine ax_iload dX7_look_80 rfl ?_
  refine ax_imul dX7_look_82 ?_
  refine ax_top (y := (nI (3 * c))) ((pk_mul 3 c)) ?_
  refine ax_iload dX7_look_83 rfl ?_
  refine ax_iadd dX7_look_85 ?_
  refine ax_top (y := (nI (3 * c + k))) (nI_add _ _) ?_
  refine ax_ialdv (x := (-1)) dX7_look_86 (rw_g2 hA) (nI_in (by omega) (by decide)) (by rw [nI_clamp (by omega)]; exact h9) ?_
  refine ax_iconst (v := (-1)) dX7_look_87 (by decide) ?_
  refine ax_icmp_eq (tgt := 201) dX7_look_88 (by decide) (fun _ => ?_) (fun z => absurd rfl z)
  exact kk
end RLOOK
