/-! ===== the reference: look, whole ===== -/
def lk_fr (s s' : Nat → Int32) : Prop := ∀ i, i ≠ 20 → i ≠ 21 → s' i = s i
theorem lk_fr_rfl (s : Nat → Int32) : lk_fr s s := fun _ _ _ => rfl
theorem lk_fr_tr {s1 s2 s3 : Nat → Int32} (a : lk_fr s1 s2) (b : lk_fr s2 s3) : lk_fr s1 s3 := fun i x y => (b i x y).trans (a i x y)
theorem lk_fr_g {s s' : Nat → Int32} {R2 : (Nat → Nat → Int32) × (Nat → Option Nat)} {g : sp_G} (h : lk_fr s s') (hg : rw_gr (s, R2) g) : rw_gr (s', R2) g :=
  ⟨(h 1 (by decide) (by decide)).trans hg.1, (h 2 (by decide) (by decide)).trans hg.2.1, (h 3 (by decide) (by decide)).trans hg.2.2.1, (h 4 (by decide) (by decide)).trans hg.2.2.2.1, hg.2.2.2.2⟩
theorem sp_hts_snocP (xs : List sp_X) (p : Nat × Nat × Nat × List Nat) : sp_hts (xs ++ [.inr p]) = sp_hts xs ++ [p.2.2.1] := by rw [sp_hts_app]; rfl
theorem sp_size_snocP (xs : List sp_X) (p : Nat × Nat × Nat × List Nat) : sp_size (xs ++ [.inr p]) = sp_size xs + p.2.1 := by rw [sp_size_app]; rfl
theorem lk_lo_s (xs : List sp_X) (p : Nat × Nat × Nat × List Nat) (hp : p.2.2.1 ≤ 320) : lk_lo (xs ++ [.inr p]) = min (lk_lo xs) p.2.2.1 := by
  unfold lk_lo
  rw [sp_hts_snocP, if_neg (by simp)]
  by_cases h : sp_hts xs = []
  · rw [if_pos h, h]; show p.2.2.1 = _; omega
  · rw [if_neg h, sp_min_app h (by simp)]; rfl
theorem lk_mx_s (xs : List sp_X) (p : Nat × Nat × Nat × List Nat) : sp_max (sp_hts (xs ++ [.inr p])) = max (sp_max (sp_hts xs)) p.2.2.1 := by
  rw [sp_hts_snocP, sp_max_app]
  show max _ (max p.2.2.1 0) = _
  omega
theorem lk_num {xs : List sp_X} {m : Nat} : sp_hts (xs ++ [.inl m]) = sp_hts xs ∧ sp_size (xs ++ [.inl m]) = sp_size xs := by
  rw [sp_hts_app, sp_size_app]
  exact ⟨List.append_nil _, rfl⟩
section RLOOK2
variable {G : ax_G} {A : rw_Ad}
/-- what a call of look leaves -/
def lk_Q (A : rw_Ad) (R2 : (Nat → Nat → Int32) × (Nat → Option Nat)) (h : ax_H) (g : sp_G) (F t : Nat) (L : List Nat) (a0 : Nat) (s : Nat → Int32) : ax_P := fun r h1 => ∃ s', h1 = rw_O A (s', R2) h ∧ lk_fr s s' ∧ ((r = .inl (some (.int (-1))) ∧ sp_look g F t (L.drop a0) = none) ∨ ∃ p, r = .inl (some (.int (nI (L.length - p.2.length)))) ∧ sp_look g F t (L.drop a0) = some p ∧ s' 20 = nI p.1.1 ∧ s' 21 = nI p.1.2.1)
set_option maxHeartbeats 4000000 in
theorem r_look (hA : rw_nd A) {g : sp_G} (hw : sp_wg g) (R2 : (Nat → Nat → Int32) × (Nat → Option Nat)) (h : ax_H) {ca N : Nat} {f : Nat → Int32} {L : List Nat} (hcd : rw_cd L N f) (hL : ∀ a ∈ L, a ≤ 5 ∨ (100 ≤ a ∧ a ≤ 105)) (hca : ∀ s, rw_O A (s, R2) h ca = some (.inl (0, N, .inl f))) : ∀ (F t a0 : Nat) (s : Nat → Int32), (L.drop a0).length < F → a0 ≤ L.length → rw_gr (s, R2) g → t < 4 → ∀ d, F + 1 ≤ d → AW G mX7_look d 0 0 (lk_Q A R2 h g F t L a0 s) 0 [(0, .ref (A.1 0)), (1, .ref ca), (2, .int (nI L.length)), (3, .int (nI a0)), (4, .int (nI t))] [] (rw_O A (s, R2) h) 0 0 := by
  obtain ⟨l1, l2, l3⟩ := id hcd
  have hg5 := hw.2.1
  have hnc := hw.2.2.2.1
  have hpq : ∀ q ∈ g.2.2.2, ∀ k, k < 3 → sp_par q k < 4 ∨ sp_par q k = 9 ∨ sp_par q k = 10 := fun q hq k hk => by
    have h4 := hw.2.2.1
    rcases (hw.2.2.2.2 q hq).2.1 k hk with z | z
    · exact Or.inl (by omega)
    · exact Or.inr z
  intro F
  induction F with
  | zero => intro t a0 s z; omega
  | succ F ih =>
    intro t a0 s hF ha0 hg ht d hd
    obtain ⟨d, rfl⟩ : ∃ k, d = k + 1 := ⟨d - 1, by omega⟩
    cases hdr : L.drop a0 with
    | nil =>
      have hal : L.length ≤ a0 := List.drop_eq_nil_iff.mp hdr
      refine lo_e1 hA d s R2 h hca (by omega) hal (by omega) ⟨s, rfl, lk_fr_rfl s, Or.inl ⟨rfl, ?_⟩⟩
      rw [hdr]; rfl
    | cons a L' =>
      obtain ⟨b1, b2, b3, b4⟩ := sp_drop_cons hdr
      have hla := hL a b4
      have hfa := l3 _ _ b2
      rw [hdr, List.length_cons] at hF
      have hlook : sp_look g (F + 1) t (L.drop a0) = (if 100 ≤ a then match g.2.2.2[a - 100]? with | none => none | some q => if q.1 = t then sp_node q (sp_lka (sp_look g F) g q 3 0 [] L') else none else none) := by rw [hdr]; rfl
      by_cases ha : 100 ≤ a
      · rw [if_pos ha] at hlook
        have hac : nI a - 100 = nI (a - 100) := by rw [show (100 : Int32) = nI 100 by decide, pk_sub ha]
        cases hc : g.2.2.2[a - 100]? with
        | none =>
          rw [hc] at hlook
          have hno : ¬ a - 100 < g.2.2.2.length := fun z => by rw [List.getElem?_eq_getElem z] at hc; cases hc
          refine lo_e2 hA d s R2 h hca l2 l1 b1 hfa hac hg.2.2.2.1 ?_ ⟨s, rfl, lk_fr_rfl s, Or.inl ⟨rfl, hlook⟩⟩
          rw [lk_in (by omega) (by omega)]; exact hno
        | some q =>
          have hlook : sp_look g (F + 1) t (L.drop a0) = (if q.1 = t then sp_node q (sp_lka (sp_look g F) g q 3 0 [] L') else none) := by rw [hlook, hc]
          have hcl := (List.getElem?_eq_some_iff.mp hc).1
          have hc6 : a - 100 < 6 := by omega
          have hyes : (0 : Int32) ≤ nI (a - 100) ∧ nI (a - 100) ≤ nI g.2.2.2.length - 1 := (lk_in (by omega) (by omega)).mpr hcl
          obtain ⟨r1, r2, r3⟩ := hg.2.2.2.2 _ q hc
          have hq4 : q.1 < 4 := by
            have := (hw.2.2.2.2 q (List.mem_of_getElem? hc)).1
            have := hw.2.2.1
            omega
          by_cases hqt : q.1 = t
          · rw [if_pos hqt] at hlook
            refine lo_e4 hA d s R2 h hca l2 l1 b1 hfa hac hg.2.2.2.1 hyes hc6 r1 (by rw [hqt]) ?_
            have loop : ∀ (j k : Nat) (s1 : Nat → Int32) (xs : List sp_X) (ps : List (List Nat)) (M : List Nat), k + j = 3 → xs.length = k → rc_pcs g q F xs ps → ps.flatten ++ M = L' → (∀ i, i < k → sp_par q i ≠ 10) → lk_fr s s1 → sp_lka (sp_look g F) g q j k xs M = sp_lka (sp_look g F) g q 3 0 [] L' → sp_size xs ≤ ps.flatten.length → (∀ n ∈ sp_hts xs, n ≤ 100) → AW G mX7_look (d + 1) 0 0 (lk_Q A R2 h g (F + 1) t L a0 s) 69 [(0, .ref (A.1 0)), (1, .ref ca), (2, .int (nI L.length)), (3, .int (nI a0)), (4, .int (nI t)), (5, .int (nI (a - 100))), (6, .int (nI (a0 + 1 + ps.flatten.length))), (7, .int (nI (1 + sp_size xs))), (8, .int (nI (lk_lo xs))), (9, .int (nI (sp_max (sp_hts xs)))), (10, .int (nI k))] [] (rw_O A (s1, R2) h) 0 0 := by
              intro j
              induction j with
              | zero =>
                intro k s1 xs ps M hk hx hps hM hne hfr hres hsz hhb
                have hk3 : k = 3 := by omega
                subst hk3
                have hmx : sp_max (sp_hts xs) ≤ 100 := sp_max_le hhb
                have hmm := sp_min_le_max (sp_hts xs)
                have har : xs.length = sp_ar q := (sp_ar_of (by omega) (fun j hj => hne j (by omega)) (by rw [hx]; rfl)).symm
                have hres : some (xs, M) = sp_lka (sp_look g F) g q 3 0 [] L' := hres
                refine lo_x3 hA d s1 R2 h hca ?_
                have hlL : ps.flatten.length + M.length = L'.length := by rw [← hM, List.length_append]
                have hLl : L.length - a0 = L'.length + 1 := by rw [← List.length_drop, hdr]; rfl
                have hcdq : q.2.2.2.2 ≤ 5 := (hw.2.2.2.2 q (List.mem_of_getElem? hc)).2.2.2.2.2
                obtain ⟨d, rfl⟩ : ∃ k, d = k + 1 := ⟨d - 1, by omega⟩
                refine lo_z hA (d + 1) s1 R2 h hca (mn := sp_min (sp_hts xs)) (df := sp_max (sp_hts xs) - sp_min (sp_hts xs)) (cd := q.2.2.2.2) (b := sp_cond q.2.2.2.2 xs) hc6 r3 ?_ (pk_sub hmm) ?_ (fun hb => ?_) (fun hb => ?_)
                · unfold lk_lo
                  by_cases hh0 : sp_hts xs = []
                  · rw [if_pos hh0, hh0]; decide
                  · rw [if_neg hh0]
                    by_cases z : sp_max (sp_hts xs) < sp_min (sp_hts xs)
                    · omega
                    · rw [if_neg (il_nlt _ _ (by omega) rfl rfl (by omega))]
                · exact r_isTrue hA hw (s1, R2) (lk_fr_g hfr hg) h hcd (hca s1) (rest := M) hc har hps (by rw [hdr, hM, show 100 + (a - 100) = a by omega]) rfl rfl hhb hcdq d (by omega)
                · refine ⟨s1, rfl, hfr, Or.inl ⟨rfl, ?_⟩⟩
                  rw [hlook, ← hres]
                  show (if sp_cond q.2.2.2.2 xs then some ((1 + sp_size xs, 1 + sp_max (sp_hts xs), sp_ints xs), M) else none) = none
                  rw [if_neg (by rw [hb]; decide)]
                · refine ⟨_, rfl, ?_, Or.inr ⟨((1 + sp_size xs, 1 + sp_max (sp_hts xs), sp_ints xs), M), ?_, ?_, rfl, rfl⟩⟩
                  · intro i x y
                    rw [pk_un y, pk_un x]; exact hfr i x y
                  · rw [show L.length - ((1 + sp_size xs, 1 + sp_max (sp_hts xs), sp_ints xs), M).2.length = a0 + 1 + ps.flatten.length by show L.length - M.length = _; omega]
                  · rw [hlook, ← hres]
                    show (if sp_cond q.2.2.2.2 xs then some ((1 + sp_size xs, 1 + sp_max (sp_hts xs), sp_ints xs), M) else none) = _
                    rw [if_pos hb]
              | succ j ihj =>
                intro k s1 xs ps M hk hx hps hM hne hfr hres hsz hhb
                have hk3 : k < 3 := by omega
                have hmx : sp_max (sp_hts xs) ≤ 100 := sp_max_le hhb
                have hmm := sp_min_le_max (sp_hts xs)
                have hpk := r2 k hk3
                have hlL : ps.flatten.length + M.length = L'.length := by rw [← hM, List.length_append]
                have hLl : L.length - a0 = L'.length + 1 := by rw [← List.length_drop, hdr]; rfl
                have hdk : L.drop (a0 + 1 + ps.flatten.length) = M := by
                  rw [← List.drop_drop, b3, ← hM, List.drop_left']
                  rfl
                have hlo : lk_lo xs ≤ 320 := by unfold lk_lo; split <;> omega
                by_cases h10 : sp_par q k = 10
                · have har : xs.length = sp_ar q := (sp_ar_of (by omega) (fun j hj => hne j (by omega)) (by rw [hx]; exact h10)).symm
                  rw [sp_lka_10 h10] at hres
                  refine lo_x10 hA d s1 R2 h hca hc6 hk3 (by show R2.1 2 _ = _; rw [hpk, h10]; decide) ?_
                  have hlL : ps.flatten.length + M.length = L'.length := by rw [← hM, List.length_append]
                  have hLl : L.length - a0 = L'.length + 1 := by rw [← List.length_drop, hdr]; rfl
                  have hcdq : q.2.2.2.2 ≤ 5 := (hw.2.2.2.2 q (List.mem_of_getElem? hc)).2.2.2.2.2
                  obtain ⟨d, rfl⟩ : ∃ k, d = k + 1 := ⟨d - 1, by omega⟩
                  refine lo_z hA (d + 1) s1 R2 h hca (mn := sp_min (sp_hts xs)) (df := sp_max (sp_hts xs) - sp_min (sp_hts xs)) (cd := q.2.2.2.2) (b := sp_cond q.2.2.2.2 xs) hc6 r3 ?_ (pk_sub hmm) ?_ (fun hb => ?_) (fun hb => ?_)
                  · unfold lk_lo
                    by_cases hh0 : sp_hts xs = []
                    · rw [if_pos hh0, hh0]; decide
                    · rw [if_neg hh0]
                      by_cases z : sp_max (sp_hts xs) < sp_min (sp_hts xs)
                      · omega
                      · rw [if_neg (il_nlt _ _ (by omega) rfl rfl (by omega))]
                  · exact r_isTrue hA hw (s1, R2) (lk_fr_g hfr hg) h hcd (hca s1) (rest := M) hc har hps (by rw [hdr, hM, show 100 + (a - 100) = a by omega]) rfl rfl hhb hcdq d (by omega)
                  · refine ⟨s1, rfl, hfr, Or.inl ⟨rfl, ?_⟩⟩
                    rw [hlook, ← hres]
                    show (if sp_cond q.2.2.2.2 xs then some ((1 + sp_size xs, 1 + sp_max (sp_hts xs), sp_ints xs), M) else none) = none
                    rw [if_neg (by rw [hb]; decide)]
                  · refine ⟨_, rfl, ?_, Or.inr ⟨((1 + sp_size xs, 1 + sp_max (sp_hts xs), sp_ints xs), M), ?_, ?_, rfl, rfl⟩⟩
                    · intro i x y
                      rw [pk_un y, pk_un x]; exact hfr i x y
                    · rw [show L.length - ((1 + sp_size xs, 1 + sp_max (sp_hts xs), sp_ints xs), M).2.length = a0 + 1 + ps.flatten.length by show L.length - M.length = _; omega]
                    · rw [hlook, ← hres]
                      show (if sp_cond q.2.2.2.2 xs then some ((1 + sp_size xs, 1 + sp_max (sp_hts xs), sp_ints xs), M) else none) = _
                      rw [if_pos hb]
                · have hne' : ∀ i, i < k + 1 → sp_par q i ≠ 10 := fun i hi => by
                    by_cases hik : i = k
                    · subst hik; exact h10
                    · exact hne i (by omega)
                  rcases hpq q (List.mem_of_getElem? hc) k hk3 with h4 | h9 | h9
                  · have hpk4 : R2.1 2 (3 * (a - 100) + k) = nI (sp_par q k) := by rw [hpk]; exact sp_pI_9 h10
                    rw [sp_lka_t (by omega)] at hres
                    refine lo_part hA d s1 R2 h hca (u := sp_par q k) (Q0 := fun s' => lk_fr s1 s' ∧ sp_look g F (sp_par q k) M = none) (Q1 := fun s' p2 z2 t2 => lk_fr s1 s' ∧ ∃ p, sp_look g F (sp_par q k) M = some p ∧ p2 = L.length - p.2.length ∧ z2 = p.1.1 ∧ t2 = p.1.2.1) hc6 hk3 h4 hlo hmx hpk4 ?_ (fun s2 o => ?_) (fun s2 p2 z2 t2 o1 o2 o3 o => ?_)
                    · refine ax_mono (ih (sp_par q k) (a0 + 1 + ps.flatten.length) s1 (by rw [hdk]; omega) (by omega) (lk_fr_g hfr hg) h4 d (by omega)) ?_
                      rintro r h1 ⟨s', e1, e2, (⟨e3, e4⟩ | ⟨p, e3, e4, e5, e6⟩)⟩
                      · rw [hdk] at e4
                        exact ⟨s', e1, Or.inl ⟨e3, e2, e4⟩⟩
                      · rw [hdk] at e4
                        obtain ⟨y1, y2, y3, y4, y5, L1, y6, y7⟩ := sp_look_ok hg5 _ _ _ _ e4
                        have hML : M.length = L1.length + p.2.length := by rw [y6, List.length_append]
                        exact ⟨s', e1, Or.inr ⟨L.length - p.2.length, p.1.1, p.1.2.1, e3, by omega, by omega, by omega, e5, e6, e2, p, e4, rfl, rfl, rfl⟩⟩
                    · rw [o.2] at hres
                      have hres : none = sp_lka (sp_look g F) g q 3 0 [] L' := hres
                      exact ⟨s2, rfl, lk_fr_tr hfr o.1, Or.inl ⟨rfl, by rw [hlook, ← hres]; rfl⟩⟩
                    · obtain ⟨of, p, e4, rfl, rfl, rfl⟩ := o
                      rw [e4] at hres
                      obtain ⟨y1, y2, y3, y4, y5, L1, y6, y7⟩ := sp_look_ok hg5 _ _ _ _ e4
                      have hML : M.length = L1.length + p.2.length := by rw [y6, List.length_append]
                      have hMe : ∀ a ∈ M, a ≤ 5 ∨ (100 ≤ a ∧ a ≤ 105) := fun x hx => hL x (List.mem_of_mem_drop (by rw [hdk]; exact hx))
                      obtain ⟨P, z1, z2, z3⟩ := lk_wf hg5 _ _ _ _ e4 hpq hMe
                      have hPL : P = L1 := by
                        have := z1.symm.trans y6
                        exact List.append_cancel_right this
                      have hP2 : ∀ a ∈ P, a ≤ 5 ∨ (100 ≤ a ∧ a ≤ 105) := fun x hx => hMe x (by rw [z1]; exact List.mem_append_left _ hx)
                      have hnx := ihj (k + 1) s2 (xs ++ [.inr (0, p.1)]) (ps ++ [P]) p.2 (by omega) (by simp [hx]) (rc_snoc hps (by rw [hx]; exact ⟨h4, z2, z3, hP2⟩)) (by rw [List.flatten_append, List.flatten_singleton, List.append_assoc, ← z1]; exact hM) hne' (lk_fr_tr hfr of) hres (by rw [sp_size_snocP, List.flatten_append, List.flatten_singleton, List.length_append, hPL]; show sp_size xs + p.1.1 ≤ _; omega) (fun x hx => by
                        rw [sp_hts_snocP] at hx
                        rcases List.mem_append.mp hx with z | z
                        · exact hhb x z
                        · rw [List.mem_singleton.mp z]; exact o3)
                      rw [sp_size_snocP, lk_lo_s _ _ (by show p.1.2.1 ≤ 320; omega), lk_mx_s, List.flatten_append, List.flatten_singleton, List.length_append, hPL] at hnx
                      rw [show L.length - p.2.length = a0 + 1 + (ps.flatten.length + L1.length) by omega, Nat.add_assoc 1 (sp_size xs)]
                      exact hnx
                  · have hpk9 : R2.1 2 (3 * (a - 100) + k) = nI 9 := by rw [hpk, h9]; decide
                    rw [sp_lka_9 h9] at hres
                    cases M with
                    | nil =>
                      have hres : none = sp_lka (sp_look g F) g q 3 0 [] L' := hres
                      rw [List.length_nil] at hlL
                      exact lo_i0 hA d s1 R2 h hca hc6 hk3 (by omega) (by omega) (by omega) hpk9 ⟨s1, rfl, hfr, Or.inl ⟨rfl, by rw [hlook, ← hres]; rfl⟩⟩
                    | cons b M =>
                      obtain ⟨v1, v2, v3, v4⟩ := sp_drop_cons hdk
                      have hb := hL b v4
                      have hres : (if g.1 ≤ b ∧ b ≤ g.2.1 then sp_lka (sp_look g F) g q j (k + 1) (xs ++ [.inl b]) M else none) = sp_lka (sp_look g F) g q 3 0 [] L' := hres
                      have hg1 := hw.1
                      have hiff : (nI g.1 ≤ nI b ∧ nI b ≤ nI g.2.1) ↔ (g.1 ≤ b ∧ b ≤ g.2.1) := by
                        rw [nI_leI (by omega) (by omega), nI_leI (by omega) (by omega)]
                      have hg' := lk_fr_g hfr hg
                      by_cases hbr : g.1 ≤ b ∧ b ≤ g.2.1
                      · rw [if_pos hbr] at hres
                        refine lo_i2 hA d s1 R2 h hca hc6 hk3 l2 l1 v1 hpk9 (l3 _ _ v2) hg'.1 hg'.2.1 (hiff.mpr hbr) ?_
                        have hnx := ihj (k + 1) s1 (xs ++ [.inl b]) (ps ++ [[b]]) M (by omega) (by simp [hx]) (rc_snoc hps (by rw [hx]; exact ⟨by omega, h9, rfl⟩)) (by rw [List.flatten_append, List.flatten_singleton, List.append_assoc]; exact hM) hne' hfr hres (by rw [lk_num.2, List.flatten_append, List.length_append]; omega) (by rw [lk_num.1]; exact hhb)
                        have hlo2 : lk_lo (xs ++ [.inl b]) = lk_lo xs := by unfold lk_lo; rw [lk_num.1]
                        rw [hlo2, lk_num.2, lk_num.1, List.flatten_append, List.flatten_singleton, List.length_append] at hnx
                        exact hnx
                      · rw [if_neg hbr] at hres
                        exact lo_i1 hA d s1 R2 h hca hc6 hk3 l2 l1 v1 hpk9 (l3 _ _ v2) hg'.1 hg'.2.1 (fun z => hbr (hiff.mp z)) ⟨s1, rfl, hfr, Or.inl ⟨rfl, by rw [hlook, ← hres]; rfl⟩⟩
                  · exact absurd h9 h10
            have := loop 3 0 s [] [] L' rfl rfl ⟨rfl, fun j x P z => by simp at z⟩ rfl (fun i hi => absurd hi (by omega)) (lk_fr_rfl s) rfl (by simp [sp_size]) (fun n hn => by cases hn)
            exact this
          · rw [if_neg hqt] at hlook
            refine lo_e3 hA d s R2 h hca l2 l1 b1 hfa hac hg.2.2.2.1 hyes hc6 r1 (fun z => hqt ((nI_eq (by omega) (by omega)).mp z)) ⟨s, rfl, lk_fr_rfl s, Or.inl ⟨rfl, hlook⟩⟩
      · rw [if_neg ha] at hlook
        have ha5 : a ≤ 5 := by omega
        exact lo_e2 hA d s R2 h hca l2 l1 b1 hfa rfl hg.2.2.2.1 (fun z => lk_neg a ha5 z.1) ⟨s, rfl, lk_fr_rfl s, Or.inl ⟨rfl, hlook⟩⟩
end RLOOK2
