/-! ===== in how many ints two Values differ ===== -/
def sp_sh (L : List Nat) : List Nat := L.map (fun a => if 100 ≤ a then a else 0)
def sp_ham (L M : List Nat) : Nat := (L.zip M).countP (fun p => decide (p.1 ≠ p.2))
def sp_wf (g : sp_G) : Nat → Nat → List Nat → Prop
  | 0, _, _ => False
  | n + 1, t, L => ∃ (c : Nat) (q : sp_C) (ps : List (List Nat)), g.2.2.2[c]? = some q ∧ q.1 = t ∧ ps.length = sp_ar q ∧ L = (100 + c) :: ps.flatten ∧ ∀ (j : Nat) (P : List Nat), ps[j]? = some P → (∃ m, m ≤ 5 ∧ sp_par q j = 9 ∧ P = [m]) ∨ (sp_par q j < 4 ∧ sp_wf g n (sp_par q j) P)
theorem st_cod_wf {g : sp_G} {S : cs_S} : ∀ {n v t : Nat} {L : List Nat}, st_cod g S n v t L → sp_wf g n t L := by
  intro n
  induction n with
  | zero => intro v t L z; exact z
  | succ n ih =>
    rintro v t L ⟨c, q, ps, h1, h2, h3, h4, h5, h6, h7, h8⟩
    refine ⟨c, q, ps, h2, h3, h4, h7, fun j P hP => ?_⟩
    rcases h8 j P hP with ⟨m, m1, m2, m3, m4, m5⟩ | ⟨w, w1, w2, w3⟩
    · exact Or.inl ⟨m, m1, m2, m3⟩
    · exact Or.inr ⟨w1, ih w3⟩
theorem sp_sh_app (L M : List Nat) : sp_sh (L ++ M) = sp_sh L ++ sp_sh M := List.map_append
theorem sp_sh_len {L M : List Nat} (h : sp_sh L = sp_sh M) : L.length = M.length := by
  have := congrArg List.length h
  simpa [sp_sh] using this
theorem sp_ham_app {L L' M M' : List Nat} (h : L.length = L'.length) : sp_ham (L ++ M) (L' ++ M') = sp_ham L L' + sp_ham M M' := by
  unfold sp_ham
  rw [List.zip_append h, List.countP_append]
/-- pieces of two codes, kind by kind -/
theorem sp_pcs {K K2 : Nat → List Nat → Prop} (hK : ∀ j P P' r r', K j P → K2 j P' → sp_sh P ++ r = sp_sh P' ++ r' → sp_sh P = sp_sh P' ∧ r = r') : ∀ (ps ps' : List (List Nat)) (j0 : Nat) (r r' : List Nat), ps.length = ps'.length → (∀ (i : Nat) (P : List Nat), ps[i]? = some P → K (j0 + i) P) → (∀ (i : Nat) (P : List Nat), ps'[i]? = some P → K2 (j0 + i) P) → sp_sh ps.flatten ++ r = sp_sh ps'.flatten ++ r' → (∀ (i : Nat) (P P' : List Nat), ps[i]? = some P → ps'[i]? = some P' → sp_sh P = sp_sh P') ∧ r = r' := by
  intro ps
  induction ps with
  | nil =>
    intro ps' j0 r r' hl h1 h2 he
    cases ps' with
    | nil => exact ⟨fun i P P' z => by simp at z, by simpa [sp_sh] using he⟩
    | cons a b => simp at hl
  | cons P ps ih =>
    intro ps' j0 r r' hl h1 h2 he
    cases ps' with
    | nil => simp at hl
    | cons P' ps' =>
      rw [List.flatten_cons, List.flatten_cons, sp_sh_app, sp_sh_app, List.append_assoc, List.append_assoc] at he
      obtain ⟨e1, e2⟩ := hK j0 P P' _ _ (h1 0 P rfl) (h2 0 P' rfl) he
      obtain ⟨e3, e4⟩ := ih ps' (j0 + 1) r r' (by simpa using hl) (fun i Q hQ => by have := h1 (i + 1) Q hQ; rwa [show j0 + (i + 1) = j0 + 1 + i by omega] at this) (fun i Q hQ => by have := h2 (i + 1) Q hQ; rwa [show j0 + (i + 1) = j0 + 1 + i by omega] at this) e2
      refine ⟨fun i Q Q' hQ hQ' => ?_, e4⟩
      cases i with
      | zero => simp at hQ hQ'; rw [← hQ, ← hQ']; exact e1
      | succ i => exact e3 i Q Q' (by simpa using hQ) (by simpa using hQ')
theorem sp_wf_sh {g : sp_G} : ∀ (n n' t : Nat) (L L' r r' : List Nat), sp_wf g n t L → sp_wf g n' t L' → sp_sh L ++ r = sp_sh L' ++ r' → sp_sh L = sp_sh L' ∧ r = r' := by
  intro n
  induction n with
  | zero => intro n' t L L' r r' z; exact z.elim
  | succ n ih =>
    intro n' t L L' r r' h1 h2 he
    cases n' with
    | zero => exact h2.elim
    | succ n' =>
      obtain ⟨c, q, ps, a1, a2, a3, a4, a5⟩ := h1
      obtain ⟨c', q', ps', b1, b2, b3, b4, b5⟩ := h2
      have hd : ∀ (c : Nat) (l : List Nat), sp_sh ((100 + c) :: l) = (100 + c) :: sp_sh l := fun c l => by simp [sp_sh]
      rw [a4, b4, hd, hd, List.cons_append, List.cons_append] at he
      injection he with e1 e2
      have hcc : c = c' := by omega
      subst hcc
      have hqq : q = q' := Option.some.inj (a1.symm.trans b1)
      subst hqq
      obtain ⟨f1, f2⟩ := sp_pcs (K := fun j P => (∃ m, m ≤ 5 ∧ sp_par q j = 9 ∧ P = [m]) ∨ (sp_par q j < 4 ∧ sp_wf g n (sp_par q j) P)) (K2 := fun j P => (∃ m, m ≤ 5 ∧ sp_par q j = 9 ∧ P = [m]) ∨ (sp_par q j < 4 ∧ sp_wf g n' (sp_par q j) P)) (fun j P P' r r' k1 k2 e => by
        rcases k1 with ⟨m, m1, m2, rfl⟩ | ⟨w1, w2⟩
        · rcases k2 with ⟨m', m1', m2', rfl⟩ | ⟨w1', w2'⟩
          · have z : sp_sh [m] = [0] := by simp [sp_sh]; omega
            have z' : sp_sh [m'] = [0] := by simp [sp_sh]; omega
            rw [z, z'] at e ⊢
            exact ⟨rfl, by simpa using e⟩
          · omega
        · rcases k2 with ⟨m', m1', m2', rfl⟩ | ⟨w1', w2'⟩
          · omega
          · exact ih n' _ P P' r r' w2 w2' e) ps ps' 0 r r' (a3.trans b3.symm) (fun i P hP => by rw [Nat.zero_add]; exact a5 i P hP) (fun i P hP => by rw [Nat.zero_add]; exact b5 i P hP) e2
      refine ⟨?_, f2⟩
      rw [a4, b4, hd, hd]
      rw [f2] at e2
      rw [List.append_cancel_right e2]

def sp_D (n : Nat) (L M : List Nat) (r : Nat) : Prop := (sp_sh L = sp_sh M → r = sp_ham L M) ∧ (sp_sh L ≠ sp_sh M → 100 ≤ r) ∧ r ≤ 100 * 4 ^ n
/-- what the pieces say of the whole -/
theorem sp_D_all {g : sp_G} {n n' t c : Nat} {q : sp_C} {ps ps' : List (List Nat)} {rs : List Nat} (hl : ps.length = sp_ar q) (hl' : ps'.length = sp_ar q) (hr : rs.length = ps.length)
    (h1 : ∀ (j : Nat) (P : List Nat), ps[j]? = some P → (∃ m, m ≤ 5 ∧ sp_par q j = 9 ∧ P = [m]) ∨ (sp_par q j < 4 ∧ sp_wf g n (sp_par q j) P)) (h2 : ∀ (j : Nat) (P : List Nat), ps'[j]? = some P → (∃ m, m ≤ 5 ∧ sp_par q j = 9 ∧ P = [m]) ∨ (sp_par q j < 4 ∧ sp_wf g n' (sp_par q j) P))
    (hD : ∀ (j : Nat) (P P' : List Nat) (r : Nat), ps[j]? = some P → ps'[j]? = some P' → rs[j]? = some r → sp_D n P P' r) : sp_D (n + 1) ((100 + c) :: ps.flatten) ((100 + c) :: ps'.flatten) rs.sum := by
  have hd : ∀ (c : Nat) (l : List Nat), sp_sh ((100 + c) :: l) = (100 + c) :: sp_sh l := fun c l => by simp [sp_sh]
  have hsum : ∀ (ps ps' : List (List Nat)) (rs : List Nat), ps.length = ps'.length → rs.length = ps.length → (∀ (j : Nat) (P P' : List Nat) (r : Nat), ps[j]? = some P → ps'[j]? = some P' → rs[j]? = some r → sp_D n P P' r) →
      ((∀ (i : Nat) (P P' : List Nat), ps[i]? = some P → ps'[i]? = some P' → sp_sh P = sp_sh P') → rs.sum = sp_ham ps.flatten ps'.flatten ∧ sp_sh ps.flatten = sp_sh ps'.flatten) ∧ ((∃ (i : Nat) (P P' : List Nat), ps[i]? = some P ∧ ps'[i]? = some P' ∧ sp_sh P ≠ sp_sh P') → 100 ≤ rs.sum) ∧ rs.sum ≤ ps.length * (100 * 4 ^ n) := by
    intro ps
    induction ps with
    | nil =>
      intro ps' rs h1 h2 _
      cases ps' with
      | cons a b => simp at h1
      | nil =>
        cases rs with
        | cons a b => simp at h2
        | nil => exact ⟨fun _ => ⟨rfl, rfl⟩, fun ⟨i, P, P', z, _⟩ => by simp at z, by simp⟩
    | cons P ps ih =>
      intro ps' rs h1 h2 hD
      cases ps' with
      | nil => simp at h1
      | cons P' ps' =>
        cases rs with
        | nil => simp at h2
        | cons r rs =>
          obtain ⟨i1, i2, i3⟩ := ih ps' rs (by simpa using h1) (by simpa using h2) (fun j A B x a b c => hD (j + 1) A B x (by simpa using a) (by simpa using b) (by simpa using c))
          obtain ⟨d1, d2, d3⟩ := hD 0 P P' r rfl rfl rfl
          refine ⟨fun hs => ?_, fun hn => ?_, ?_⟩
          · have s0 := hs 0 P P' rfl rfl
            obtain ⟨j1, j2⟩ := i1 (fun i A B a b => hs (i + 1) A B (by simpa using a) (by simpa using b))
            rw [List.flatten_cons, List.flatten_cons, List.sum_cons, sp_ham_app (sp_sh_len s0), d1 s0, j1, sp_sh_app, sp_sh_app, s0, j2]
            exact ⟨rfl, rfl⟩
          · rw [List.sum_cons]
            obtain ⟨i, A, B, a, b, c⟩ := hn
            cases i with
            | zero =>
              simp at a b
              subst a; subst b
              have := d2 c; omega
            | succ i =>
              have := i2 ⟨i, A, B, by simpa using a, by simpa using b, c⟩
              omega
          · rw [List.sum_cons, List.length_cons, Nat.succ_mul]
            omega
  obtain ⟨k1, k2, k3⟩ := hsum ps ps' rs (hl.trans hl'.symm) hr hD
  have har := sp_ar_le q
  refine ⟨fun he => ?_, fun hne => ?_, ?_⟩
  · rw [hd, hd] at he
    injection he with _ e2
    obtain ⟨f1, f2⟩ := sp_pcs (K := fun j P => (∃ m, m ≤ 5 ∧ sp_par q j = 9 ∧ P = [m]) ∨ (sp_par q j < 4 ∧ sp_wf g n (sp_par q j) P)) (K2 := fun j P => (∃ m, m ≤ 5 ∧ sp_par q j = 9 ∧ P = [m]) ∨ (sp_par q j < 4 ∧ sp_wf g n' (sp_par q j) P)) (fun j P P' r r' k1 k2 e => by
        rcases k1 with ⟨m, m1, m2, rfl⟩ | ⟨w1, w2⟩
        · rcases k2 with ⟨m', m1', m2', rfl⟩ | ⟨w1', w2'⟩
          · have z : sp_sh [m] = [0] := by simp [sp_sh]; omega
            have z' : sp_sh [m'] = [0] := by simp [sp_sh]; omega
            rw [z, z'] at e ⊢
            exact ⟨rfl, by simpa using e⟩
          · omega
        · rcases k2 with ⟨m', m1', m2', rfl⟩ | ⟨w1', w2'⟩
          · omega
          · exact sp_wf_sh n n' _ P P' r r' w2 w2' e) ps ps' 0 [] [] (hl.trans hl'.symm) (fun i P hP => by rw [Nat.zero_add]; exact h1 i P hP) (fun i P hP => by rw [Nat.zero_add]; exact h2 i P hP) (by rw [e2])
    obtain ⟨z1, z2⟩ := k1 f1
    rw [z1]
    show _ = sp_ham ([100 + c] ++ ps.flatten) ([100 + c] ++ ps'.flatten)
    rw [sp_ham_app rfl]
    simp [sp_ham]
  · refine k2 ?_
    apply Classical.byContradiction
    intro hno
    apply hne
    rw [hd, hd, (k1 (fun i P P' a b => Classical.byContradiction fun z => hno ⟨i, P, P', a, b, z⟩)).2]
  · have : ps.length * (100 * 4 ^ n) ≤ 3 * (100 * 4 ^ n) := Nat.mul_le_mul_right _ (by omega)
    rw [Nat.pow_succ]; omega
section DIST
variable {G : ax_G} {ad : cs_K → Nat}

set_option maxRecDepth 100000 in
set_option maxHeartbeats 4000000 in
theorem di_int (hi : cs_inj ad) (d : Nat) (S : cs_S) (h : ax_H) {v y dp j mm s : Nat} (hv : v < 312) (hy : y < 312) (h3 : cs_vf S v 3 = nI mm) (hm3 : mm ≤ 3) (hj : j < mm) {Q : ax_P} {m1 m2 : Nat} (hvp : cs_vp S v j = none) (hn1 : cs_vn S v j = nI m1) (hn2 : cs_vn S y j = nI m2) (k1 : nI m1 = nI m2 → AW G mX5_distance d 0 0 Q 33 [(0, .ref (ad (1, v))), (1, .ref (ad (1, y))), (2, .int (nI dp)), (3, .int (nI s)), (4, .int (nI (j + 1)))] [] (cs_O ad S h) 0 0) (k2 : ¬ nI m1 = nI m2 → AW G mX5_distance d 0 0 Q 33 [(0, .ref (ad (1, v))), (1, .ref (ad (1, y))), (2, .int (nI dp)), (3, .int (nI (s + 1))), (4, .int (nI (j + 1)))] [] (cs_O ad S h) 0 0) : AW G mX5_distance d 0 0 Q 33 [(0, .ref (ad (1, v))), (1, .ref (ad (1, y))), (2, .int (nI dp)), (3, .int (nI s)), (4, .int (nI j))] [] (cs_O ad S h) 0 0 := by
  refine ax_iload dX5_distance_33 rfl ?_
  refine ax_aload_n dX5_distance_35 rfl ?_
  refine ax_get (v := .int (nI mm)) dX5_distance_36 fkX5_29 (cs_get hi (cs_k1 hv)) (congrArg (fun z => some (Value.int z)) (h3)) ?_
  refine ax_icmp_ge (tgt := 110) dX5_distance_39 (by decide) (fun z => absurd z (il_nle mm j hj)) (fun _ => ?_)
  refine ax_iload dX5_distance_42 rfl ?_
  refine ax_iconst (v := 3) dX5_distance_44 (by decide) ?_
  refine ax_icmp_ge (tgt := 110) dX5_distance_45 (by decide) (fun z => absurd z (il_nle 3 j (by omega))) (fun _ => ?_)
  refine ax_aload_n dX5_distance_48 rfl ?_
  refine ax_get (v := .ref (ad (3, v))) dX5_distance_49 fkX5_15 (cs_get hi (cs_k1 hv)) rfl ?_
  refine ax_iload dX5_distance_52 rfl ?_
  refine ax_caaldN dX5_distance_54 (cs_get hi (cs_k3 hv)) (pk_in j 3 (by omega)) (cs_rfn (by rw [nI_clamp (by omega)]; exact hvp)) ?_
  refine ax_ifnullN (tgt := 84) dX5_distance_55 (by decide) ?_
  refine ax_aload_n dX5_distance_84 rfl ?_
  refine ax_get (v := .ref (ad (2, v))) dX5_distance_85 fkX5_9 (cs_get hi (cs_k1 hv)) rfl ?_
  refine ax_iload dX5_distance_88 rfl ?_
  refine ax_ialdv (x := (nI m1)) dX5_distance_90 (cs_get hi (cs_k2 hv)) (pk_in j 3 (by omega)) (by rw [nI_clamp (by omega)]; exact hn1) ?_
  refine ax_aload_n dX5_distance_91 rfl ?_
  refine ax_get (v := .ref (ad (2, y))) dX5_distance_92 fkX5_9 (cs_get hi (cs_k1 hy)) rfl ?_
  refine ax_iload dX5_distance_95 rfl ?_
  refine ax_ialdv (x := (nI m2)) dX5_distance_97 (cs_get hi (cs_k2 hy)) (pk_in j 3 (by omega)) (by rw [nI_clamp (by omega)]; exact hn2) ?_
  refine ax_icmp_eq (tgt := 104) dX5_distance_98 (by decide) (fun c1 => ?_) (fun c1 => ?_)
  · refine ax_iinc (v := nI (j + 1)) dX5_distance_104 rfl (nI_1 j) (by decide) ?_
    refine ax_sub (lv' := [(0, .ref (ad (1, v))), (1, .ref (ad (1, y))), (2, .int (nI dp)), (3, .int (nI s)), (4, .int (nI (j + 1)))]) (fun _ z => z) ?_
    refine ax_goto (tgt := 33) dX5_distance_107 (by decide) ?_
    exact k1 c1
  · refine ax_iinc (v := nI (s + 1)) dX5_distance_101 rfl (nI_1 s) (by decide) ?_
    refine ax_sub (lv' := [(0, .ref (ad (1, v))), (1, .ref (ad (1, y))), (2, .int (nI dp)), (3, .int (nI (s + 1))), (4, .int (nI j))]) (fun _ z => z) ?_
    refine ax_iinc (v := nI (j + 1)) dX5_distance_104 rfl (nI_1 j) (by decide) ?_
    refine ax_sub (lv' := [(0, .ref (ad (1, v))), (1, .ref (ad (1, y))), (2, .int (nI dp)), (3, .int (nI (s + 1))), (4, .int (nI (j + 1)))]) (fun _ z => z) ?_
    refine ax_goto (tgt := 33) dX5_distance_107 (by decide) ?_
    exact k2 c1
set_option maxRecDepth 100000 in
set_option maxHeartbeats 4000000 in
theorem di_part (hi : cs_inj ad) (d : Nat) (S : cs_S) (h : ax_H) {v y dp j mm s : Nat} (hv : v < 312) (hy : y < 312) (h3 : cs_vf S v 3 = nI mm) (hm3 : mm ≤ 3) (hj : j < mm) {Q : ax_P} {w1 w2 : Nat} {R9 : Nat → Prop} (hw1 : w1 < 312) (hw2 : w2 < 312) (hp1 : cs_vp S v j = some w1) (hp2 : cs_vp S y j = some w2) (IH : AW G mX5_distance d 0 0 (fun r h1 => ∃ k, r = .inl (some (.int (nI k))) ∧ R9 k ∧ h1 = cs_O ad S h) 0 [(0, .ref (ad (1, w1))), (1, .ref (ad (1, w2))), (2, .int (nI (dp + 1)))] [] (cs_O ad S h) 0 0) (k9 : ∀ k, R9 k → AW G mX5_distance (d + 1) 0 0 Q 33 [(0, .ref (ad (1, v))), (1, .ref (ad (1, y))), (2, .int (nI dp)), (3, .int (nI (s + k))), (4, .int (nI (j + 1)))] [] (cs_O ad S h) 0 0) : AW G mX5_distance (d + 1) 0 0 Q 33 [(0, .ref (ad (1, v))), (1, .ref (ad (1, y))), (2, .int (nI dp)), (3, .int (nI s)), (4, .int (nI j))] [] (cs_O ad S h) 0 0 := by
  refine ax_iload dX5_distance_33 rfl ?_
  refine ax_aload_n dX5_distance_35 rfl ?_
  refine ax_get (v := .int (nI mm)) dX5_distance_36 fkX5_29 (cs_get hi (cs_k1 hv)) (congrArg (fun z => some (Value.int z)) (h3)) ?_
  refine ax_icmp_ge (tgt := 110) dX5_distance_39 (by decide) (fun z => absurd z (il_nle mm j hj)) (fun _ => ?_)
  refine ax_iload dX5_distance_42 rfl ?_
  refine ax_iconst (v := 3) dX5_distance_44 (by decide) ?_
  refine ax_icmp_ge (tgt := 110) dX5_distance_45 (by decide) (fun z => absurd z (il_nle 3 j (by omega))) (fun _ => ?_)
  refine ax_aload_n dX5_distance_48 rfl ?_
  refine ax_get (v := .ref (ad (3, v))) dX5_distance_49 fkX5_15 (cs_get hi (cs_k1 hv)) rfl ?_
  refine ax_iload dX5_distance_52 rfl ?_
  refine ax_caald dX5_distance_54 (cs_get hi (cs_k3 hv)) (pk_in j 3 (by omega)) (cs_rfs (w := w1) (by rw [nI_clamp (by omega)]; exact hp1)) ?_
  refine ax_ifnull dX5_distance_55 ?_
  refine ax_iload_n dX5_distance_58 rfl ?_
  refine ax_aload_n dX5_distance_59 rfl ?_
  refine ax_get (v := .ref (ad (3, v))) dX5_distance_60 fkX5_15 (cs_get hi (cs_k1 hv)) rfl ?_
  refine ax_iload dX5_distance_63 rfl ?_
  refine ax_caald dX5_distance_65 (cs_get hi (cs_k3 hv)) (pk_in j 3 (by omega)) (cs_rfs (w := w1) (by rw [nI_clamp (by omega)]; exact hp1)) ?_
  refine ax_aload_n dX5_distance_66 rfl ?_
  refine ax_get (v := .ref (ad (3, y))) dX5_distance_67 fkX5_15 (cs_get hi (cs_k1 hy)) rfl ?_
  refine ax_iload dX5_distance_70 rfl ?_
  refine ax_caald dX5_distance_72 (cs_get hi (cs_k3 hy)) (pk_in j 3 (by omega)) (cs_rfs (w := w2) (by rw [nI_clamp (by omega)]; exact hp2)) ?_
  refine ax_iload_n dX5_distance_73 rfl ?_
  refine ax_iconst (v := 1) dX5_distance_74 (by decide) ?_
  refine ax_iadd dX5_distance_75 ?_
  refine ax_top (y := (nI (dp + 1))) (nI_1 dp) ?_
  refine ax_callS (av := [.ref (ad (1, w1)), .ref (ad (1, w2)), .int (nI (dp + 1))]) (rest := [.int (nI s)]) (mc' := 0) (ms' := 0) dX5_distance_76 rfl lkX5_77 rfl (Nat.le_of_ble_eq_true rfl) (Nat.le_of_ble_eq_true rfl) (Nat.le_refl 0) (Nat.le_refl 0) (IH) (fun E9 h9 q9 => by obtain ⟨_, z, _⟩ := q9; cases z) (fun v9 h9 q9 => ?_)
  obtain ⟨k8, e9, hD, rfl⟩ := q9
  cases e9
  show AW G mX5_distance (d + 1) 0 0 Q 79 [(0, .ref (ad (1, v))), (1, .ref (ad (1, y))), (2, .int (nI dp)), (3, .int (nI s)), (4, .int (nI j))] [.int (nI k8), .int (nI s)] (cs_O ad S h) 0 0
  refine ax_iadd dX5_distance_79 ?_
  refine ax_top (y := (nI (s + k8))) (nI_add _ _) ?_
  refine ax_istore_n dX5_distance_80 (by decide) ?_
  refine ax_sub (lv' := [(0, .ref (ad (1, v))), (1, .ref (ad (1, y))), (2, .int (nI dp)), (3, .int (nI (s + k8))), (4, .int (nI j))]) (fun _ z => z) ?_
  refine ax_goto (tgt := 104) dX5_distance_81 (by decide) ?_
  refine ax_iinc (v := nI (j + 1)) dX5_distance_104 rfl (nI_1 j) (by decide) ?_
  refine ax_sub (lv' := [(0, .ref (ad (1, v))), (1, .ref (ad (1, y))), (2, .int (nI dp)), (3, .int (nI (s + k8))), (4, .int (nI (j + 1)))]) (fun _ z => z) ?_
  refine ax_goto (tgt := 33) dX5_distance_107 (by decide) ?_
  exact k9 k8 hD
set_option maxRecDepth 100000 in
set_option maxHeartbeats 4000000 in
theorem di_end (hi : cs_inj ad) (d : Nat) (S : cs_S) (h : ax_H) {v y dp mm s : Nat} (hv : v < 312) (h3 : cs_vf S v 3 = nI mm) (hm3 : mm ≤ 3) {Q : ax_P} (hq : Q (.inl (some (.int (nI s)))) (cs_O ad S h)) : AW G mX5_distance d 0 0 Q 33 [(0, .ref (ad (1, v))), (1, .ref (ad (1, y))), (2, .int (nI dp)), (3, .int (nI s)), (4, .int (nI mm))] [] (cs_O ad S h) 0 0 := by
  refine ax_iload dX5_distance_33 rfl ?_
  refine ax_aload_n dX5_distance_35 rfl ?_
  refine ax_get (v := .int (nI mm)) dX5_distance_36 fkX5_29 (cs_get hi (cs_k1 hv)) (congrArg (fun z => some (Value.int z)) (h3)) ?_
  refine ax_icmp_ge (tgt := 110) dX5_distance_39 (by decide) (fun _ => ?_) (fun z => absurd (il_le mm mm (Nat.le_refl _)) z)
  refine ax_iload_n dX5_distance_110 rfl ?_
  exact ax_iret (st := []) dX5_distance_111 rfl rfl hq
set_option maxRecDepth 100000 in
set_option maxHeartbeats 4000000 in
theorem di_beg (hi : cs_inj ad) (d : Nat) (S : cs_S) (h : ax_H) {v y dp c c' : Nat} (hv : v < 312) (hy : y < 312) (hdp : dp ≤ 8) (h2 : cs_vf S v 2 = nI c) (h2y : cs_vf S y 2 = nI c') (hc6 : c < 6) (hc6' : c' < 6) {Q : ax_P} (hq : c ≠ c' → Q (.inl (some (.int 100))) (cs_O ad S h)) (k9 : c = c' → AW G mX5_distance d 0 0 Q 33 [(0, .ref (ad (1, v))), (1, .ref (ad (1, y))), (2, .int (nI dp)), (3, .int (nI 0)), (4, .int (nI 0))] [] (cs_O ad S h) 0 0) : AW G mX5_distance d 0 0 Q 0 [(0, .ref (ad (1, v))), (1, .ref (ad (1, y))), (2, .int (nI dp))] [] (cs_O ad S h) 0 0 := by
  by_cases hcc : c = c'
  · skip
    refine ax_aload_n dX5_distance_0 rfl ?_
    refine ax_ifnull dX5_distance_1 ?_
    refine ax_aload_n dX5_distance_4 rfl ?_
    refine ax_ifnull dX5_distance_5 ?_
    refine ax_iload_n dX5_distance_8 rfl ?_
    refine ax_bipush (v := 8) dX5_distance_9 (by decide) ?_
    refine ax_icmp_gt (tgt := 25) dX5_distance_11 (by decide) (fun z => absurd z (il_nlt 8 dp hdp)) (fun _ => ?_)
    refine ax_aload_n dX5_distance_14 rfl ?_
    refine ax_get (v := .int (nI c)) dX5_distance_15 fkX5_26 (cs_get hi (cs_k1 hv)) (congrArg (fun z => some (Value.int z)) (h2)) ?_
    refine ax_aload_n dX5_distance_18 rfl ?_
    refine ax_get (v := .int (nI c')) dX5_distance_19 fkX5_26 (cs_get hi (cs_k1 hy)) (congrArg (fun z => some (Value.int z)) (h2y)) ?_
    refine ax_icmp_eq (tgt := 28) dX5_distance_22 (by decide) (fun _ => ?_) (fun z => absurd (by rw [hcc]) z)
    refine ax_iconst (v := 0) dX5_distance_28 (by decide) ?_
    refine ax_istore_n dX5_distance_29 (by decide) ?_
    refine ax_sub (lv' := [(0, .ref (ad (1, v))), (1, .ref (ad (1, y))), (2, .int (nI dp)), (3, .int 0)]) (fun _ z => z) ?_
    refine ax_iconst (v := 0) dX5_distance_30 (by decide) ?_
    refine ax_istore dX5_distance_31 (by decide) ?_
    refine ax_sub (lv' := [(0, .ref (ad (1, v))), (1, .ref (ad (1, y))), (2, .int (nI dp)), (3, .int 0), (4, .int 0)]) (fun _ z => z) ?_
    exact k9 hcc
  · skip
    refine ax_aload_n dX5_distance_0 rfl ?_
    refine ax_ifnull dX5_distance_1 ?_
    refine ax_aload_n dX5_distance_4 rfl ?_
    refine ax_ifnull dX5_distance_5 ?_
    refine ax_iload_n dX5_distance_8 rfl ?_
    refine ax_bipush (v := 8) dX5_distance_9 (by decide) ?_
    refine ax_icmp_gt (tgt := 25) dX5_distance_11 (by decide) (fun z => absurd z (il_nlt 8 dp hdp)) (fun _ => ?_)
    refine ax_aload_n dX5_distance_14 rfl ?_
    refine ax_get (v := .int (nI c)) dX5_distance_15 fkX5_26 (cs_get hi (cs_k1 hv)) (congrArg (fun z => some (Value.int z)) (h2)) ?_
    refine ax_aload_n dX5_distance_18 rfl ?_
    refine ax_get (v := .int (nI c')) dX5_distance_19 fkX5_26 (cs_get hi (cs_k1 hy)) (congrArg (fun z => some (Value.int z)) (h2y)) ?_
    refine ax_icmp_eq (tgt := 28) dX5_distance_22 (by decide) (fun z => absurd z (il_ne c c' hcc rfl rfl (by omega) (by omega))) (fun _ => ?_)
    refine ax_bipush (v := 100) dX5_distance_25 (by decide) ?_
    exact ax_iret (st := []) dX5_distance_27 rfl rfl (hq hcc)
theorem di_val (hi : cs_inj ad) {g : sp_G} (hw : sp_wg g) (S : cs_S) (h : ax_H) : ∀ (n n' v y t : Nat) (L M : List Nat), st_cod g S n v t L → st_cod g S n' y t M → ∀ (d dp : Nat) (Q : ax_P), n ≤ d + 1 → dp + n ≤ 9 → (∀ r, sp_D n L M r → Q (.inl (some (.int (nI r)))) (cs_O ad S h)) →
    AW G mX5_distance d 0 0 Q 0 [(0, .ref (ad (1, v))), (1, .ref (ad (1, y))), (2, .int (nI dp))] [] (cs_O ad S h) 0 0 := by
  intro n
  induction n with
  | zero => intro n' v y t L M z; exact z.elim
  | succ n ih =>
    intro n' v y t L M hL hM d dp Q hd hdp hQ
    cases n' with
    | zero => exact hM.elim
    | succ n' =>
      have wL := st_cod_wf hL
      have wM := st_cod_wf hM
      obtain ⟨c, q, ps, a1, a2, a3, a4, a5, a6, a7, a8⟩ := hL
      obtain ⟨c', q', ps', b1, b2, b3, b4, b5, b6, b7, b8⟩ := hM
      have hl6 := hw.2.2.2.1
      have hc6 : c < 6 := Nat.lt_of_lt_of_le (List.getElem?_eq_some_iff.mp a2).1 hl6
      have hc6' : c' < 6 := Nat.lt_of_lt_of_le (List.getElem?_eq_some_iff.mp b2).1 hl6
      refine di_beg hi d S h a1 b1 (by omega) a5 b5 hc6 hc6' (fun hne => ?_) (fun hcc => ?_)
      · refine hQ 100 ⟨fun he => ?_, fun _ => Nat.le_refl _, ?_⟩
        · rw [a7, b7] at he
          simp only [sp_sh, List.map_cons] at he
          injection he with e1 _
          rw [if_pos (by omega), if_pos (by omega)] at e1
          omega
        · have := Nat.one_le_two_pow (n := n)
          have : 1 ≤ 4 ^ (n + 1) := Nat.one_le_pow _ _ (by decide)
          omega
      · subst hcc
        have hqq : q = q' := Option.some.inj (a2.symm.trans b2)
        subst hqq
        have hm3 : ps.length ≤ 3 := by rw [a4]; exact sp_ar_le q
        have loop : ∀ (i j s : Nat), j + i = ps.length → (∀ rs : List Nat, rs.length = i → (∀ (k : Nat) (P P' : List Nat) (r : Nat), ps[j + k]? = some P → ps'[j + k]? = some P' → rs[k]? = some r → sp_D n P P' r) → Q (.inl (some (.int (nI (s + rs.sum))))) (cs_O ad S h)) → AW G mX5_distance d 0 0 Q 33 [(0, .ref (ad (1, v))), (1, .ref (ad (1, y))), (2, .int (nI dp)), (3, .int (nI s)), (4, .int (nI j))] [] (cs_O ad S h) 0 0 := by
          intro i
          induction i with
          | zero =>
            intro j s hj hQ
            have hjl : j = ps.length := by omega
            subst hjl
            exact di_end hi d S h a1 a6 hm3 (hQ [] rfl (fun k P P' r _ _ z => by simp at z))
          | succ i ihi =>
            intro j s hj hQ
            have hjl : j < ps.length := by omega
            have hjl' : j < ps'.length := by rw [b4, ← a4]; exact hjl
            have hP : ps[j]? = some ps[j] := List.getElem?_eq_getElem hjl
            have hP' : ps'[j]? = some ps'[j] := List.getElem?_eq_getElem hjl'
            have step : ∀ r, sp_D n ps[j] ps'[j] r → ∀ rs : List Nat, rs.length = i → (∀ (k : Nat) (P P' : List Nat) (r : Nat), ps[j + 1 + k]? = some P → ps'[j + 1 + k]? = some P' → rs[k]? = some r → sp_D n P P' r) → Q (.inl (some (.int (nI (s + r + rs.sum))))) (cs_O ad S h) := by
              intro r hr rs hrs hk
              have := hQ (r :: rs) (by simp [hrs]) (fun k P P' r9 x1 x2 x3 => by
                cases k with
                | zero =>
                  rw [Nat.add_zero, hP] at x1
                  rw [Nat.add_zero, hP'] at x2
                  simp at x1 x2 x3
                  subst x1; subst x2; subst x3
                  exact hr
                | succ k =>
                  rw [show j + (k + 1) = j + 1 + k by omega] at x1 x2
                  exact hk k P P' r9 x1 x2 (by simpa using x3))
              rwa [List.sum_cons, ← Nat.add_assoc] at this
            rcases a8 j _ hP with ⟨m, m1, m2, m3, m4, m5⟩ | ⟨w, w1, w2, w3⟩
            · rcases b8 j _ hP' with ⟨m', m1', m2', m3', m4', m5'⟩ | ⟨w', w1', w2', w3'⟩
              · have hsh : sp_sh ps[j] = sp_sh ps'[j] := by rw [m3, m3']; simp only [sp_sh, List.map_cons, List.map_nil]; rw [if_neg (by omega), if_neg (by omega)]
                have hone : 1 ≤ 4 ^ n := Nat.one_le_pow _ _ (by decide)
                refine di_int hi d S h a1 b1 a6 hm3 hjl (m1 := m) (m2 := m') m5 m4 m4' (fun he => ?_) (fun he => ?_)
                · rw [nI_eq (by omega) (by omega)] at he
                  refine ihi (j + 1) s (by omega) ?_
                  have := step 0 ⟨fun _ => by rw [m3, m3', he]; simp [sp_ham], fun z => absurd hsh z, by omega⟩
                  exact this
                · rw [nI_eq (by omega) (by omega)] at he
                  refine ihi (j + 1) (s + 1) (by omega) ?_
                  exact step 1 ⟨fun _ => by rw [m3, m3']; simp [sp_ham, he], fun z => absurd hsh z, by omega⟩
              · omega
            · rcases b8 j _ hP' with ⟨m', m1', m2', m3', m4', m5'⟩ | ⟨w', w1', w2', w3'⟩
              · omega
              · have hw1 : w < 312 := by
                  cases n with
                  | zero => exact w3.elim
                  | succ n => obtain ⟨_, _, _, g1, -⟩ := w3; exact g1
                have hw2 : w' < 312 := by
                  cases n' with
                  | zero => exact w3'.elim
                  | succ n' => obtain ⟨_, _, _, g1, -⟩ := w3'; exact g1
                have hn1 : 1 ≤ n := by
                  cases n with
                  | zero => exact w3.elim
                  | succ n => omega
                obtain ⟨e, rfl⟩ : ∃ e, d = e + 1 := ⟨d - 1, by omega⟩
                refine di_part hi e S h a1 b1 a6 hm3 hjl hw1 hw2 w2 w2' (R9 := sp_D n ps[j] ps'[j]) ?_ (fun k hk => ihi (j + 1) (s + k) (by omega) (step k hk))
                exact ih n' w w' _ _ _ w3 w3' e (dp + 1) _ (by omega) (by omega) (fun r hr => ⟨r, rfl, hr, rfl⟩)
        refine loop ps.length 0 0 (by omega) (fun rs hrs hk => ?_)
        rw [Nat.zero_add]
        refine hQ _ ?_
        rw [a7, b7]
        refine sp_D_all (g := g) (n := n) (n' := n') (t := t) (q := q) a4 b4 hrs (fun j P hP => ?_) (fun j P hP => ?_) (fun j P P' r x1 x2 x3 => hk j P P' r (by rw [Nat.zero_add]; exact x1) (by rw [Nat.zero_add]; exact x2) x3)
        · rcases a8 j P hP with ⟨m, m1, m2, m3, m4, m5⟩ | ⟨w, w1, w2, w3⟩
          · exact Or.inl ⟨m, m1, m2, m3⟩
          · exact Or.inr ⟨w1, st_cod_wf w3⟩
        · rcases b8 j P hP with ⟨m, m1, m2, m3, m4, m5⟩ | ⟨w, w1, w2, w3⟩
          · exact Or.inl ⟨m, m1, m2, m3⟩
          · exact Or.inr ⟨w1, st_cod_wf w3⟩

set_option maxRecDepth 100000 in
set_option maxHeartbeats 4000000 in
theorem ch_differs (hi : cs_inj ad) {g : sp_G} (hw : sp_wg g) (d : Nat) (S : cs_S) (h : ax_H) {n n' v y t : Nat} {L M : List Nat} (hL : st_cod g S n v t L) (hM : st_cod g S n' y t M) (hd : n ≤ d + 1) (hn : 0 + n ≤ 9) {Q : ax_P} (hq : ∀ r, sp_D n L M r → Q (.inl (some (.int (nI r)))) (cs_O ad S h)) : AW G mX5_differsFrom (d + 1) 0 0 Q 0 [(0, .ref (ad (1, v))), (1, .ref (ad (1, y)))] [] (cs_O ad S h) 0 0 := by
  refine ax_aload_n dX5_differsFrom_0 rfl ?_
  refine ax_aload_n dX5_differsFrom_1 rfl ?_
  refine ax_iconst (v := 0) dX5_differsFrom_2 (by decide) ?_
  refine ax_callS (av := [.ref (ad (1, v)), .ref (ad (1, y)), .int 0]) (rest := []) (mc' := 0) (ms' := 0) dX5_differsFrom_3 rfl lkX5_77 rfl (Nat.le_of_ble_eq_true rfl) (Nat.le_of_ble_eq_true rfl) (Nat.le_refl 0) (Nat.le_refl 0) (di_val hi hw S h n n' v y t L M hL hM _ 0 (fun r h1 => ∃ k, r = .inl (some (.int (nI k))) ∧ sp_D n L M k ∧ h1 = cs_O ad S h) hd hn (fun r hr => ⟨r, rfl, hr, rfl⟩)) (fun E9 h9 q9 => by obtain ⟨_, z, _⟩ := q9; cases z) (fun v9 h9 q9 => ?_)
  obtain ⟨k8, e9, hD, rfl⟩ := q9
  cases e9
  show AW G mX5_differsFrom (d + 1) 0 0 Q 6 [(0, .ref (ad (1, v))), (1, .ref (ad (1, y)))] [.int (nI k8)] (cs_O ad S h) 0 0
  exact ax_iret (st := []) dX5_differsFrom_6 rfl rfl (hq k8 hD)
end DIST
