/-! ===== the law: its state ===== -/
abbrev mL_law : ax_M := (x, cL_law, 9, (some .boolean), [], 1)
def nR : rw_S := (fun i => if i = 2 then 2 else if i = 10 then -1 else 0, fun _ _ => 0, fun _ => none)
/-- both objects hold the state; the two rows for answers lie beside -/
def LI (A : Nat → Nat) (ad : cs_K → Nat) (S : cs_S) (R : rw_S) (h : ax_H) (σ : sp_St) (ou od : Nat) : Prop := rw_nd (A, ad, S) ∧ cs_inj ad ∧ (∀ i, i < 12 → ∀ k ∈ cs_keys, ad k ≠ A i) ∧ CI σ S ∧ RI (A, ad, S) σ R h ∧ (∃ f, h ou = some (.inl (1, 1, .inr (.inl f)))) ∧ rw_fz (A, ad, S) ou ∧ (∃ f, h od = some (.inl (2, 1, .inr (.inr (.inr (.inl f)))))) ∧ rw_fz (A, ad, S) od
theorem rw_lk {A : Nat → Nat} {ad : cs_K → Nat} {S : cs_S} {R : rw_S} (hd : ∀ i, i < 12 → ∀ k ∈ cs_keys, ad k ≠ A i) {k : cs_K} (hk : k ∈ cs_keys) : ad k ∉ (rw_l (A, ad, S) R).map (fun q => q.1) := by
  show ad k ∉ [A 0, A 1, A 2, A 3, A 4, A 5, A 6, A 7, A 8, A 9, A 10, A 11]
  simp only [List.mem_cons, List.not_mem_nil, or_false]
  rintro (z | z | z | z | z | z | z | z | z | z | z | z)
  · exact hd 0 (by decide) k hk z
  · exact hd 1 (by decide) k hk z
  · exact hd 2 (by decide) k hk z
  · exact hd 3 (by decide) k hk z
  · exact hd 4 (by decide) k hk z
  · exact hd 5 (by decide) k hk z
  · exact hd 6 (by decide) k hk z
  · exact hd 7 (by decide) k hk z
  · exact hd 8 (by decide) k hk z
  · exact hd 9 (by decide) k hk z
  · exact hd 10 (by decide) k hk z
  · exact hd 11 (by decide) k hk z
theorem rw_sw {A : Nat → Nat} {ad : cs_K → Nat} {S : cs_S} {R : rw_S} {h : ax_H} (hd : ∀ i, i < 12 → ∀ k ∈ cs_keys, ad k ≠ A i) : rw_O (A, ad, S) R h = cs_O ad S (ax_w h (rw_l (A, ad, S) R)) := by
  funext x
  show ax_w (cs_O ad S h) (rw_l (A, ad, S) R) x = _
  cases hf : cs_keys.find? (fun k => ad k == x) with
  | some k =>
    have h1 : ad k = x := by simpa using List.find?_some hf
    have h2 := rw_lk (S := S) (R := R) hd (List.mem_of_find?_eq_some hf)
    rw [h1] at h2
    rw [ax_w_ne h2]
    unfold cs_O
    rw [hf]
  | none =>
    have e1 : cs_O ad S (ax_w h (rw_l (A, ad, S) R)) x = ax_w h (rw_l (A, ad, S) R) x := by
      show (match cs_keys.find? (fun k => ad k == x) with
        | some k => some (cs_obj ad S k)
        | none => ax_w h (rw_l (A, ad, S) R) x) = _
      rw [hf]
    have e2 : cs_O ad S h x = h x := by
      unfold cs_O; rw [hf]
    rw [e1]
    unfold ax_w
    cases (rw_l (A, ad, S) R).find? (fun q => q.1 == x) with
    | some q => rfl
    | none => exact e2
theorem rw_lou {A : Nat → Nat} {ad : cs_K → Nat} {S : cs_S} {R : rw_S} {h : ax_H} (hd : ∀ i, i < 12 → ∀ k ∈ cs_keys, ad k ≠ A i) {ou : Nat} (ho : rw_fz (A, ad, S) ou) (S' : cs_S) (o : Option ax_E) : va_up (cs_O ad S' (ax_w h (rw_l (A, ad, S) R))) ou o = rw_O (A, ad, S') R (va_up h ou o) := by
  have e1 : cs_O ad S' (ax_w h (rw_l (A, ad, S) R)) = rw_O (A, ad, S') R h := (rw_sw hd).symm
  rw [e1]
  exact rw_up (A := (A, ad, S')) ho
theorem rw_rou {A : Nat → Nat} {ad : cs_K → Nat} {S : cs_S} {R : rw_S} {h : ax_H} (hd : ∀ i, i < 12 → ∀ k ∈ cs_keys, ad k ≠ A i) {ou : Nat} (ho : rw_fz (A, ad, S) ou) {o : ax_E} (hh : h ou = some o) (S' : cs_S) : cs_O ad S' (ax_w h (rw_l (A, ad, S) R)) ou = some o := by
  have e1 : cs_O ad S' (ax_w h (rw_l (A, ad, S) R)) = rw_O (A, ad, S') R h := (rw_sw hd).symm
  rw [e1]
  exact rw_rd (A := (A, ad, S')) ⟨hh, ho⟩
theorem va_up_id {h : ax_H} {a : Nat} {o : Option ax_E} (he : h a = o) : va_up h a o = h := by
  funext x
  by_cases hx : x = a
  · rw [hx, ax_up_s, he]
  · rw [ax_up_n hx]
theorem RI_ou {A : rw_Ad} {σ : sp_St} {R : rw_S} {h : ax_H} {ou : Nat} {o : ax_E} (hk : ∀ n f, h ou ≠ some (.inl (0, n, .inl f))) (hR : RI A σ R h) : RI A σ R (va_up h ou (some o)) := by
  obtain ⟨r1, r2, r3, r4, r5⟩ := hR
  refine ⟨r1, r2, r3, r4.imp id (fun z => ⟨z.1, ⟨z.2.1.1, z.2.1.2.1, fun v e he => ?_⟩, z.2.2⟩), r5⟩
  obtain ⟨⟨b, b1, f, b2, b3⟩, c2, c3, c4⟩ := z.2.1.2.2 v e he
  refine ⟨⟨b, b1, f, ⟨?_, b2.2⟩, b3⟩, c2, c3, c4⟩
  have hb : b ≠ ou := fun e => hk _ _ (by rw [← e]; exact b2.1)
  rw [ax_up_n hb]; exact b2.1
theorem LI_S {A : Nat → Nat} {ad : cs_K → Nat} {S S' : cs_S} {R : rw_S} {h : ax_H} {σ : sp_St} (hR : RI (A, ad, S) σ R h) : RI (A, ad, S') σ R h := hR
/-- the state behind a call: the class's cells, a row for answers, the reference's cells -/
theorem LI_nx {A : Nat → Nat} {ad : cs_K → Nat} {S S' : cs_S} {R R' : rw_S} {h h1 h' : ax_H} {σ σ' : sp_St} {ou od : Nat} (hL : LI A ad S R h σ ou od) (hC : CI σ' S') (hR : RI (A, ad, S') σ' R' h') (h1o : ∃ f, h1 ou = some (.inl (1, 1, .inr (.inl f)))) (h1d : ∃ f, h1 od = some (.inl (2, 1, .inr (.inr (.inr (.inl f)))))) (hle : hx_le h1 h') : LI A ad S' R' h' σ' ou od := by
  obtain ⟨l1, l2, l3, l4, l5, l6, l7, l8, l9⟩ := hL
  obtain ⟨f, hf⟩ := h1o
  obtain ⟨g, hg⟩ := h1d
  exact ⟨l1, l2, l3, hC, hR, ⟨f, hle _ _ hf⟩, l7, ⟨g, hle _ _ hg⟩, l9⟩
theorem LI_ne {A : Nat → Nat} {ad : cs_K → Nat} {S : cs_S} {R : rw_S} {h : ax_H} {σ : sp_St} {ou od : Nat} (hL : LI A ad S R h σ ou od) : ou ≠ od := by
  obtain ⟨l1, l2, l3, l4, l5, ⟨f, hf⟩, l7, ⟨g, hg⟩, l9⟩ := hL
  intro e
  rw [e, hg] at hf
  cases hf
theorem lg_cmp0 (x : Int64) : lg_cmp x x = 0 := by
  unfold lg_cmp
  simp
section LAW
variable {G : ax_G}
set_option maxRecDepth 100000 in
set_option maxHeartbeats 4000000 in
theorem r_thrown {A : rw_Ad} (hA : rw_nd A) (d : Nat) (R : rw_S) (h : ax_H) : AW G mX7_thrown d 0 0 (fun r h1 => r = .inl (some (.int (R.1 0))) ∧ h1 = rw_O A R h) 0 [(0, .ref (A.1 0))] [] (rw_O A R h) 0 0 := by
  refine ax_aload_n dX7_thrown_0 rfl ?_
  refine ax_get (v := .int (R.1 0)) dX7_thrown_1 fkX7_52 (rw_g0 hA) rfl ?_
  exact ax_iret (st := []) dX7_thrown_4 rfl rfl ⟨rfl, rfl⟩
theorem new7 (d : Nat) (ad : cs_K → Nat) (S : cs_S) (h : ax_H) (b : Nat) (hb : cs_O ad S h b = none) {Q : ax_P} (hQ : ∀ A : Nat → Nat, rw_nd (A, ad, S) → A 0 = b → (∀ i, i < 12 → cs_O ad S h (A i) = none) → RI (A, ad, S) nσ nR h → Q (.inl none) (rw_O (A, ad, S) nR h)) : AW G mX7_init d 11 3414 Q 0 [(0, .ref b)] [] (ax_w (cs_O ad S h) [(b, .inr (7, [.int 0, .int 0, .int 0, .int 0, .int 0, .null, .null, .null, .int 0, .null, .int 0, .int 0, .int 0, .int 0, .int 0, .null, .null, .null, .null, .null, .int 0, .int 0, .null, .int 0, .null]))]) 0 0 := by
  refine in7 d (cs_O ad S h) b hb (fun q1 q2 q3 q4 q5 q6 q7 q8 q9 q10 q11 hn z1 z2 z3 z4 z5 z6 z7 z8 z9 z10 z11 => ?_)
  refine hQ (fun i => ([b, q1, q2, q3, q4, q5, q6, q7, q8, q9, q10, q11] : List Nat).getD i 0) hn rfl (fun i hi => ?_) ?_
  · rcases (show i = 0 ∨ i = 1 ∨ i = 2 ∨ i = 3 ∨ i = 4 ∨ i = 5 ∨ i = 6 ∨ i = 7 ∨ i = 8 ∨ i = 9 ∨ i = 10 ∨ i = 11 by omega) with rfl | rfl | rfl | rfl | rfl | rfl | rfl | rfl | rfl | rfl | rfl | rfl
    · exact hb
    · exact z1
    · exact z2
    · exact z3
    · exact z4
    · exact z5
    · exact z6
    · exact z7
    · exact z8
    · exact z9
    · exact z10
    · exact z11
  · exact ⟨CI_new.1, ⟨rfl, rfl, rfl, rfl, fun c q hq => by simp [nσ] at hq⟩, ⟨rfl, Nat.zero_le _, fun i a hi => by simp [nσ] at hi, fun a ha => absurd ha List.not_mem_nil⟩, Or.inl rfl, rfl⟩
/-- what a call of findReductions, of reduce costs -/
def lw_fC (σ : sp_St) : Nat := match σ.2.2 with
  | none => 0
  | some v => fr_C (po_T σ) v
def lw_fS (σ : sp_St) : Nat := match σ.2.2 with
  | none => 0
  | some v => fr_S (po_T σ) v
def lw_gC (σ : sp_St) (q : Int32) : Nat := match σ.2.2 with
  | none => 0
  | some v => if q < 1 ∨ 5 < q then 0 else go_C (po_T σ) q.toNatClampNeg 300 v
def lw_gS (σ : sp_St) (q : Int32) : Nat := match σ.2.2 with
  | none => 0
  | some v => if q < 1 ∨ 5 < q then 0 else go_S (po_T σ) q.toNatClampNeg 300 v
theorem lw_fL (σ : sp_St) : ∀ v, σ.2.2 = some v → fr_C (po_T σ) v ≤ lw_fC σ ∧ fr_S (po_T σ) v ≤ lw_fS σ := fun v hv => by
  unfold lw_fC lw_fS; rw [hv]; exact ⟨Nat.le_refl _, Nat.le_refl _⟩
theorem lw_gL (σ : sp_St) (q : Int32) : ∀ v, σ.2.2 = some v → ¬ (q < 1 ∨ 5 < q) → go_C (po_T σ) q.toNatClampNeg 300 v ≤ lw_gC σ q ∧ go_S (po_T σ) q.toNatClampNeg 300 v ≤ lw_gS σ q := fun v hv hq => by
  unfold lw_gC lw_gS; rw [hv]; exact ⟨Nat.le_of_eq (if_neg hq).symm, Nat.le_of_eq (if_neg hq).symm⟩
set_option maxRecDepth 100000 in
set_option maxHeartbeats 4000000 in
theorem lc_setRange (d : Nat) {mc ms cn sn i ou od : Nat} {A : Nat → Nat} {ad : cs_K → Nat} {S : cs_S} {R : rw_S} {h : ax_H} {σ : sp_St} (hL : LI A ad S R h σ ou od) (hi : i + 6 ≤ G.2.2.2.2.2.1) (hN : G.2.2.2.2.2.1 ≤ 3072) (hcn : cn + 1 + 0 ≤ mc) (hsn : sn + 6 + 0 ≤ ms) {Q : ax_P} (kk : ∀ S' R' h', LI A ad S' R' h' (po_setRange σ (G.2.2.2.2.2.2 (i + 1)) (G.2.2.2.2.2.2 (i + 2))).2 ou od → AW G mL_law (d + 80) mc ms Q 1391 [(0, .ref G.2.2.2.2.1), (1, .ref (ad (0, 0))), (2, .ref (A 0)), (3, .ref ou), (4, .ref od), (5, .int (nI i))] [] (rw_O (A, ad, S') R' h') (cn + 1 + 0) (sn + 6 + 0)) : AW G mL_law (d + 80) mc ms Q 148 [(0, .ref G.2.2.2.2.1), (1, .ref (ad (0, 0))), (2, .ref (A 0)), (3, .ref ou), (4, .ref od), (5, .int (nI i))] [] (rw_O (A, ad, S) R h) cn sn := by
  have hne := LI_ne hL
  obtain ⟨l1, l2, l3, l4, l5, ⟨f, hf⟩, l7, ⟨g, hg⟩, l9⟩ := id hL
  refine ax_aload_n dL_law_148 rfl ?_
  refine ax_aload_n dL_law_149 rfl ?_
  refine ax_iload dL_law_150 rfl ?_
  refine ax_iconst (v := 1) dL_law_152 (by decide) ?_
  refine ax_iadd dL_law_153 ?_
  refine ax_top (y := nI (i + 1)) (nI_add i 1) ?_
  refine ax_sld dL_law_154 (nI_in (by omega) (by omega)) ?_
  refine ax_top (y := (G.2.2.2.2.2.2 (i + 1))) (by rw [nI_clamp (by omega)]) ?_
  refine ax_aload_n dL_law_155 rfl ?_
  refine ax_iload dL_law_156 rfl ?_
  refine ax_iconst (v := 2) dL_law_158 (by decide) ?_
  refine ax_iadd dL_law_159 ?_
  refine ax_top (y := nI (i + 2)) (nI_add i 2) ?_
  refine ax_sld dL_law_160 (nI_in (by omega) (by omega)) ?_
  refine ax_top (y := (G.2.2.2.2.2.2 (i + 2))) (by rw [nI_clamp (by omega)]) ?_
  refine ax_aload_n dL_law_161 rfl ?_
  refine ax_eqh (rw_sw l3) ?_
  refine ax_callH (av := [.ref (ad (0, 0)), .int (G.2.2.2.2.2.2 (i + 1)), .int (G.2.2.2.2.2.2 (i + 2)), .ref ou]) (rest := []) (mc' := 1) (ms' := 6) dL_law_162 rfl lkL_87 rfl (Nat.le_of_ble_eq_true rfl) (Nat.le_of_ble_eq_true rfl) (by omega) (by omega) (lh_setRange l2 (d + 62) S (ax_w h (rw_l (A, ad, S) R)) l4 (G.2.2.2.2.2.2 (i + 1)) (G.2.2.2.2.2.2 (i + 2)) (rw_rou l3 l7 hf) (Q := fun r h9 => r = .inl (some (.int (nI (po_setRange σ (G.2.2.2.2.2.2 (i + 1)) (G.2.2.2.2.2.2 (i + 2))).1.1))) ∧ ∃ S' f', CI (po_setRange σ (G.2.2.2.2.2.2 (i + 1)) (G.2.2.2.2.2.2 (i + 2))).2 S' ∧ h9 = va_up (cs_O ad S' (ax_w h (rw_l (A, ad, S) R))) ou (some (.inl (1, 1, .inr (.inl f')))) ∧ ((po_setRange σ (G.2.2.2.2.2.2 (i + 1)) (G.2.2.2.2.2.2 (i + 2))).1.1 = 0 → f' 0 = (if (po_setRange σ (G.2.2.2.2.2.2 (i + 1)) (G.2.2.2.2.2.2 (i + 2))).1.2 = 0 then 0 else 1))) (fun S' c z => ⟨by rw [z]; rfl, S', _, c, rfl, fun _ => if_pos rfl⟩) (fun S' c z => ⟨rfl, S', f, c, (va_up_id (rw_rou l3 l7 hf S')).symm, fun w => absurd w z⟩)) (fun E9 h9 q9 => by cases q9.1) (fun v9 h9 q9 => ?_)
  obtain ⟨e9, S', f', hC', rfl, hV⟩ := q9
  cases e9
  refine ax_eqh (rw_lou l3 l7 S' _) ?_
  obtain ⟨h1, hh1⟩ : ∃ h1, h1 = va_up h ou (some (.inl (1, 1, .inr (.inl f')))) := ⟨_, rfl⟩
  rw [← hh1]
  have h1o : h1 ou = some (.inl (1, 1, .inr (.inl f'))) := by rw [hh1, ax_up_s]
  have h1d : h1 od = some (.inl (2, 1, .inr (.inr (.inr (.inl g))))) := by rw [hh1, ax_up_n (Ne.symm hne)]; exact hg
  have hR1 : RI (A, ad, S') σ R h1 := by rw [hh1]; exact RI_ou (fun n f0 e => by rw [hf] at e; cases e) (LI_S l5)
  show AW G mL_law (d + 80) mc ms Q 165 [(0, .ref G.2.2.2.2.1), (1, .ref (ad (0, 0))), (2, .ref (A 0)), (3, .ref ou), (4, .ref od), (5, .int (nI i))] [.int (nI (po_setRange σ (G.2.2.2.2.2.2 (i + 1)) (G.2.2.2.2.2.2 (i + 2))).1.1)] (rw_O (A, ad, S') R h1) (cn + 1) (sn + 6)
  refine ax_istore dL_law_165 (by decide) ?_
  refine ax_sub (lv' := [(0, .ref G.2.2.2.2.1), (1, .ref (ad (0, 0))), (2, .ref (A 0)), (3, .ref ou), (4, .ref od), (5, .int (nI i)), (6, .int (nI (po_setRange σ (G.2.2.2.2.2.2 (i + 1)) (G.2.2.2.2.2.2 (i + 2))).1.1))]) (fun _ z => z) ?_
  refine ax_aload_n dL_law_167 rfl ?_
  refine ax_aload_n dL_law_168 rfl ?_
  refine ax_iload dL_law_169 rfl ?_
  refine ax_iconst (v := 1) dL_law_171 (by decide) ?_
  refine ax_iadd dL_law_172 ?_
  refine ax_top (y := nI (i + 1)) (nI_add i 1) ?_
  refine ax_sld dL_law_173 (nI_in (by omega) (by omega)) ?_
  refine ax_top (y := (G.2.2.2.2.2.2 (i + 1))) (by rw [nI_clamp (by omega)]) ?_
  refine ax_aload_n dL_law_174 rfl ?_
  refine ax_iload dL_law_175 rfl ?_
  refine ax_iconst (v := 2) dL_law_177 (by decide) ?_
  refine ax_iadd dL_law_178 ?_
  refine ax_top (y := nI (i + 2)) (nI_add i 2) ?_
  refine ax_sld dL_law_179 (nI_in (by omega) (by omega)) ?_
  refine ax_top (y := (G.2.2.2.2.2.2 (i + 2))) (by rw [nI_clamp (by omega)]) ?_
  refine ax_callV (b := A 0) (av := [.int (G.2.2.2.2.2.2 (i + 1)), .int (G.2.2.2.2.2.2 (i + 2))]) (rest := []) (mc' := 0) (ms' := 0) dL_law_180 rfl lkL_92 (rw_g0 (A := (A, ad, S')) l1) rfl (Nat.le_of_ble_eq_true rfl) (Nat.le_of_ble_eq_true rfl) (by omega) (by omega) (rb_setRange (A := (A, ad, S')) l1 (d + 31) R h1 hR1 (G.2.2.2.2.2.2 (i + 1)) (G.2.2.2.2.2.2 (i + 2))) (fun E9 h9 q9 => by obtain ⟨_, _, _, e9, _⟩ := q9; cases e9) (fun v9 h9 q9 => ?_)
  obtain ⟨R', h', b, e9, rfl, a1, a2, a3, a4⟩ := q9
  cases e9
  show AW G mL_law (d + 80) mc ms Q 183 [(0, .ref G.2.2.2.2.1), (1, .ref (ad (0, 0))), (2, .ref (A 0)), (3, .ref ou), (4, .ref od), (5, .int (nI i)), (6, .int (nI (po_setRange σ (G.2.2.2.2.2.2 (i + 1)) (G.2.2.2.2.2.2 (i + 2))).1.1))] [.int b] (rw_O (A, ad, S') R' h') (cn + 1 + 0) (sn + 6 + 0)
  refine ax_istore dL_law_183 (by decide) ?_
  refine ax_sub (lv' := [(0, .ref G.2.2.2.2.1), (1, .ref (ad (0, 0))), (2, .ref (A 0)), (3, .ref ou), (4, .ref od), (5, .int (nI i)), (6, .int (nI (po_setRange σ (G.2.2.2.2.2.2 (i + 1)) (G.2.2.2.2.2.2 (i + 2))).1.1)), (7, .int b)]) (fun _ z => z) ?_
  refine ax_aload_n dL_law_185 rfl ?_
  refine ax_callV (b := A 0) (av := []) (rest := []) (mc' := 0) (ms' := 0) dL_law_186 rfl lkL_93 (rw_g0 (A := (A, ad, S')) l1) rfl (Nat.le_of_ble_eq_true rfl) (Nat.le_of_ble_eq_true rfl) (by omega) (by omega) (r_thrown (A := (A, ad, S')) l1 (d + 79) R' h') (fun E9 h9 q9 => by cases q9.1) (fun v9 h9 q9 => ?_)
  obtain ⟨e9, rfl⟩ := q9
  cases e9
  show AW G mL_law (d + 80) mc ms Q 189 [(0, .ref G.2.2.2.2.1), (1, .ref (ad (0, 0))), (2, .ref (A 0)), (3, .ref ou), (4, .ref od), (5, .int (nI i)), (6, .int (nI (po_setRange σ (G.2.2.2.2.2.2 (i + 1)) (G.2.2.2.2.2.2 (i + 2))).1.1)), (7, .int b)] [.int (R'.1 0)] (rw_O (A, ad, S') R' h') (cn + 1 + 0) (sn + 6 + 0)
  rw [a3]
  refine ax_iload dL_law_189 rfl ?_
  refine ax_icmp_eq (tgt := 196) dL_law_191 (by decide) (fun _ => ?_) (fun z => absurd rfl z)
  refine ax_iload dL_law_196 rfl ?_
  have hfin : AW G mL_law (d + 80) mc ms Q 220 [(0, .ref G.2.2.2.2.1), (1, .ref (ad (0, 0))), (2, .ref (A 0)), (3, .ref ou), (4, .ref od), (5, .int (nI i)), (6, .int (nI (po_setRange σ (G.2.2.2.2.2.2 (i + 1)) (G.2.2.2.2.2.2 (i + 2))).1.1)), (7, .int b)] [] (rw_O (A, ad, S') R' h') (cn + 1 + 0) (sn + 6 + 0) := by
    refine ax_goto (tgt := 1391) dL_law_220 (by decide) ?_
    exact ax_sub (fun q hq => List.mem_append_left [(6, Value.int (nI (po_setRange σ (G.2.2.2.2.2.2 (i + 1)) (G.2.2.2.2.2.2 (i + 2))).1.1)), (7, Value.int b)] hq) (kk S' R' h' (LI_nx hL hC' a2 ⟨f', h1o⟩ ⟨g, h1d⟩ a1))
  by_cases z0 : (po_setRange σ (G.2.2.2.2.2.2 (i + 1)) (G.2.2.2.2.2.2 (i + 2))).1.1 = 0
  · refine ax_if_ne (tgt := 220) dL_law_198 (by decide) (fun z => absurd (by rw [z0]; rfl) z) (fun _ => ?_)
    refine ax_aload_n dL_law_201 rfl ?_
    refine ax_iconst (v := 0) dL_law_202 (by decide) ?_
    refine ax_lald dL_law_203 (rw_rd (A := (A, ad, S')) ⟨a1 _ _ h1o, l7⟩) (by unfold vp_in; decide) ?_
    rw [show f' (0 : Int32).toNatClampNeg = (if (po_setRange σ (G.2.2.2.2.2.2 (i + 1)) (G.2.2.2.2.2.2 (i + 2))).1.2 = 0 then 0 else 1) from hV z0]
    refine ax_iload dL_law_204 rfl ?_
    rw [a4 z0] at hfin ⊢
    refine ax_if_eq (tgt := 213) dL_law_206 (by decide) (fun b0 => ?_) (fun b0 => ?_)
    · refine ax_lconst (v := 0) dL_law_213 (by decide) ?_
      rw [if_pos b0]
      refine ax_lcmp dL_law_214 ?_
      rw [lg_cmp0]
      exact ax_if_eq (tgt := 220) dL_law_215 (by decide) (fun _ => hfin) (fun z => absurd rfl z)
    · refine ax_lconst (v := 1) dL_law_209 (by decide) ?_
      refine ax_goto (tgt := 214) dL_law_210 (by decide) ?_
      rw [if_neg b0]
      refine ax_lcmp dL_law_214 ?_
      rw [lg_cmp0]
      exact ax_if_eq (tgt := 220) dL_law_215 (by decide) (fun _ => hfin) (fun z => absurd rfl z)
  · exact ax_if_ne (tgt := 220) dL_law_198 (by decide) (fun _ => hfin) (fun z => absurd z (il_ne _ 0 z0 rfl rfl (by have := pl_setRange σ (G.2.2.2.2.2.2 (i + 1)) (G.2.2.2.2.2.2 (i + 2)); omega) (by decide)))
set_option maxRecDepth 100000 in
set_option maxHeartbeats 4000000 in
theorem lc_addType (d : Nat) {mc ms cn sn i ou od : Nat} {A : Nat → Nat} {ad : cs_K → Nat} {S : cs_S} {R : rw_S} {h : ax_H} {σ : sp_St} (hL : LI A ad S R h σ ou od) (hi : i + 6 ≤ G.2.2.2.2.2.1) (hN : G.2.2.2.2.2.1 ≤ 3072) (hcn : cn + 1 + 0 ≤ mc) (hsn : sn + 6 + 0 ≤ ms) {Q : ax_P} (kk : ∀ S' R' h', LI A ad S' R' h' (po_addType σ).2 ou od → AW G mL_law (d + 80) mc ms Q 1391 [(0, .ref G.2.2.2.2.1), (1, .ref (ad (0, 0))), (2, .ref (A 0)), (3, .ref ou), (4, .ref od), (5, .int (nI i))] [] (rw_O (A, ad, S') R' h') (cn + 1 + 0) (sn + 6 + 0)) : AW G mL_law (d + 80) mc ms Q 223 [(0, .ref G.2.2.2.2.1), (1, .ref (ad (0, 0))), (2, .ref (A 0)), (3, .ref ou), (4, .ref od), (5, .int (nI i))] [] (rw_O (A, ad, S) R h) cn sn := by
  have hne := LI_ne hL
  obtain ⟨l1, l2, l3, l4, l5, ⟨f, hf⟩, l7, ⟨g, hg⟩, l9⟩ := id hL
  refine ax_aload_n dL_law_223 rfl ?_
  refine ax_aload_n dL_law_224 rfl ?_
  refine ax_eqh (rw_sw l3) ?_
  refine ax_callH (av := [.ref (ad (0, 0)), .ref ou]) (rest := []) (mc' := 1) (ms' := 6) dL_law_225 rfl lkL_96 rfl (Nat.le_of_ble_eq_true rfl) (Nat.le_of_ble_eq_true rfl) (by omega) (by omega) (lh_addType l2 (d + 62) S (ax_w h (rw_l (A, ad, S) R)) l4  (rw_rou l3 l7 hf) (Q := fun r h9 => r = .inl (some (.int (nI (po_addType σ).1.1))) ∧ ∃ S' f', CI (po_addType σ).2 S' ∧ h9 = va_up (cs_O ad S' (ax_w h (rw_l (A, ad, S) R))) ou (some (.inl (1, 1, .inr (.inl f')))) ∧ ((po_addType σ).1.1 = 0 → f' 0 = ((po_addType σ).1.2.toInt64))) (fun S' c z => ⟨by rw [z]; rfl, S', _, c, rfl, fun _ => if_pos rfl⟩) (fun S' c z => ⟨rfl, S', f, c, (va_up_id (rw_rou l3 l7 hf S')).symm, fun w => absurd w z⟩)) (fun E9 h9 q9 => by cases q9.1) (fun v9 h9 q9 => ?_)
  obtain ⟨e9, S', f', hC', rfl, hV⟩ := q9
  cases e9
  refine ax_eqh (rw_lou l3 l7 S' _) ?_
  obtain ⟨h1, hh1⟩ : ∃ h1, h1 = va_up h ou (some (.inl (1, 1, .inr (.inl f')))) := ⟨_, rfl⟩
  rw [← hh1]
  have h1o : h1 ou = some (.inl (1, 1, .inr (.inl f'))) := by rw [hh1, ax_up_s]
  have h1d : h1 od = some (.inl (2, 1, .inr (.inr (.inr (.inl g))))) := by rw [hh1, ax_up_n (Ne.symm hne)]; exact hg
  have hR1 : RI (A, ad, S') σ R h1 := by rw [hh1]; exact RI_ou (fun n f0 e => by rw [hf] at e; cases e) (LI_S l5)
  show AW G mL_law (d + 80) mc ms Q 228 [(0, .ref G.2.2.2.2.1), (1, .ref (ad (0, 0))), (2, .ref (A 0)), (3, .ref ou), (4, .ref od), (5, .int (nI i))] [.int (nI (po_addType σ).1.1)] (rw_O (A, ad, S') R h1) (cn + 1) (sn + 6)
  refine ax_istore dL_law_228 (by decide) ?_
  refine ax_sub (lv' := [(0, .ref G.2.2.2.2.1), (1, .ref (ad (0, 0))), (2, .ref (A 0)), (3, .ref ou), (4, .ref od), (5, .int (nI i)), (6, .int (nI (po_addType σ).1.1))]) (fun _ z => z) ?_
  refine ax_aload_n dL_law_230 rfl ?_
  refine ax_callV (b := A 0) (av := []) (rest := []) (mc' := 0) (ms' := 0) dL_law_231 rfl lkL_99 (rw_g0 (A := (A, ad, S')) l1) rfl (Nat.le_of_ble_eq_true rfl) (Nat.le_of_ble_eq_true rfl) (by omega) (by omega) (rb_addType (A := (A, ad, S')) l1 (d + 31) R h1 hR1 ) (fun E9 h9 q9 => by obtain ⟨_, _, _, e9, _⟩ := q9; cases e9) (fun v9 h9 q9 => ?_)
  obtain ⟨R', h', b, e9, rfl, a1, a2, a3, a4⟩ := q9
  cases e9
  show AW G mL_law (d + 80) mc ms Q 234 [(0, .ref G.2.2.2.2.1), (1, .ref (ad (0, 0))), (2, .ref (A 0)), (3, .ref ou), (4, .ref od), (5, .int (nI i)), (6, .int (nI (po_addType σ).1.1))] [.int b] (rw_O (A, ad, S') R' h') (cn + 1 + 0) (sn + 6 + 0)
  refine ax_istore dL_law_234 (by decide) ?_
  refine ax_sub (lv' := [(0, .ref G.2.2.2.2.1), (1, .ref (ad (0, 0))), (2, .ref (A 0)), (3, .ref ou), (4, .ref od), (5, .int (nI i)), (6, .int (nI (po_addType σ).1.1)), (7, .int b)]) (fun _ z => z) ?_
  refine ax_aload_n dL_law_236 rfl ?_
  refine ax_callV (b := A 0) (av := []) (rest := []) (mc' := 0) (ms' := 0) dL_law_237 rfl lkL_93 (rw_g0 (A := (A, ad, S')) l1) rfl (Nat.le_of_ble_eq_true rfl) (Nat.le_of_ble_eq_true rfl) (by omega) (by omega) (r_thrown (A := (A, ad, S')) l1 (d + 79) R' h') (fun E9 h9 q9 => by cases q9.1) (fun v9 h9 q9 => ?_)
  obtain ⟨e9, rfl⟩ := q9
  cases e9
  show AW G mL_law (d + 80) mc ms Q 240 [(0, .ref G.2.2.2.2.1), (1, .ref (ad (0, 0))), (2, .ref (A 0)), (3, .ref ou), (4, .ref od), (5, .int (nI i)), (6, .int (nI (po_addType σ).1.1)), (7, .int b)] [.int (R'.1 0)] (rw_O (A, ad, S') R' h') (cn + 1 + 0) (sn + 6 + 0)
  rw [a3]
  refine ax_iload dL_law_240 rfl ?_
  refine ax_icmp_eq (tgt := 247) dL_law_242 (by decide) (fun _ => ?_) (fun z => absurd rfl z)
  refine ax_iload dL_law_247 rfl ?_
  have hfin : AW G mL_law (d + 80) mc ms Q 264 [(0, .ref G.2.2.2.2.1), (1, .ref (ad (0, 0))), (2, .ref (A 0)), (3, .ref ou), (4, .ref od), (5, .int (nI i)), (6, .int (nI (po_addType σ).1.1)), (7, .int b)] [] (rw_O (A, ad, S') R' h') (cn + 1 + 0) (sn + 6 + 0) := by
    refine ax_goto (tgt := 1391) dL_law_264 (by decide) ?_
    exact ax_sub (fun q hq => List.mem_append_left [(6, Value.int (nI (po_addType σ).1.1)), (7, Value.int b)] hq) (kk S' R' h' (LI_nx hL hC' a2 ⟨f', h1o⟩ ⟨g, h1d⟩ a1))
  by_cases z0 : (po_addType σ).1.1 = 0
  · refine ax_if_ne (tgt := 264) dL_law_249 (by decide) (fun z => absurd (by rw [z0]; rfl) z) (fun _ => ?_)
    refine ax_aload_n dL_law_252 rfl ?_
    refine ax_iconst (v := 0) dL_law_253 (by decide) ?_
    refine ax_lald dL_law_254 (rw_rd (A := (A, ad, S')) ⟨a1 _ _ h1o, l7⟩) (by unfold vp_in; decide) ?_
    rw [show f' (0 : Int32).toNatClampNeg = ((po_addType σ).1.2.toInt64) from hV z0]
    refine ax_iload dL_law_255 rfl ?_
    rw [a4 z0] at hfin ⊢
    refine ax_i2l dL_law_257 ?_
    refine ax_lcmp dL_law_258 ?_
    rw [lg_cmp0]
    exact ax_if_eq (tgt := 264) dL_law_259 (by decide) (fun _ => hfin) (fun z => absurd rfl z)
  · exact ax_if_ne (tgt := 264) dL_law_249 (by decide) (fun _ => hfin) (fun z => absurd z (il_ne _ 0 z0 rfl rfl (by have := pl_addType σ ; omega) (by decide)))
set_option maxRecDepth 100000 in
set_option maxHeartbeats 4000000 in
theorem lc_addCon (d : Nat) {mc ms cn sn i ou od : Nat} {A : Nat → Nat} {ad : cs_K → Nat} {S : cs_S} {R : rw_S} {h : ax_H} {σ : sp_St} (hL : LI A ad S R h σ ou od) (hi : i + 6 ≤ G.2.2.2.2.2.1) (hN : G.2.2.2.2.2.1 ≤ 3072) (hcn : cn + 1 + 1 ≤ mc) (hsn : sn + 6 + 3 ≤ ms) {Q : ax_P} (kk : ∀ S' R' h', LI A ad S' R' h' (po_addCon σ (G.2.2.2.2.2.2 (i + 1)) (G.2.2.2.2.2.2 (i + 2)) (G.2.2.2.2.2.2 (i + 3)) (G.2.2.2.2.2.2 (i + 4)) (G.2.2.2.2.2.2 (i + 5))).2 ou od → AW G mL_law (d + 80) mc ms Q 1391 [(0, .ref G.2.2.2.2.1), (1, .ref (ad (0, 0))), (2, .ref (A 0)), (3, .ref ou), (4, .ref od), (5, .int (nI i))] [] (rw_O (A, ad, S') R' h') (cn + 1 + 1) (sn + 6 + 3)) : AW G mL_law (d + 80) mc ms Q 267 [(0, .ref G.2.2.2.2.1), (1, .ref (ad (0, 0))), (2, .ref (A 0)), (3, .ref ou), (4, .ref od), (5, .int (nI i))] [] (rw_O (A, ad, S) R h) cn sn := by
  have hne := LI_ne hL
  obtain ⟨l1, l2, l3, l4, l5, ⟨f, hf⟩, l7, ⟨g, hg⟩, l9⟩ := id hL
  refine ax_aload_n dL_law_267 rfl ?_
  refine ax_aload_n dL_law_268 rfl ?_
  refine ax_iload dL_law_269 rfl ?_
  refine ax_iconst (v := 1) dL_law_271 (by decide) ?_
  refine ax_iadd dL_law_272 ?_
  refine ax_top (y := nI (i + 1)) (nI_add i 1) ?_
  refine ax_sld dL_law_273 (nI_in (by omega) (by omega)) ?_
  refine ax_top (y := (G.2.2.2.2.2.2 (i + 1))) (by rw [nI_clamp (by omega)]) ?_
  refine ax_aload_n dL_law_274 rfl ?_
  refine ax_iload dL_law_275 rfl ?_
  refine ax_iconst (v := 2) dL_law_277 (by decide) ?_
  refine ax_iadd dL_law_278 ?_
  refine ax_top (y := nI (i + 2)) (nI_add i 2) ?_
  refine ax_sld dL_law_279 (nI_in (by omega) (by omega)) ?_
  refine ax_top (y := (G.2.2.2.2.2.2 (i + 2))) (by rw [nI_clamp (by omega)]) ?_
  refine ax_aload_n dL_law_280 rfl ?_
  refine ax_iload dL_law_281 rfl ?_
  refine ax_iconst (v := 3) dL_law_283 (by decide) ?_
  refine ax_iadd dL_law_284 ?_
  refine ax_top (y := nI (i + 3)) (nI_add i 3) ?_
  refine ax_sld dL_law_285 (nI_in (by omega) (by omega)) ?_
  refine ax_top (y := (G.2.2.2.2.2.2 (i + 3))) (by rw [nI_clamp (by omega)]) ?_
  refine ax_aload_n dL_law_286 rfl ?_
  refine ax_iload dL_law_287 rfl ?_
  refine ax_iconst (v := 4) dL_law_289 (by decide) ?_
  refine ax_iadd dL_law_290 ?_
  refine ax_top (y := nI (i + 4)) (nI_add i 4) ?_
  refine ax_sld dL_law_291 (nI_in (by omega) (by omega)) ?_
  refine ax_top (y := (G.2.2.2.2.2.2 (i + 4))) (by rw [nI_clamp (by omega)]) ?_
  refine ax_aload_n dL_law_292 rfl ?_
  refine ax_iload dL_law_293 rfl ?_
  refine ax_iconst (v := 5) dL_law_295 (by decide) ?_
  refine ax_iadd dL_law_296 ?_
  refine ax_top (y := nI (i + 5)) (nI_add i 5) ?_
  refine ax_sld dL_law_297 (nI_in (by omega) (by omega)) ?_
  refine ax_top (y := (G.2.2.2.2.2.2 (i + 5))) (by rw [nI_clamp (by omega)]) ?_
  refine ax_aload_n dL_law_298 rfl ?_
  refine ax_eqh (rw_sw l3) ?_
  refine ax_callH (av := [.ref (ad (0, 0)), .int (G.2.2.2.2.2.2 (i + 1)), .int (G.2.2.2.2.2.2 (i + 2)), .int (G.2.2.2.2.2.2 (i + 3)), .int (G.2.2.2.2.2.2 (i + 4)), .int (G.2.2.2.2.2.2 (i + 5)), .ref ou]) (rest := []) (mc' := 1) (ms' := 6) dL_law_299 rfl lkL_100 rfl (Nat.le_of_ble_eq_true rfl) (Nat.le_of_ble_eq_true rfl) (by omega) (by omega) (lh_addCon l2 (d + 62) S (ax_w h (rw_l (A, ad, S) R)) l4 (G.2.2.2.2.2.2 (i + 1)) (G.2.2.2.2.2.2 (i + 2)) (G.2.2.2.2.2.2 (i + 3)) (G.2.2.2.2.2.2 (i + 4)) (G.2.2.2.2.2.2 (i + 5)) (rw_rou l3 l7 hf) (Q := fun r h9 => r = .inl (some (.int (nI (po_addCon σ (G.2.2.2.2.2.2 (i + 1)) (G.2.2.2.2.2.2 (i + 2)) (G.2.2.2.2.2.2 (i + 3)) (G.2.2.2.2.2.2 (i + 4)) (G.2.2.2.2.2.2 (i + 5))).1.1))) ∧ ∃ S' f', CI (po_addCon σ (G.2.2.2.2.2.2 (i + 1)) (G.2.2.2.2.2.2 (i + 2)) (G.2.2.2.2.2.2 (i + 3)) (G.2.2.2.2.2.2 (i + 4)) (G.2.2.2.2.2.2 (i + 5))).2 S' ∧ h9 = va_up (cs_O ad S' (ax_w h (rw_l (A, ad, S) R))) ou (some (.inl (1, 1, .inr (.inl f')))) ∧ ((po_addCon σ (G.2.2.2.2.2.2 (i + 1)) (G.2.2.2.2.2.2 (i + 2)) (G.2.2.2.2.2.2 (i + 3)) (G.2.2.2.2.2.2 (i + 4)) (G.2.2.2.2.2.2 (i + 5))).1.1 = 0 → f' 0 = ((po_addCon σ (G.2.2.2.2.2.2 (i + 1)) (G.2.2.2.2.2.2 (i + 2)) (G.2.2.2.2.2.2 (i + 3)) (G.2.2.2.2.2.2 (i + 4)) (G.2.2.2.2.2.2 (i + 5))).1.2.toInt64))) (fun S' c z => ⟨by rw [z]; rfl, S', _, c, rfl, fun _ => if_pos rfl⟩) (fun S' c z => ⟨rfl, S', f, c, (va_up_id (rw_rou l3 l7 hf S')).symm, fun w => absurd w z⟩)) (fun E9 h9 q9 => by cases q9.1) (fun v9 h9 q9 => ?_)
  obtain ⟨e9, S', f', hC', rfl, hV⟩ := q9
  cases e9
  refine ax_eqh (rw_lou l3 l7 S' _) ?_
  obtain ⟨h1, hh1⟩ : ∃ h1, h1 = va_up h ou (some (.inl (1, 1, .inr (.inl f')))) := ⟨_, rfl⟩
  rw [← hh1]
  have h1o : h1 ou = some (.inl (1, 1, .inr (.inl f'))) := by rw [hh1, ax_up_s]
  have h1d : h1 od = some (.inl (2, 1, .inr (.inr (.inr (.inl g))))) := by rw [hh1, ax_up_n (Ne.symm hne)]; exact hg
  have hR1 : RI (A, ad, S') σ R h1 := by rw [hh1]; exact RI_ou (fun n f0 e => by rw [hf] at e; cases e) (LI_S l5)
  show AW G mL_law (d + 80) mc ms Q 302 [(0, .ref G.2.2.2.2.1), (1, .ref (ad (0, 0))), (2, .ref (A 0)), (3, .ref ou), (4, .ref od), (5, .int (nI i))] [.int (nI (po_addCon σ (G.2.2.2.2.2.2 (i + 1)) (G.2.2.2.2.2.2 (i + 2)) (G.2.2.2.2.2.2 (i + 3)) (G.2.2.2.2.2.2 (i + 4)) (G.2.2.2.2.2.2 (i + 5))).1.1)] (rw_O (A, ad, S') R h1) (cn + 1) (sn + 6)
  refine ax_istore dL_law_302 (by decide) ?_
  refine ax_sub (lv' := [(0, .ref G.2.2.2.2.1), (1, .ref (ad (0, 0))), (2, .ref (A 0)), (3, .ref ou), (4, .ref od), (5, .int (nI i)), (6, .int (nI (po_addCon σ (G.2.2.2.2.2.2 (i + 1)) (G.2.2.2.2.2.2 (i + 2)) (G.2.2.2.2.2.2 (i + 3)) (G.2.2.2.2.2.2 (i + 4)) (G.2.2.2.2.2.2 (i + 5))).1.1))]) (fun _ z => z) ?_
  refine ax_aload_n dL_law_304 rfl ?_
  refine ax_aload_n dL_law_305 rfl ?_
  refine ax_iload dL_law_306 rfl ?_
  refine ax_iconst (v := 1) dL_law_308 (by decide) ?_
  refine ax_iadd dL_law_309 ?_
  refine ax_top (y := nI (i + 1)) (nI_add i 1) ?_
  refine ax_sld dL_law_310 (nI_in (by omega) (by omega)) ?_
  refine ax_top (y := (G.2.2.2.2.2.2 (i + 1))) (by rw [nI_clamp (by omega)]) ?_
  refine ax_aload_n dL_law_311 rfl ?_
  refine ax_iload dL_law_312 rfl ?_
  refine ax_iconst (v := 2) dL_law_314 (by decide) ?_
  refine ax_iadd dL_law_315 ?_
  refine ax_top (y := nI (i + 2)) (nI_add i 2) ?_
  refine ax_sld dL_law_316 (nI_in (by omega) (by omega)) ?_
  refine ax_top (y := (G.2.2.2.2.2.2 (i + 2))) (by rw [nI_clamp (by omega)]) ?_
  refine ax_aload_n dL_law_317 rfl ?_
  refine ax_iload dL_law_318 rfl ?_
  refine ax_iconst (v := 3) dL_law_320 (by decide) ?_
  refine ax_iadd dL_law_321 ?_
  refine ax_top (y := nI (i + 3)) (nI_add i 3) ?_
  refine ax_sld dL_law_322 (nI_in (by omega) (by omega)) ?_
  refine ax_top (y := (G.2.2.2.2.2.2 (i + 3))) (by rw [nI_clamp (by omega)]) ?_
  refine ax_aload_n dL_law_323 rfl ?_
  refine ax_iload dL_law_324 rfl ?_
  refine ax_iconst (v := 4) dL_law_326 (by decide) ?_
  refine ax_iadd dL_law_327 ?_
  refine ax_top (y := nI (i + 4)) (nI_add i 4) ?_
  refine ax_sld dL_law_328 (nI_in (by omega) (by omega)) ?_
  refine ax_top (y := (G.2.2.2.2.2.2 (i + 4))) (by rw [nI_clamp (by omega)]) ?_
  refine ax_aload_n dL_law_329 rfl ?_
  refine ax_iload dL_law_330 rfl ?_
  refine ax_iconst (v := 5) dL_law_332 (by decide) ?_
  refine ax_iadd dL_law_333 ?_
  refine ax_top (y := nI (i + 5)) (nI_add i 5) ?_
  refine ax_sld dL_law_334 (nI_in (by omega) (by omega)) ?_
  refine ax_top (y := (G.2.2.2.2.2.2 (i + 5))) (by rw [nI_clamp (by omega)]) ?_
  refine ax_callV (b := A 0) (av := [.int (G.2.2.2.2.2.2 (i + 1)), .int (G.2.2.2.2.2.2 (i + 2)), .int (G.2.2.2.2.2.2 (i + 3)), .int (G.2.2.2.2.2.2 (i + 4)), .int (G.2.2.2.2.2.2 (i + 5))]) (rest := []) (mc' := 1) (ms' := 3) dL_law_335 rfl lkL_103 (rw_g0 (A := (A, ad, S')) l1) rfl (Nat.le_of_ble_eq_true rfl) (Nat.le_of_ble_eq_true rfl) (by omega) (by omega) (rb_addCon (A := (A, ad, S')) l1 (d + 31) R h1 hR1 (G.2.2.2.2.2.2 (i + 1)) (G.2.2.2.2.2.2 (i + 2)) (G.2.2.2.2.2.2 (i + 3)) (G.2.2.2.2.2.2 (i + 4)) (G.2.2.2.2.2.2 (i + 5))) (fun E9 h9 q9 => by obtain ⟨_, _, _, e9, _⟩ := q9; cases e9) (fun v9 h9 q9 => ?_)
  obtain ⟨R', h', b, e9, rfl, a1, a2, a3, a4⟩ := q9
  cases e9
  show AW G mL_law (d + 80) mc ms Q 338 [(0, .ref G.2.2.2.2.1), (1, .ref (ad (0, 0))), (2, .ref (A 0)), (3, .ref ou), (4, .ref od), (5, .int (nI i)), (6, .int (nI (po_addCon σ (G.2.2.2.2.2.2 (i + 1)) (G.2.2.2.2.2.2 (i + 2)) (G.2.2.2.2.2.2 (i + 3)) (G.2.2.2.2.2.2 (i + 4)) (G.2.2.2.2.2.2 (i + 5))).1.1))] [.int b] (rw_O (A, ad, S') R' h') (cn + 1 + 1) (sn + 6 + 3)
  refine ax_istore dL_law_338 (by decide) ?_
  refine ax_sub (lv' := [(0, .ref G.2.2.2.2.1), (1, .ref (ad (0, 0))), (2, .ref (A 0)), (3, .ref ou), (4, .ref od), (5, .int (nI i)), (6, .int (nI (po_addCon σ (G.2.2.2.2.2.2 (i + 1)) (G.2.2.2.2.2.2 (i + 2)) (G.2.2.2.2.2.2 (i + 3)) (G.2.2.2.2.2.2 (i + 4)) (G.2.2.2.2.2.2 (i + 5))).1.1)), (7, .int b)]) (fun _ z => z) ?_
  refine ax_aload_n dL_law_340 rfl ?_
  refine ax_callV (b := A 0) (av := []) (rest := []) (mc' := 0) (ms' := 0) dL_law_341 rfl lkL_93 (rw_g0 (A := (A, ad, S')) l1) rfl (Nat.le_of_ble_eq_true rfl) (Nat.le_of_ble_eq_true rfl) (by omega) (by omega) (r_thrown (A := (A, ad, S')) l1 (d + 79) R' h') (fun E9 h9 q9 => by cases q9.1) (fun v9 h9 q9 => ?_)
  obtain ⟨e9, rfl⟩ := q9
  cases e9
  show AW G mL_law (d + 80) mc ms Q 344 [(0, .ref G.2.2.2.2.1), (1, .ref (ad (0, 0))), (2, .ref (A 0)), (3, .ref ou), (4, .ref od), (5, .int (nI i)), (6, .int (nI (po_addCon σ (G.2.2.2.2.2.2 (i + 1)) (G.2.2.2.2.2.2 (i + 2)) (G.2.2.2.2.2.2 (i + 3)) (G.2.2.2.2.2.2 (i + 4)) (G.2.2.2.2.2.2 (i + 5))).1.1)), (7, .int b)] [.int (R'.1 0)] (rw_O (A, ad, S') R' h') (cn + 1 + 1) (sn + 6 + 3)
  rw [a3]
  refine ax_iload dL_law_344 rfl ?_
  refine ax_icmp_eq (tgt := 351) dL_law_346 (by decide) (fun _ => ?_) (fun z => absurd rfl z)
  refine ax_iload dL_law_351 rfl ?_
  have hfin : AW G mL_law (d + 80) mc ms Q 368 [(0, .ref G.2.2.2.2.1), (1, .ref (ad (0, 0))), (2, .ref (A 0)), (3, .ref ou), (4, .ref od), (5, .int (nI i)), (6, .int (nI (po_addCon σ (G.2.2.2.2.2.2 (i + 1)) (G.2.2.2.2.2.2 (i + 2)) (G.2.2.2.2.2.2 (i + 3)) (G.2.2.2.2.2.2 (i + 4)) (G.2.2.2.2.2.2 (i + 5))).1.1)), (7, .int b)] [] (rw_O (A, ad, S') R' h') (cn + 1 + 1) (sn + 6 + 3) := by
    refine ax_goto (tgt := 1391) dL_law_368 (by decide) ?_
    exact ax_sub (fun q hq => List.mem_append_left [(6, Value.int (nI (po_addCon σ (G.2.2.2.2.2.2 (i + 1)) (G.2.2.2.2.2.2 (i + 2)) (G.2.2.2.2.2.2 (i + 3)) (G.2.2.2.2.2.2 (i + 4)) (G.2.2.2.2.2.2 (i + 5))).1.1)), (7, Value.int b)] hq) (kk S' R' h' (LI_nx hL hC' a2 ⟨f', h1o⟩ ⟨g, h1d⟩ a1))
  by_cases z0 : (po_addCon σ (G.2.2.2.2.2.2 (i + 1)) (G.2.2.2.2.2.2 (i + 2)) (G.2.2.2.2.2.2 (i + 3)) (G.2.2.2.2.2.2 (i + 4)) (G.2.2.2.2.2.2 (i + 5))).1.1 = 0
  · refine ax_if_ne (tgt := 368) dL_law_353 (by decide) (fun z => absurd (by rw [z0]; rfl) z) (fun _ => ?_)
    refine ax_aload_n dL_law_356 rfl ?_
    refine ax_iconst (v := 0) dL_law_357 (by decide) ?_
    refine ax_lald dL_law_358 (rw_rd (A := (A, ad, S')) ⟨a1 _ _ h1o, l7⟩) (by unfold vp_in; decide) ?_
    rw [show f' (0 : Int32).toNatClampNeg = ((po_addCon σ (G.2.2.2.2.2.2 (i + 1)) (G.2.2.2.2.2.2 (i + 2)) (G.2.2.2.2.2.2 (i + 3)) (G.2.2.2.2.2.2 (i + 4)) (G.2.2.2.2.2.2 (i + 5))).1.2.toInt64) from hV z0]
    refine ax_iload dL_law_359 rfl ?_
    rw [a4 z0] at hfin ⊢
    refine ax_i2l dL_law_361 ?_
    refine ax_lcmp dL_law_362 ?_
    rw [lg_cmp0]
    exact ax_if_eq (tgt := 368) dL_law_363 (by decide) (fun _ => hfin) (fun z => absurd rfl z)
  · exact ax_if_ne (tgt := 368) dL_law_353 (by decide) (fun _ => hfin) (fun z => absurd z (il_ne _ 0 z0 rfl rfl (by have := pl_addCon σ (G.2.2.2.2.2.2 (i + 1)) (G.2.2.2.2.2.2 (i + 2)) (G.2.2.2.2.2.2 (i + 3)) (G.2.2.2.2.2.2 (i + 4)) (G.2.2.2.2.2.2 (i + 5)); omega) (by decide)))
set_option maxRecDepth 100000 in
set_option maxHeartbeats 4000000 in
theorem lc_count (d : Nat) {mc ms cn sn i ou od : Nat} {A : Nat → Nat} {ad : cs_K → Nat} {S : cs_S} {R : rw_S} {h : ax_H} {σ : sp_St} (hL : LI A ad S R h σ ou od) (hi : i + 6 ≤ G.2.2.2.2.2.1) (hN : G.2.2.2.2.2.1 ≤ 3072) (hcn : cn + 1 + (rw_bC (po_wm σ (G.2.2.2.2.2.2 (i + 1)) (G.2.2.2.2.2.2 (i + 2))) R σ.1) ≤ mc) (hsn : sn + 6 + (rw_bS (po_wm σ (G.2.2.2.2.2.2 (i + 1)) (G.2.2.2.2.2.2 (i + 2))) R σ.1) ≤ ms) {Q : ax_P} (kk : ∀ S' R' h', LI A ad S' R' h' (po_count σ (G.2.2.2.2.2.2 (i + 1)) (G.2.2.2.2.2.2 (i + 2))).2 ou od → ((po_wm σ (G.2.2.2.2.2.2 (i + 1)) (G.2.2.2.2.2.2 (i + 2))) = true → R'.1 12 = 1) → AW G mL_law (d + 80) mc ms Q 1391 [(0, .ref G.2.2.2.2.1), (1, .ref (ad (0, 0))), (2, .ref (A 0)), (3, .ref ou), (4, .ref od), (5, .int (nI i))] [] (rw_O (A, ad, S') R' h') (cn + 1 + (rw_bC (po_wm σ (G.2.2.2.2.2.2 (i + 1)) (G.2.2.2.2.2.2 (i + 2))) R σ.1)) (sn + 6 + (rw_bS (po_wm σ (G.2.2.2.2.2.2 (i + 1)) (G.2.2.2.2.2.2 (i + 2))) R σ.1))) : AW G mL_law (d + 80) mc ms Q 397 [(0, .ref G.2.2.2.2.1), (1, .ref (ad (0, 0))), (2, .ref (A 0)), (3, .ref ou), (4, .ref od), (5, .int (nI i))] [] (rw_O (A, ad, S) R h) cn sn := by
  have hne := LI_ne hL
  obtain ⟨l1, l2, l3, l4, l5, ⟨f, hf⟩, l7, ⟨g, hg⟩, l9⟩ := id hL
  refine ax_aload_n dL_law_397 rfl ?_
  refine ax_aload_n dL_law_398 rfl ?_
  refine ax_iload dL_law_399 rfl ?_
  refine ax_iconst (v := 1) dL_law_401 (by decide) ?_
  refine ax_iadd dL_law_402 ?_
  refine ax_top (y := nI (i + 1)) (nI_add i 1) ?_
  refine ax_sld dL_law_403 (nI_in (by omega) (by omega)) ?_
  refine ax_top (y := (G.2.2.2.2.2.2 (i + 1))) (by rw [nI_clamp (by omega)]) ?_
  refine ax_aload_n dL_law_404 rfl ?_
  refine ax_iload dL_law_405 rfl ?_
  refine ax_iconst (v := 2) dL_law_407 (by decide) ?_
  refine ax_iadd dL_law_408 ?_
  refine ax_top (y := nI (i + 2)) (nI_add i 2) ?_
  refine ax_sld dL_law_409 (nI_in (by omega) (by omega)) ?_
  refine ax_top (y := (G.2.2.2.2.2.2 (i + 2))) (by rw [nI_clamp (by omega)]) ?_
  refine ax_aload_n dL_law_410 rfl ?_
  refine ax_eqh (rw_sw l3) ?_
  refine ax_callH (av := [.ref (ad (0, 0)), .int (G.2.2.2.2.2.2 (i + 1)), .int (G.2.2.2.2.2.2 (i + 2)), .ref ou]) (rest := []) (mc' := 1) (ms' := 6) dL_law_411 rfl lkL_112 rfl (Nat.le_of_ble_eq_true rfl) (Nat.le_of_ble_eq_true rfl) (by omega) (by omega) (lh_count l2 (d + 62) S (ax_w h (rw_l (A, ad, S) R)) l4 (G.2.2.2.2.2.2 (i + 1)) (G.2.2.2.2.2.2 (i + 2)) (rw_rou l3 l7 hf) (Q := fun r h9 => r = .inl (some (.int (nI (po_count σ (G.2.2.2.2.2.2 (i + 1)) (G.2.2.2.2.2.2 (i + 2))).1.1))) ∧ ∃ S' f', CI (po_count σ (G.2.2.2.2.2.2 (i + 1)) (G.2.2.2.2.2.2 (i + 2))).2 S' ∧ h9 = va_up (cs_O ad S' (ax_w h (rw_l (A, ad, S) R))) ou (some (.inl (1, 1, .inr (.inl f')))) ∧ ((po_count σ (G.2.2.2.2.2.2 (i + 1)) (G.2.2.2.2.2.2 (i + 2))).1.1 = 0 → f' 0 = ((po_count σ (G.2.2.2.2.2.2 (i + 1)) (G.2.2.2.2.2.2 (i + 2))).1.2.toInt64))) (fun S' c z => ⟨by rw [z]; rfl, S', _, c, rfl, fun _ => if_pos rfl⟩) (fun S' c z => ⟨rfl, S', f, c, (va_up_id (rw_rou l3 l7 hf S')).symm, fun w => absurd w z⟩)) (fun E9 h9 q9 => by cases q9.1) (fun v9 h9 q9 => ?_)
  obtain ⟨e9, S', f', hC', rfl, hV⟩ := q9
  cases e9
  refine ax_eqh (rw_lou l3 l7 S' _) ?_
  obtain ⟨h1, hh1⟩ : ∃ h1, h1 = va_up h ou (some (.inl (1, 1, .inr (.inl f')))) := ⟨_, rfl⟩
  rw [← hh1]
  have h1o : h1 ou = some (.inl (1, 1, .inr (.inl f'))) := by rw [hh1, ax_up_s]
  have h1d : h1 od = some (.inl (2, 1, .inr (.inr (.inr (.inl g))))) := by rw [hh1, ax_up_n (Ne.symm hne)]; exact hg
  have hR1 : RI (A, ad, S') σ R h1 := by rw [hh1]; exact RI_ou (fun n f0 e => by rw [hf] at e; cases e) (LI_S l5)
  show AW G mL_law (d + 80) mc ms Q 414 [(0, .ref G.2.2.2.2.1), (1, .ref (ad (0, 0))), (2, .ref (A 0)), (3, .ref ou), (4, .ref od), (5, .int (nI i))] [.int (nI (po_count σ (G.2.2.2.2.2.2 (i + 1)) (G.2.2.2.2.2.2 (i + 2))).1.1)] (rw_O (A, ad, S') R h1) (cn + 1) (sn + 6)
  refine ax_istore dL_law_414 (by decide) ?_
  refine ax_sub (lv' := [(0, .ref G.2.2.2.2.1), (1, .ref (ad (0, 0))), (2, .ref (A 0)), (3, .ref ou), (4, .ref od), (5, .int (nI i)), (6, .int (nI (po_count σ (G.2.2.2.2.2.2 (i + 1)) (G.2.2.2.2.2.2 (i + 2))).1.1))]) (fun _ z => z) ?_
  refine ax_aload_n dL_law_416 rfl ?_
  refine ax_aload_n dL_law_417 rfl ?_
  refine ax_iload dL_law_418 rfl ?_
  refine ax_iconst (v := 1) dL_law_420 (by decide) ?_
  refine ax_iadd dL_law_421 ?_
  refine ax_top (y := nI (i + 1)) (nI_add i 1) ?_
  refine ax_sld dL_law_422 (nI_in (by omega) (by omega)) ?_
  refine ax_top (y := (G.2.2.2.2.2.2 (i + 1))) (by rw [nI_clamp (by omega)]) ?_
  refine ax_aload_n dL_law_423 rfl ?_
  refine ax_iload dL_law_424 rfl ?_
  refine ax_iconst (v := 2) dL_law_426 (by decide) ?_
  refine ax_iadd dL_law_427 ?_
  refine ax_top (y := nI (i + 2)) (nI_add i 2) ?_
  refine ax_sld dL_law_428 (nI_in (by omega) (by omega)) ?_
  refine ax_top (y := (G.2.2.2.2.2.2 (i + 2))) (by rw [nI_clamp (by omega)]) ?_
  refine ax_callV (b := A 0) (av := [.int (G.2.2.2.2.2.2 (i + 1)), .int (G.2.2.2.2.2.2 (i + 2))]) (rest := []) (mc' := (rw_bC (po_wm σ (G.2.2.2.2.2.2 (i + 1)) (G.2.2.2.2.2.2 (i + 2))) R σ.1)) (ms' := (rw_bS (po_wm σ (G.2.2.2.2.2.2 (i + 1)) (G.2.2.2.2.2.2 (i + 2))) R σ.1)) dL_law_429 rfl lkL_114 (rw_g0 (A := (A, ad, S')) l1) rfl (Nat.le_of_ble_eq_true rfl) (Nat.le_of_ble_eq_true rfl) (by omega) (by omega) (rb_count (A := (A, ad, S')) l1 (d + 30) R h1 hR1 (G.2.2.2.2.2.2 (i + 1)) (G.2.2.2.2.2.2 (i + 2))) (fun E9 h9 q9 => by obtain ⟨_, _, _, e9, _⟩ := q9; cases e9) (fun v9 h9 q9 => ?_)
  obtain ⟨R', h', b, e9, rfl, a1, a2, a3, a4, a5⟩ := q9
  cases e9
  show AW G mL_law (d + 80) mc ms Q 432 [(0, .ref G.2.2.2.2.1), (1, .ref (ad (0, 0))), (2, .ref (A 0)), (3, .ref ou), (4, .ref od), (5, .int (nI i)), (6, .int (nI (po_count σ (G.2.2.2.2.2.2 (i + 1)) (G.2.2.2.2.2.2 (i + 2))).1.1))] [.int b] (rw_O (A, ad, S') R' h') (cn + 1 + (rw_bC (po_wm σ (G.2.2.2.2.2.2 (i + 1)) (G.2.2.2.2.2.2 (i + 2))) R σ.1)) (sn + 6 + (rw_bS (po_wm σ (G.2.2.2.2.2.2 (i + 1)) (G.2.2.2.2.2.2 (i + 2))) R σ.1))
  refine ax_istore dL_law_432 (by decide) ?_
  refine ax_sub (lv' := [(0, .ref G.2.2.2.2.1), (1, .ref (ad (0, 0))), (2, .ref (A 0)), (3, .ref ou), (4, .ref od), (5, .int (nI i)), (6, .int (nI (po_count σ (G.2.2.2.2.2.2 (i + 1)) (G.2.2.2.2.2.2 (i + 2))).1.1)), (7, .int b)]) (fun _ z => z) ?_
  refine ax_aload_n dL_law_434 rfl ?_
  refine ax_callV (b := A 0) (av := []) (rest := []) (mc' := 0) (ms' := 0) dL_law_435 rfl lkL_93 (rw_g0 (A := (A, ad, S')) l1) rfl (Nat.le_of_ble_eq_true rfl) (Nat.le_of_ble_eq_true rfl) (by omega) (by omega) (r_thrown (A := (A, ad, S')) l1 (d + 79) R' h') (fun E9 h9 q9 => by cases q9.1) (fun v9 h9 q9 => ?_)
  obtain ⟨e9, rfl⟩ := q9
  cases e9
  show AW G mL_law (d + 80) mc ms Q 438 [(0, .ref G.2.2.2.2.1), (1, .ref (ad (0, 0))), (2, .ref (A 0)), (3, .ref ou), (4, .ref od), (5, .int (nI i)), (6, .int (nI (po_count σ (G.2.2.2.2.2.2 (i + 1)) (G.2.2.2.2.2.2 (i + 2))).1.1)), (7, .int b)] [.int (R'.1 0)] (rw_O (A, ad, S') R' h') (cn + 1 + (rw_bC (po_wm σ (G.2.2.2.2.2.2 (i + 1)) (G.2.2.2.2.2.2 (i + 2))) R σ.1)) (sn + 6 + (rw_bS (po_wm σ (G.2.2.2.2.2.2 (i + 1)) (G.2.2.2.2.2.2 (i + 2))) R σ.1))
  rw [a3]
  refine ax_iload dL_law_438 rfl ?_
  refine ax_icmp_eq (tgt := 445) dL_law_440 (by decide) (fun _ => ?_) (fun z => absurd rfl z)
  refine ax_iload dL_law_445 rfl ?_
  have hfin : AW G mL_law (d + 80) mc ms Q 462 [(0, .ref G.2.2.2.2.1), (1, .ref (ad (0, 0))), (2, .ref (A 0)), (3, .ref ou), (4, .ref od), (5, .int (nI i)), (6, .int (nI (po_count σ (G.2.2.2.2.2.2 (i + 1)) (G.2.2.2.2.2.2 (i + 2))).1.1)), (7, .int b)] [] (rw_O (A, ad, S') R' h') (cn + 1 + (rw_bC (po_wm σ (G.2.2.2.2.2.2 (i + 1)) (G.2.2.2.2.2.2 (i + 2))) R σ.1)) (sn + 6 + (rw_bS (po_wm σ (G.2.2.2.2.2.2 (i + 1)) (G.2.2.2.2.2.2 (i + 2))) R σ.1)) := by
    refine ax_goto (tgt := 1391) dL_law_462 (by decide) ?_
    exact ax_sub (fun q hq => List.mem_append_left [(6, Value.int (nI (po_count σ (G.2.2.2.2.2.2 (i + 1)) (G.2.2.2.2.2.2 (i + 2))).1.1)), (7, Value.int b)] hq) (kk S' R' h' (LI_nx hL hC' a2 ⟨f', h1o⟩ ⟨g, h1d⟩ a1) a5)
  by_cases z0 : (po_count σ (G.2.2.2.2.2.2 (i + 1)) (G.2.2.2.2.2.2 (i + 2))).1.1 = 0
  · refine ax_if_ne (tgt := 462) dL_law_447 (by decide) (fun z => absurd (by rw [z0]; rfl) z) (fun _ => ?_)
    refine ax_aload_n dL_law_450 rfl ?_
    refine ax_iconst (v := 0) dL_law_451 (by decide) ?_
    refine ax_lald dL_law_452 (rw_rd (A := (A, ad, S')) ⟨a1 _ _ h1o, l7⟩) (by unfold vp_in; decide) ?_
    rw [show f' (0 : Int32).toNatClampNeg = ((po_count σ (G.2.2.2.2.2.2 (i + 1)) (G.2.2.2.2.2.2 (i + 2))).1.2.toInt64) from hV z0]
    refine ax_iload dL_law_453 rfl ?_
    rw [a4 z0] at hfin ⊢
    refine ax_i2l dL_law_455 ?_
    refine ax_lcmp dL_law_456 ?_
    rw [lg_cmp0]
    exact ax_if_eq (tgt := 462) dL_law_457 (by decide) (fun _ => hfin) (fun z => absurd rfl z)
  · exact ax_if_ne (tgt := 462) dL_law_447 (by decide) (fun _ => hfin) (fun z => absurd z (il_ne _ 0 z0 rfl rfl (by have := pl_count σ (G.2.2.2.2.2.2 (i + 1)) (G.2.2.2.2.2.2 (i + 2)); omega) (by decide)))
set_option maxRecDepth 100000 in
set_option maxHeartbeats 4000000 in
theorem lc_total (d : Nat) {mc ms cn sn i ou od : Nat} {A : Nat → Nat} {ad : cs_K → Nat} {S : cs_S} {R : rw_S} {h : ax_H} {σ : sp_St} (hL : LI A ad S R h σ ou od) (hi : i + 6 ≤ G.2.2.2.2.2.1) (hN : G.2.2.2.2.2.1 ≤ 3072) (hcn : cn + 1 + (rw_bC (po_wm σ (G.2.2.2.2.2.2 (i + 1)) (G.2.2.2.2.2.2 (i + 2))) R σ.1) ≤ mc) (hsn : sn + 6 + (rw_bS (po_wm σ (G.2.2.2.2.2.2 (i + 1)) (G.2.2.2.2.2.2 (i + 2))) R σ.1) ≤ ms) {Q : ax_P} (kk : ∀ S' R' h', LI A ad S' R' h' (po_total σ (G.2.2.2.2.2.2 (i + 1)) (G.2.2.2.2.2.2 (i + 2))).2 ou od → ((po_wm σ (G.2.2.2.2.2.2 (i + 1)) (G.2.2.2.2.2.2 (i + 2))) = true → R'.1 12 = 1) → AW G mL_law (d + 80) mc ms Q 1391 [(0, .ref G.2.2.2.2.1), (1, .ref (ad (0, 0))), (2, .ref (A 0)), (3, .ref ou), (4, .ref od), (5, .int (nI i))] [] (rw_O (A, ad, S') R' h') (cn + 1 + (rw_bC (po_wm σ (G.2.2.2.2.2.2 (i + 1)) (G.2.2.2.2.2.2 (i + 2))) R σ.1)) (sn + 6 + (rw_bS (po_wm σ (G.2.2.2.2.2.2 (i + 1)) (G.2.2.2.2.2.2 (i + 2))) R σ.1))) : AW G mL_law (d + 80) mc ms Q 465 [(0, .ref G.2.2.2.2.1), (1, .ref (ad (0, 0))), (2, .ref (A 0)), (3, .ref ou), (4, .ref od), (5, .int (nI i))] [] (rw_O (A, ad, S) R h) cn sn := by
  have hne := LI_ne hL
  obtain ⟨l1, l2, l3, l4, l5, ⟨f, hf⟩, l7, ⟨g, hg⟩, l9⟩ := id hL
  refine ax_aload_n dL_law_465 rfl ?_
  refine ax_aload_n dL_law_466 rfl ?_
  refine ax_iload dL_law_467 rfl ?_
  refine ax_iconst (v := 1) dL_law_469 (by decide) ?_
  refine ax_iadd dL_law_470 ?_
  refine ax_top (y := nI (i + 1)) (nI_add i 1) ?_
  refine ax_sld dL_law_471 (nI_in (by omega) (by omega)) ?_
  refine ax_top (y := (G.2.2.2.2.2.2 (i + 1))) (by rw [nI_clamp (by omega)]) ?_
  refine ax_aload_n dL_law_472 rfl ?_
  refine ax_iload dL_law_473 rfl ?_
  refine ax_iconst (v := 2) dL_law_475 (by decide) ?_
  refine ax_iadd dL_law_476 ?_
  refine ax_top (y := nI (i + 2)) (nI_add i 2) ?_
  refine ax_sld dL_law_477 (nI_in (by omega) (by omega)) ?_
  refine ax_top (y := (G.2.2.2.2.2.2 (i + 2))) (by rw [nI_clamp (by omega)]) ?_
  refine ax_aload_n dL_law_478 rfl ?_
  refine ax_eqh (rw_sw l3) ?_
  refine ax_callH (av := [.ref (ad (0, 0)), .int (G.2.2.2.2.2.2 (i + 1)), .int (G.2.2.2.2.2.2 (i + 2)), .ref ou]) (rest := []) (mc' := 1) (ms' := 6) dL_law_479 rfl lkL_115 rfl (Nat.le_of_ble_eq_true rfl) (Nat.le_of_ble_eq_true rfl) (by omega) (by omega) (lh_total l2 (d + 62) S (ax_w h (rw_l (A, ad, S) R)) l4 (G.2.2.2.2.2.2 (i + 1)) (G.2.2.2.2.2.2 (i + 2)) (rw_rou l3 l7 hf) (Q := fun r h9 => r = .inl (some (.int (nI (po_total σ (G.2.2.2.2.2.2 (i + 1)) (G.2.2.2.2.2.2 (i + 2))).1.1))) ∧ ∃ S' f', CI (po_total σ (G.2.2.2.2.2.2 (i + 1)) (G.2.2.2.2.2.2 (i + 2))).2 S' ∧ h9 = va_up (cs_O ad S' (ax_w h (rw_l (A, ad, S) R))) ou (some (.inl (1, 1, .inr (.inl f')))) ∧ ((po_total σ (G.2.2.2.2.2.2 (i + 1)) (G.2.2.2.2.2.2 (i + 2))).1.1 = 0 → f' 0 = ((po_total σ (G.2.2.2.2.2.2 (i + 1)) (G.2.2.2.2.2.2 (i + 2))).1.2.toInt64))) (fun S' c z => ⟨by rw [z]; rfl, S', _, c, rfl, fun _ => if_pos rfl⟩) (fun S' c z => ⟨rfl, S', f, c, (va_up_id (rw_rou l3 l7 hf S')).symm, fun w => absurd w z⟩)) (fun E9 h9 q9 => by cases q9.1) (fun v9 h9 q9 => ?_)
  obtain ⟨e9, S', f', hC', rfl, hV⟩ := q9
  cases e9
  refine ax_eqh (rw_lou l3 l7 S' _) ?_
  obtain ⟨h1, hh1⟩ : ∃ h1, h1 = va_up h ou (some (.inl (1, 1, .inr (.inl f')))) := ⟨_, rfl⟩
  rw [← hh1]
  have h1o : h1 ou = some (.inl (1, 1, .inr (.inl f'))) := by rw [hh1, ax_up_s]
  have h1d : h1 od = some (.inl (2, 1, .inr (.inr (.inr (.inl g))))) := by rw [hh1, ax_up_n (Ne.symm hne)]; exact hg
  have hR1 : RI (A, ad, S') σ R h1 := by rw [hh1]; exact RI_ou (fun n f0 e => by rw [hf] at e; cases e) (LI_S l5)
  show AW G mL_law (d + 80) mc ms Q 482 [(0, .ref G.2.2.2.2.1), (1, .ref (ad (0, 0))), (2, .ref (A 0)), (3, .ref ou), (4, .ref od), (5, .int (nI i))] [.int (nI (po_total σ (G.2.2.2.2.2.2 (i + 1)) (G.2.2.2.2.2.2 (i + 2))).1.1)] (rw_O (A, ad, S') R h1) (cn + 1) (sn + 6)
  refine ax_istore dL_law_482 (by decide) ?_
  refine ax_sub (lv' := [(0, .ref G.2.2.2.2.1), (1, .ref (ad (0, 0))), (2, .ref (A 0)), (3, .ref ou), (4, .ref od), (5, .int (nI i)), (6, .int (nI (po_total σ (G.2.2.2.2.2.2 (i + 1)) (G.2.2.2.2.2.2 (i + 2))).1.1))]) (fun _ z => z) ?_
  refine ax_aload_n dL_law_484 rfl ?_
  refine ax_aload_n dL_law_485 rfl ?_
  refine ax_iload dL_law_486 rfl ?_
  refine ax_iconst (v := 1) dL_law_488 (by decide) ?_
  refine ax_iadd dL_law_489 ?_
  refine ax_top (y := nI (i + 1)) (nI_add i 1) ?_
  refine ax_sld dL_law_490 (nI_in (by omega) (by omega)) ?_
  refine ax_top (y := (G.2.2.2.2.2.2 (i + 1))) (by rw [nI_clamp (by omega)]) ?_
  refine ax_aload_n dL_law_491 rfl ?_
  refine ax_iload dL_law_492 rfl ?_
  refine ax_iconst (v := 2) dL_law_494 (by decide) ?_
  refine ax_iadd dL_law_495 ?_
  refine ax_top (y := nI (i + 2)) (nI_add i 2) ?_
  refine ax_sld dL_law_496 (nI_in (by omega) (by omega)) ?_
  refine ax_top (y := (G.2.2.2.2.2.2 (i + 2))) (by rw [nI_clamp (by omega)]) ?_
  refine ax_callV (b := A 0) (av := [.int (G.2.2.2.2.2.2 (i + 1)), .int (G.2.2.2.2.2.2 (i + 2))]) (rest := []) (mc' := (rw_bC (po_wm σ (G.2.2.2.2.2.2 (i + 1)) (G.2.2.2.2.2.2 (i + 2))) R σ.1)) (ms' := (rw_bS (po_wm σ (G.2.2.2.2.2.2 (i + 1)) (G.2.2.2.2.2.2 (i + 2))) R σ.1)) dL_law_497 rfl lkL_117 (rw_g0 (A := (A, ad, S')) l1) rfl (Nat.le_of_ble_eq_true rfl) (Nat.le_of_ble_eq_true rfl) (by omega) (by omega) (rb_total (A := (A, ad, S')) l1 (d + 30) R h1 hR1 (G.2.2.2.2.2.2 (i + 1)) (G.2.2.2.2.2.2 (i + 2))) (fun E9 h9 q9 => by obtain ⟨_, _, _, e9, _⟩ := q9; cases e9) (fun v9 h9 q9 => ?_)
  obtain ⟨R', h', b, e9, rfl, a1, a2, a3, a4, a5⟩ := q9
  cases e9
  show AW G mL_law (d + 80) mc ms Q 500 [(0, .ref G.2.2.2.2.1), (1, .ref (ad (0, 0))), (2, .ref (A 0)), (3, .ref ou), (4, .ref od), (5, .int (nI i)), (6, .int (nI (po_total σ (G.2.2.2.2.2.2 (i + 1)) (G.2.2.2.2.2.2 (i + 2))).1.1))] [.int b] (rw_O (A, ad, S') R' h') (cn + 1 + (rw_bC (po_wm σ (G.2.2.2.2.2.2 (i + 1)) (G.2.2.2.2.2.2 (i + 2))) R σ.1)) (sn + 6 + (rw_bS (po_wm σ (G.2.2.2.2.2.2 (i + 1)) (G.2.2.2.2.2.2 (i + 2))) R σ.1))
  refine ax_istore dL_law_500 (by decide) ?_
  refine ax_sub (lv' := [(0, .ref G.2.2.2.2.1), (1, .ref (ad (0, 0))), (2, .ref (A 0)), (3, .ref ou), (4, .ref od), (5, .int (nI i)), (6, .int (nI (po_total σ (G.2.2.2.2.2.2 (i + 1)) (G.2.2.2.2.2.2 (i + 2))).1.1)), (7, .int b)]) (fun _ z => z) ?_
  refine ax_aload_n dL_law_502 rfl ?_
  refine ax_callV (b := A 0) (av := []) (rest := []) (mc' := 0) (ms' := 0) dL_law_503 rfl lkL_93 (rw_g0 (A := (A, ad, S')) l1) rfl (Nat.le_of_ble_eq_true rfl) (Nat.le_of_ble_eq_true rfl) (by omega) (by omega) (r_thrown (A := (A, ad, S')) l1 (d + 79) R' h') (fun E9 h9 q9 => by cases q9.1) (fun v9 h9 q9 => ?_)
  obtain ⟨e9, rfl⟩ := q9
  cases e9
  show AW G mL_law (d + 80) mc ms Q 506 [(0, .ref G.2.2.2.2.1), (1, .ref (ad (0, 0))), (2, .ref (A 0)), (3, .ref ou), (4, .ref od), (5, .int (nI i)), (6, .int (nI (po_total σ (G.2.2.2.2.2.2 (i + 1)) (G.2.2.2.2.2.2 (i + 2))).1.1)), (7, .int b)] [.int (R'.1 0)] (rw_O (A, ad, S') R' h') (cn + 1 + (rw_bC (po_wm σ (G.2.2.2.2.2.2 (i + 1)) (G.2.2.2.2.2.2 (i + 2))) R σ.1)) (sn + 6 + (rw_bS (po_wm σ (G.2.2.2.2.2.2 (i + 1)) (G.2.2.2.2.2.2 (i + 2))) R σ.1))
  rw [a3]
  refine ax_iload dL_law_506 rfl ?_
  refine ax_icmp_eq (tgt := 513) dL_law_508 (by decide) (fun _ => ?_) (fun z => absurd rfl z)
  refine ax_iload dL_law_513 rfl ?_
  have hfin : AW G mL_law (d + 80) mc ms Q 530 [(0, .ref G.2.2.2.2.1), (1, .ref (ad (0, 0))), (2, .ref (A 0)), (3, .ref ou), (4, .ref od), (5, .int (nI i)), (6, .int (nI (po_total σ (G.2.2.2.2.2.2 (i + 1)) (G.2.2.2.2.2.2 (i + 2))).1.1)), (7, .int b)] [] (rw_O (A, ad, S') R' h') (cn + 1 + (rw_bC (po_wm σ (G.2.2.2.2.2.2 (i + 1)) (G.2.2.2.2.2.2 (i + 2))) R σ.1)) (sn + 6 + (rw_bS (po_wm σ (G.2.2.2.2.2.2 (i + 1)) (G.2.2.2.2.2.2 (i + 2))) R σ.1)) := by
    refine ax_goto (tgt := 1391) dL_law_530 (by decide) ?_
    exact ax_sub (fun q hq => List.mem_append_left [(6, Value.int (nI (po_total σ (G.2.2.2.2.2.2 (i + 1)) (G.2.2.2.2.2.2 (i + 2))).1.1)), (7, Value.int b)] hq) (kk S' R' h' (LI_nx hL hC' a2 ⟨f', h1o⟩ ⟨g, h1d⟩ a1) a5)
  by_cases z0 : (po_total σ (G.2.2.2.2.2.2 (i + 1)) (G.2.2.2.2.2.2 (i + 2))).1.1 = 0
  · refine ax_if_ne (tgt := 530) dL_law_515 (by decide) (fun z => absurd (by rw [z0]; rfl) z) (fun _ => ?_)
    refine ax_aload_n dL_law_518 rfl ?_
    refine ax_iconst (v := 0) dL_law_519 (by decide) ?_
    refine ax_lald dL_law_520 (rw_rd (A := (A, ad, S')) ⟨a1 _ _ h1o, l7⟩) (by unfold vp_in; decide) ?_
    rw [show f' (0 : Int32).toNatClampNeg = ((po_total σ (G.2.2.2.2.2.2 (i + 1)) (G.2.2.2.2.2.2 (i + 2))).1.2.toInt64) from hV z0]
    refine ax_iload dL_law_521 rfl ?_
    rw [a4 z0] at hfin ⊢
    refine ax_i2l dL_law_523 ?_
    refine ax_lcmp dL_law_524 ?_
    rw [lg_cmp0]
    exact ax_if_eq (tgt := 530) dL_law_525 (by decide) (fun _ => hfin) (fun z => absurd rfl z)
  · exact ax_if_ne (tgt := 530) dL_law_515 (by decide) (fun _ => hfin) (fun z => absurd z (il_ne _ 0 z0 rfl rfl (by have := pl_total σ (G.2.2.2.2.2.2 (i + 1)) (G.2.2.2.2.2.2 (i + 2)); omega) (by decide)))
set_option maxRecDepth 100000 in
set_option maxHeartbeats 4000000 in
theorem lc_against (d : Nat) {mc ms cn sn i ou od : Nat} {A : Nat → Nat} {ad : cs_K → Nat} {S : cs_S} {R : rw_S} {h : ax_H} {σ : sp_St} (hL : LI A ad S R h σ ou od) (hi : i + 6 ≤ G.2.2.2.2.2.1) (hN : G.2.2.2.2.2.1 ≤ 3072) (hcn : cn + 1 + (rw_bC (po_wa σ (G.2.2.2.2.2.2 (i + 1)) (G.2.2.2.2.2.2 (i + 2)) (G.2.2.2.2.2.2 (i + 3))) R σ.1) ≤ mc) (hsn : sn + 6 + (rw_bS (po_wa σ (G.2.2.2.2.2.2 (i + 1)) (G.2.2.2.2.2.2 (i + 2)) (G.2.2.2.2.2.2 (i + 3))) R σ.1) ≤ ms) {Q : ax_P} (kk : ∀ S' R' h', LI A ad S' R' h' (po_against σ (G.2.2.2.2.2.2 (i + 1)) (G.2.2.2.2.2.2 (i + 2)) (G.2.2.2.2.2.2 (i + 3))).2 ou od → ((po_wa σ (G.2.2.2.2.2.2 (i + 1)) (G.2.2.2.2.2.2 (i + 2)) (G.2.2.2.2.2.2 (i + 3))) = true → R'.1 12 = 1) → AW G mL_law (d + 80) mc ms Q 1391 [(0, .ref G.2.2.2.2.1), (1, .ref (ad (0, 0))), (2, .ref (A 0)), (3, .ref ou), (4, .ref od), (5, .int (nI i))] [] (rw_O (A, ad, S') R' h') (cn + 1 + (rw_bC (po_wa σ (G.2.2.2.2.2.2 (i + 1)) (G.2.2.2.2.2.2 (i + 2)) (G.2.2.2.2.2.2 (i + 3))) R σ.1)) (sn + 6 + (rw_bS (po_wa σ (G.2.2.2.2.2.2 (i + 1)) (G.2.2.2.2.2.2 (i + 2)) (G.2.2.2.2.2.2 (i + 3))) R σ.1))) : AW G mL_law (d + 80) mc ms Q 533 [(0, .ref G.2.2.2.2.1), (1, .ref (ad (0, 0))), (2, .ref (A 0)), (3, .ref ou), (4, .ref od), (5, .int (nI i))] [] (rw_O (A, ad, S) R h) cn sn := by
  have hne := LI_ne hL
  obtain ⟨l1, l2, l3, l4, l5, ⟨f, hf⟩, l7, ⟨g, hg⟩, l9⟩ := id hL
  refine ax_aload_n dL_law_533 rfl ?_
  refine ax_aload_n dL_law_534 rfl ?_
  refine ax_iload dL_law_535 rfl ?_
  refine ax_iconst (v := 1) dL_law_537 (by decide) ?_
  refine ax_iadd dL_law_538 ?_
  refine ax_top (y := nI (i + 1)) (nI_add i 1) ?_
  refine ax_sld dL_law_539 (nI_in (by omega) (by omega)) ?_
  refine ax_top (y := (G.2.2.2.2.2.2 (i + 1))) (by rw [nI_clamp (by omega)]) ?_
  refine ax_aload_n dL_law_540 rfl ?_
  refine ax_iload dL_law_541 rfl ?_
  refine ax_iconst (v := 2) dL_law_543 (by decide) ?_
  refine ax_iadd dL_law_544 ?_
  refine ax_top (y := nI (i + 2)) (nI_add i 2) ?_
  refine ax_sld dL_law_545 (nI_in (by omega) (by omega)) ?_
  refine ax_top (y := (G.2.2.2.2.2.2 (i + 2))) (by rw [nI_clamp (by omega)]) ?_
  refine ax_aload_n dL_law_546 rfl ?_
  refine ax_iload dL_law_547 rfl ?_
  refine ax_iconst (v := 3) dL_law_549 (by decide) ?_
  refine ax_iadd dL_law_550 ?_
  refine ax_top (y := nI (i + 3)) (nI_add i 3) ?_
  refine ax_sld dL_law_551 (nI_in (by omega) (by omega)) ?_
  refine ax_top (y := (G.2.2.2.2.2.2 (i + 3))) (by rw [nI_clamp (by omega)]) ?_
  refine ax_aload_n dL_law_552 rfl ?_
  refine ax_eqh (rw_sw l3) ?_
  refine ax_callH (av := [.ref (ad (0, 0)), .int (G.2.2.2.2.2.2 (i + 1)), .int (G.2.2.2.2.2.2 (i + 2)), .int (G.2.2.2.2.2.2 (i + 3)), .ref ou]) (rest := []) (mc' := 1) (ms' := 6) dL_law_553 rfl lkL_118 rfl (Nat.le_of_ble_eq_true rfl) (Nat.le_of_ble_eq_true rfl) (by omega) (by omega) (lh_against l2 (d + 62) S (ax_w h (rw_l (A, ad, S) R)) l4 (G.2.2.2.2.2.2 (i + 1)) (G.2.2.2.2.2.2 (i + 2)) (G.2.2.2.2.2.2 (i + 3)) (rw_rou l3 l7 hf) (Q := fun r h9 => r = .inl (some (.int (nI (po_against σ (G.2.2.2.2.2.2 (i + 1)) (G.2.2.2.2.2.2 (i + 2)) (G.2.2.2.2.2.2 (i + 3))).1.1))) ∧ ∃ S' f', CI (po_against σ (G.2.2.2.2.2.2 (i + 1)) (G.2.2.2.2.2.2 (i + 2)) (G.2.2.2.2.2.2 (i + 3))).2 S' ∧ h9 = va_up (cs_O ad S' (ax_w h (rw_l (A, ad, S) R))) ou (some (.inl (1, 1, .inr (.inl f')))) ∧ ((po_against σ (G.2.2.2.2.2.2 (i + 1)) (G.2.2.2.2.2.2 (i + 2)) (G.2.2.2.2.2.2 (i + 3))).1.1 = 0 → f' 0 = ((po_against σ (G.2.2.2.2.2.2 (i + 1)) (G.2.2.2.2.2.2 (i + 2)) (G.2.2.2.2.2.2 (i + 3))).1.2.toInt64))) (fun S' c z => ⟨by rw [z]; rfl, S', _, c, rfl, fun _ => if_pos rfl⟩) (fun S' c z => ⟨rfl, S', f, c, (va_up_id (rw_rou l3 l7 hf S')).symm, fun w => absurd w z⟩)) (fun E9 h9 q9 => by cases q9.1) (fun v9 h9 q9 => ?_)
  obtain ⟨e9, S', f', hC', rfl, hV⟩ := q9
  cases e9
  refine ax_eqh (rw_lou l3 l7 S' _) ?_
  obtain ⟨h1, hh1⟩ : ∃ h1, h1 = va_up h ou (some (.inl (1, 1, .inr (.inl f')))) := ⟨_, rfl⟩
  rw [← hh1]
  have h1o : h1 ou = some (.inl (1, 1, .inr (.inl f'))) := by rw [hh1, ax_up_s]
  have h1d : h1 od = some (.inl (2, 1, .inr (.inr (.inr (.inl g))))) := by rw [hh1, ax_up_n (Ne.symm hne)]; exact hg
  have hR1 : RI (A, ad, S') σ R h1 := by rw [hh1]; exact RI_ou (fun n f0 e => by rw [hf] at e; cases e) (LI_S l5)
  show AW G mL_law (d + 80) mc ms Q 556 [(0, .ref G.2.2.2.2.1), (1, .ref (ad (0, 0))), (2, .ref (A 0)), (3, .ref ou), (4, .ref od), (5, .int (nI i))] [.int (nI (po_against σ (G.2.2.2.2.2.2 (i + 1)) (G.2.2.2.2.2.2 (i + 2)) (G.2.2.2.2.2.2 (i + 3))).1.1)] (rw_O (A, ad, S') R h1) (cn + 1) (sn + 6)
  refine ax_istore dL_law_556 (by decide) ?_
  refine ax_sub (lv' := [(0, .ref G.2.2.2.2.1), (1, .ref (ad (0, 0))), (2, .ref (A 0)), (3, .ref ou), (4, .ref od), (5, .int (nI i)), (6, .int (nI (po_against σ (G.2.2.2.2.2.2 (i + 1)) (G.2.2.2.2.2.2 (i + 2)) (G.2.2.2.2.2.2 (i + 3))).1.1))]) (fun _ z => z) ?_
  refine ax_aload_n dL_law_558 rfl ?_
  refine ax_aload_n dL_law_559 rfl ?_
  refine ax_iload dL_law_560 rfl ?_
  refine ax_iconst (v := 1) dL_law_562 (by decide) ?_
  refine ax_iadd dL_law_563 ?_
  refine ax_top (y := nI (i + 1)) (nI_add i 1) ?_
  refine ax_sld dL_law_564 (nI_in (by omega) (by omega)) ?_
  refine ax_top (y := (G.2.2.2.2.2.2 (i + 1))) (by rw [nI_clamp (by omega)]) ?_
  refine ax_aload_n dL_law_565 rfl ?_
  refine ax_iload dL_law_566 rfl ?_
  refine ax_iconst (v := 2) dL_law_568 (by decide) ?_
  refine ax_iadd dL_law_569 ?_
  refine ax_top (y := nI (i + 2)) (nI_add i 2) ?_
  refine ax_sld dL_law_570 (nI_in (by omega) (by omega)) ?_
  refine ax_top (y := (G.2.2.2.2.2.2 (i + 2))) (by rw [nI_clamp (by omega)]) ?_
  refine ax_aload_n dL_law_571 rfl ?_
  refine ax_iload dL_law_572 rfl ?_
  refine ax_iconst (v := 3) dL_law_574 (by decide) ?_
  refine ax_iadd dL_law_575 ?_
  refine ax_top (y := nI (i + 3)) (nI_add i 3) ?_
  refine ax_sld dL_law_576 (nI_in (by omega) (by omega)) ?_
  refine ax_top (y := (G.2.2.2.2.2.2 (i + 3))) (by rw [nI_clamp (by omega)]) ?_
  refine ax_callV (b := A 0) (av := [.int (G.2.2.2.2.2.2 (i + 1)), .int (G.2.2.2.2.2.2 (i + 2)), .int (G.2.2.2.2.2.2 (i + 3))]) (rest := []) (mc' := (rw_bC (po_wa σ (G.2.2.2.2.2.2 (i + 1)) (G.2.2.2.2.2.2 (i + 2)) (G.2.2.2.2.2.2 (i + 3))) R σ.1)) (ms' := (rw_bS (po_wa σ (G.2.2.2.2.2.2 (i + 1)) (G.2.2.2.2.2.2 (i + 2)) (G.2.2.2.2.2.2 (i + 3))) R σ.1)) dL_law_577 rfl lkL_121 (rw_g0 (A := (A, ad, S')) l1) rfl (Nat.le_of_ble_eq_true rfl) (Nat.le_of_ble_eq_true rfl) (by omega) (by omega) (rb_against (A := (A, ad, S')) l1 (d + 30) R h1 hR1 (G.2.2.2.2.2.2 (i + 1)) (G.2.2.2.2.2.2 (i + 2)) (G.2.2.2.2.2.2 (i + 3))) (fun E9 h9 q9 => by obtain ⟨_, _, _, e9, _⟩ := q9; cases e9) (fun v9 h9 q9 => ?_)
  obtain ⟨R', h', b, e9, rfl, a1, a2, a3, a4, a5⟩ := q9
  cases e9
  show AW G mL_law (d + 80) mc ms Q 580 [(0, .ref G.2.2.2.2.1), (1, .ref (ad (0, 0))), (2, .ref (A 0)), (3, .ref ou), (4, .ref od), (5, .int (nI i)), (6, .int (nI (po_against σ (G.2.2.2.2.2.2 (i + 1)) (G.2.2.2.2.2.2 (i + 2)) (G.2.2.2.2.2.2 (i + 3))).1.1))] [.int b] (rw_O (A, ad, S') R' h') (cn + 1 + (rw_bC (po_wa σ (G.2.2.2.2.2.2 (i + 1)) (G.2.2.2.2.2.2 (i + 2)) (G.2.2.2.2.2.2 (i + 3))) R σ.1)) (sn + 6 + (rw_bS (po_wa σ (G.2.2.2.2.2.2 (i + 1)) (G.2.2.2.2.2.2 (i + 2)) (G.2.2.2.2.2.2 (i + 3))) R σ.1))
  refine ax_istore dL_law_580 (by decide) ?_
  refine ax_sub (lv' := [(0, .ref G.2.2.2.2.1), (1, .ref (ad (0, 0))), (2, .ref (A 0)), (3, .ref ou), (4, .ref od), (5, .int (nI i)), (6, .int (nI (po_against σ (G.2.2.2.2.2.2 (i + 1)) (G.2.2.2.2.2.2 (i + 2)) (G.2.2.2.2.2.2 (i + 3))).1.1)), (7, .int b)]) (fun _ z => z) ?_
  refine ax_aload_n dL_law_582 rfl ?_
  refine ax_callV (b := A 0) (av := []) (rest := []) (mc' := 0) (ms' := 0) dL_law_583 rfl lkL_93 (rw_g0 (A := (A, ad, S')) l1) rfl (Nat.le_of_ble_eq_true rfl) (Nat.le_of_ble_eq_true rfl) (by omega) (by omega) (r_thrown (A := (A, ad, S')) l1 (d + 79) R' h') (fun E9 h9 q9 => by cases q9.1) (fun v9 h9 q9 => ?_)
  obtain ⟨e9, rfl⟩ := q9
  cases e9
  show AW G mL_law (d + 80) mc ms Q 586 [(0, .ref G.2.2.2.2.1), (1, .ref (ad (0, 0))), (2, .ref (A 0)), (3, .ref ou), (4, .ref od), (5, .int (nI i)), (6, .int (nI (po_against σ (G.2.2.2.2.2.2 (i + 1)) (G.2.2.2.2.2.2 (i + 2)) (G.2.2.2.2.2.2 (i + 3))).1.1)), (7, .int b)] [.int (R'.1 0)] (rw_O (A, ad, S') R' h') (cn + 1 + (rw_bC (po_wa σ (G.2.2.2.2.2.2 (i + 1)) (G.2.2.2.2.2.2 (i + 2)) (G.2.2.2.2.2.2 (i + 3))) R σ.1)) (sn + 6 + (rw_bS (po_wa σ (G.2.2.2.2.2.2 (i + 1)) (G.2.2.2.2.2.2 (i + 2)) (G.2.2.2.2.2.2 (i + 3))) R σ.1))
  rw [a3]
  refine ax_iload dL_law_586 rfl ?_
  refine ax_icmp_eq (tgt := 593) dL_law_588 (by decide) (fun _ => ?_) (fun z => absurd rfl z)
  refine ax_iload dL_law_593 rfl ?_
  have hfin : AW G mL_law (d + 80) mc ms Q 610 [(0, .ref G.2.2.2.2.1), (1, .ref (ad (0, 0))), (2, .ref (A 0)), (3, .ref ou), (4, .ref od), (5, .int (nI i)), (6, .int (nI (po_against σ (G.2.2.2.2.2.2 (i + 1)) (G.2.2.2.2.2.2 (i + 2)) (G.2.2.2.2.2.2 (i + 3))).1.1)), (7, .int b)] [] (rw_O (A, ad, S') R' h') (cn + 1 + (rw_bC (po_wa σ (G.2.2.2.2.2.2 (i + 1)) (G.2.2.2.2.2.2 (i + 2)) (G.2.2.2.2.2.2 (i + 3))) R σ.1)) (sn + 6 + (rw_bS (po_wa σ (G.2.2.2.2.2.2 (i + 1)) (G.2.2.2.2.2.2 (i + 2)) (G.2.2.2.2.2.2 (i + 3))) R σ.1)) := by
    refine ax_goto (tgt := 1391) dL_law_610 (by decide) ?_
    exact ax_sub (fun q hq => List.mem_append_left [(6, Value.int (nI (po_against σ (G.2.2.2.2.2.2 (i + 1)) (G.2.2.2.2.2.2 (i + 2)) (G.2.2.2.2.2.2 (i + 3))).1.1)), (7, Value.int b)] hq) (kk S' R' h' (LI_nx hL hC' a2 ⟨f', h1o⟩ ⟨g, h1d⟩ a1) a5)
  by_cases z0 : (po_against σ (G.2.2.2.2.2.2 (i + 1)) (G.2.2.2.2.2.2 (i + 2)) (G.2.2.2.2.2.2 (i + 3))).1.1 = 0
  · refine ax_if_ne (tgt := 610) dL_law_595 (by decide) (fun z => absurd (by rw [z0]; rfl) z) (fun _ => ?_)
    refine ax_aload_n dL_law_598 rfl ?_
    refine ax_iconst (v := 0) dL_law_599 (by decide) ?_
    refine ax_lald dL_law_600 (rw_rd (A := (A, ad, S')) ⟨a1 _ _ h1o, l7⟩) (by unfold vp_in; decide) ?_
    rw [show f' (0 : Int32).toNatClampNeg = ((po_against σ (G.2.2.2.2.2.2 (i + 1)) (G.2.2.2.2.2.2 (i + 2)) (G.2.2.2.2.2.2 (i + 3))).1.2.toInt64) from hV z0]
    refine ax_iload dL_law_601 rfl ?_
    rw [a4 z0] at hfin ⊢
    refine ax_i2l dL_law_603 ?_
    refine ax_lcmp dL_law_604 ?_
    rw [lg_cmp0]
    exact ax_if_eq (tgt := 610) dL_law_605 (by decide) (fun _ => hfin) (fun z => absurd rfl z)
  · exact ax_if_ne (tgt := 610) dL_law_595 (by decide) (fun _ => hfin) (fun z => absurd z (il_ne _ 0 z0 rfl rfl (by have := pl_against σ (G.2.2.2.2.2.2 (i + 1)) (G.2.2.2.2.2.2 (i + 2)) (G.2.2.2.2.2.2 (i + 3)); omega) (by decide)))
set_option maxRecDepth 100000 in
set_option maxHeartbeats 4000000 in
theorem lc_select (d : Nat) {mc ms cn sn i ou od : Nat} {A : Nat → Nat} {ad : cs_K → Nat} {S : cs_S} {R : rw_S} {h : ax_H} {σ : sp_St} (hL : LI A ad S R h σ ou od) (hi : i + 6 ≤ G.2.2.2.2.2.1) (hN : G.2.2.2.2.2.1 ≤ 3072) (hcn : cn + 1 + (rw_bC (po_ws σ (G.2.2.2.2.2.2 (i + 1)) (G.2.2.2.2.2.2 (i + 2))) R σ.1) ≤ mc) (hsn : sn + 6 + (rw_bS (po_ws σ (G.2.2.2.2.2.2 (i + 1)) (G.2.2.2.2.2.2 (i + 2))) R σ.1) ≤ ms) {Q : ax_P} (kk : ∀ S' R' h', LI A ad S' R' h' (po_select σ (G.2.2.2.2.2.2 (i + 1)) (G.2.2.2.2.2.2 (i + 2))).2 ou od → ((po_ws σ (G.2.2.2.2.2.2 (i + 1)) (G.2.2.2.2.2.2 (i + 2))) = true → R'.1 12 = 1) → AW G mL_law (d + 80) mc ms Q 1391 [(0, .ref G.2.2.2.2.1), (1, .ref (ad (0, 0))), (2, .ref (A 0)), (3, .ref ou), (4, .ref od), (5, .int (nI i))] [] (rw_O (A, ad, S') R' h') (cn + 1 + (rw_bC (po_ws σ (G.2.2.2.2.2.2 (i + 1)) (G.2.2.2.2.2.2 (i + 2))) R σ.1)) (sn + 6 + (rw_bS (po_ws σ (G.2.2.2.2.2.2 (i + 1)) (G.2.2.2.2.2.2 (i + 2))) R σ.1))) : AW G mL_law (d + 80) mc ms Q 613 [(0, .ref G.2.2.2.2.1), (1, .ref (ad (0, 0))), (2, .ref (A 0)), (3, .ref ou), (4, .ref od), (5, .int (nI i))] [] (rw_O (A, ad, S) R h) cn sn := by
  have hne := LI_ne hL
  obtain ⟨l1, l2, l3, l4, l5, ⟨f, hf⟩, l7, ⟨g, hg⟩, l9⟩ := id hL
  refine ax_aload_n dL_law_613 rfl ?_
  refine ax_aload_n dL_law_614 rfl ?_
  refine ax_iload dL_law_615 rfl ?_
  refine ax_iconst (v := 1) dL_law_617 (by decide) ?_
  refine ax_iadd dL_law_618 ?_
  refine ax_top (y := nI (i + 1)) (nI_add i 1) ?_
  refine ax_sld dL_law_619 (nI_in (by omega) (by omega)) ?_
  refine ax_top (y := (G.2.2.2.2.2.2 (i + 1))) (by rw [nI_clamp (by omega)]) ?_
  refine ax_aload_n dL_law_620 rfl ?_
  refine ax_iload dL_law_621 rfl ?_
  refine ax_iconst (v := 2) dL_law_623 (by decide) ?_
  refine ax_iadd dL_law_624 ?_
  refine ax_top (y := nI (i + 2)) (nI_add i 2) ?_
  refine ax_sld dL_law_625 (nI_in (by omega) (by omega)) ?_
  refine ax_top (y := (G.2.2.2.2.2.2 (i + 2))) (by rw [nI_clamp (by omega)]) ?_
  refine ax_aload_n dL_law_626 rfl ?_
  refine ax_eqh (rw_sw l3) ?_
  refine ax_callH (av := [.ref (ad (0, 0)), .int (G.2.2.2.2.2.2 (i + 1)), .int (G.2.2.2.2.2.2 (i + 2)), .ref ou]) (rest := []) (mc' := 1) (ms' := 6) dL_law_627 rfl lkL_122 rfl (Nat.le_of_ble_eq_true rfl) (Nat.le_of_ble_eq_true rfl) (by omega) (by omega) (lh_select l2 (d + 62) S (ax_w h (rw_l (A, ad, S) R)) l4 (G.2.2.2.2.2.2 (i + 1)) (G.2.2.2.2.2.2 (i + 2)) (rw_rou l3 l7 hf) (Q := fun r h9 => r = .inl (some (.int (nI (po_select σ (G.2.2.2.2.2.2 (i + 1)) (G.2.2.2.2.2.2 (i + 2))).1.1))) ∧ ∃ S' f', CI (po_select σ (G.2.2.2.2.2.2 (i + 1)) (G.2.2.2.2.2.2 (i + 2))).2 S' ∧ h9 = va_up (cs_O ad S' (ax_w h (rw_l (A, ad, S) R))) ou (some (.inl (1, 1, .inr (.inl f')))) ∧ ((po_select σ (G.2.2.2.2.2.2 (i + 1)) (G.2.2.2.2.2.2 (i + 2))).1.1 = 0 → f' 0 = ((po_select σ (G.2.2.2.2.2.2 (i + 1)) (G.2.2.2.2.2.2 (i + 2))).1.2.toInt64))) (fun S' c z => ⟨by rw [z]; rfl, S', _, c, rfl, fun _ => if_pos rfl⟩) (fun S' c z => ⟨rfl, S', f, c, (va_up_id (rw_rou l3 l7 hf S')).symm, fun w => absurd w z⟩)) (fun E9 h9 q9 => by cases q9.1) (fun v9 h9 q9 => ?_)
  obtain ⟨e9, S', f', hC', rfl, hV⟩ := q9
  cases e9
  refine ax_eqh (rw_lou l3 l7 S' _) ?_
  obtain ⟨h1, hh1⟩ : ∃ h1, h1 = va_up h ou (some (.inl (1, 1, .inr (.inl f')))) := ⟨_, rfl⟩
  rw [← hh1]
  have h1o : h1 ou = some (.inl (1, 1, .inr (.inl f'))) := by rw [hh1, ax_up_s]
  have h1d : h1 od = some (.inl (2, 1, .inr (.inr (.inr (.inl g))))) := by rw [hh1, ax_up_n (Ne.symm hne)]; exact hg
  have hR1 : RI (A, ad, S') σ R h1 := by rw [hh1]; exact RI_ou (fun n f0 e => by rw [hf] at e; cases e) (LI_S l5)
  show AW G mL_law (d + 80) mc ms Q 630 [(0, .ref G.2.2.2.2.1), (1, .ref (ad (0, 0))), (2, .ref (A 0)), (3, .ref ou), (4, .ref od), (5, .int (nI i))] [.int (nI (po_select σ (G.2.2.2.2.2.2 (i + 1)) (G.2.2.2.2.2.2 (i + 2))).1.1)] (rw_O (A, ad, S') R h1) (cn + 1) (sn + 6)
  refine ax_istore dL_law_630 (by decide) ?_
  refine ax_sub (lv' := [(0, .ref G.2.2.2.2.1), (1, .ref (ad (0, 0))), (2, .ref (A 0)), (3, .ref ou), (4, .ref od), (5, .int (nI i)), (6, .int (nI (po_select σ (G.2.2.2.2.2.2 (i + 1)) (G.2.2.2.2.2.2 (i + 2))).1.1))]) (fun _ z => z) ?_
  refine ax_aload_n dL_law_632 rfl ?_
  refine ax_aload_n dL_law_633 rfl ?_
  refine ax_iload dL_law_634 rfl ?_
  refine ax_iconst (v := 1) dL_law_636 (by decide) ?_
  refine ax_iadd dL_law_637 ?_
  refine ax_top (y := nI (i + 1)) (nI_add i 1) ?_
  refine ax_sld dL_law_638 (nI_in (by omega) (by omega)) ?_
  refine ax_top (y := (G.2.2.2.2.2.2 (i + 1))) (by rw [nI_clamp (by omega)]) ?_
  refine ax_aload_n dL_law_639 rfl ?_
  refine ax_iload dL_law_640 rfl ?_
  refine ax_iconst (v := 2) dL_law_642 (by decide) ?_
  refine ax_iadd dL_law_643 ?_
  refine ax_top (y := nI (i + 2)) (nI_add i 2) ?_
  refine ax_sld dL_law_644 (nI_in (by omega) (by omega)) ?_
  refine ax_top (y := (G.2.2.2.2.2.2 (i + 2))) (by rw [nI_clamp (by omega)]) ?_
  refine ax_callV (b := A 0) (av := [.int (G.2.2.2.2.2.2 (i + 1)), .int (G.2.2.2.2.2.2 (i + 2))]) (rest := []) (mc' := (rw_bC (po_ws σ (G.2.2.2.2.2.2 (i + 1)) (G.2.2.2.2.2.2 (i + 2))) R σ.1)) (ms' := (rw_bS (po_ws σ (G.2.2.2.2.2.2 (i + 1)) (G.2.2.2.2.2.2 (i + 2))) R σ.1)) dL_law_645 rfl lkL_124 (rw_g0 (A := (A, ad, S')) l1) rfl (Nat.le_of_ble_eq_true rfl) (Nat.le_of_ble_eq_true rfl) (by omega) (by omega) (rb_select (A := (A, ad, S')) l1 (d + 31) R h1 hR1 (G.2.2.2.2.2.2 (i + 1)) (G.2.2.2.2.2.2 (i + 2))) (fun E9 h9 q9 => by obtain ⟨_, _, _, e9, _⟩ := q9; cases e9) (fun v9 h9 q9 => ?_)
  obtain ⟨R', h', b, e9, rfl, a1, a2, a3, a4, a5⟩ := q9
  cases e9
  show AW G mL_law (d + 80) mc ms Q 648 [(0, .ref G.2.2.2.2.1), (1, .ref (ad (0, 0))), (2, .ref (A 0)), (3, .ref ou), (4, .ref od), (5, .int (nI i)), (6, .int (nI (po_select σ (G.2.2.2.2.2.2 (i + 1)) (G.2.2.2.2.2.2 (i + 2))).1.1))] [.int b] (rw_O (A, ad, S') R' h') (cn + 1 + (rw_bC (po_ws σ (G.2.2.2.2.2.2 (i + 1)) (G.2.2.2.2.2.2 (i + 2))) R σ.1)) (sn + 6 + (rw_bS (po_ws σ (G.2.2.2.2.2.2 (i + 1)) (G.2.2.2.2.2.2 (i + 2))) R σ.1))
  refine ax_istore dL_law_648 (by decide) ?_
  refine ax_sub (lv' := [(0, .ref G.2.2.2.2.1), (1, .ref (ad (0, 0))), (2, .ref (A 0)), (3, .ref ou), (4, .ref od), (5, .int (nI i)), (6, .int (nI (po_select σ (G.2.2.2.2.2.2 (i + 1)) (G.2.2.2.2.2.2 (i + 2))).1.1)), (7, .int b)]) (fun _ z => z) ?_
  refine ax_aload_n dL_law_650 rfl ?_
  refine ax_callV (b := A 0) (av := []) (rest := []) (mc' := 0) (ms' := 0) dL_law_651 rfl lkL_93 (rw_g0 (A := (A, ad, S')) l1) rfl (Nat.le_of_ble_eq_true rfl) (Nat.le_of_ble_eq_true rfl) (by omega) (by omega) (r_thrown (A := (A, ad, S')) l1 (d + 79) R' h') (fun E9 h9 q9 => by cases q9.1) (fun v9 h9 q9 => ?_)
  obtain ⟨e9, rfl⟩ := q9
  cases e9
  show AW G mL_law (d + 80) mc ms Q 654 [(0, .ref G.2.2.2.2.1), (1, .ref (ad (0, 0))), (2, .ref (A 0)), (3, .ref ou), (4, .ref od), (5, .int (nI i)), (6, .int (nI (po_select σ (G.2.2.2.2.2.2 (i + 1)) (G.2.2.2.2.2.2 (i + 2))).1.1)), (7, .int b)] [.int (R'.1 0)] (rw_O (A, ad, S') R' h') (cn + 1 + (rw_bC (po_ws σ (G.2.2.2.2.2.2 (i + 1)) (G.2.2.2.2.2.2 (i + 2))) R σ.1)) (sn + 6 + (rw_bS (po_ws σ (G.2.2.2.2.2.2 (i + 1)) (G.2.2.2.2.2.2 (i + 2))) R σ.1))
  rw [a3]
  refine ax_iload dL_law_654 rfl ?_
  refine ax_icmp_eq (tgt := 661) dL_law_656 (by decide) (fun _ => ?_) (fun z => absurd rfl z)
  refine ax_iload dL_law_661 rfl ?_
  have hfin : AW G mL_law (d + 80) mc ms Q 678 [(0, .ref G.2.2.2.2.1), (1, .ref (ad (0, 0))), (2, .ref (A 0)), (3, .ref ou), (4, .ref od), (5, .int (nI i)), (6, .int (nI (po_select σ (G.2.2.2.2.2.2 (i + 1)) (G.2.2.2.2.2.2 (i + 2))).1.1)), (7, .int b)] [] (rw_O (A, ad, S') R' h') (cn + 1 + (rw_bC (po_ws σ (G.2.2.2.2.2.2 (i + 1)) (G.2.2.2.2.2.2 (i + 2))) R σ.1)) (sn + 6 + (rw_bS (po_ws σ (G.2.2.2.2.2.2 (i + 1)) (G.2.2.2.2.2.2 (i + 2))) R σ.1)) := by
    refine ax_goto (tgt := 1391) dL_law_678 (by decide) ?_
    exact ax_sub (fun q hq => List.mem_append_left [(6, Value.int (nI (po_select σ (G.2.2.2.2.2.2 (i + 1)) (G.2.2.2.2.2.2 (i + 2))).1.1)), (7, Value.int b)] hq) (kk S' R' h' (LI_nx hL hC' a2 ⟨f', h1o⟩ ⟨g, h1d⟩ a1) a5)
  by_cases z0 : (po_select σ (G.2.2.2.2.2.2 (i + 1)) (G.2.2.2.2.2.2 (i + 2))).1.1 = 0
  · refine ax_if_ne (tgt := 678) dL_law_663 (by decide) (fun z => absurd (by rw [z0]; rfl) z) (fun _ => ?_)
    refine ax_aload_n dL_law_666 rfl ?_
    refine ax_iconst (v := 0) dL_law_667 (by decide) ?_
    refine ax_lald dL_law_668 (rw_rd (A := (A, ad, S')) ⟨a1 _ _ h1o, l7⟩) (by unfold vp_in; decide) ?_
    rw [show f' (0 : Int32).toNatClampNeg = ((po_select σ (G.2.2.2.2.2.2 (i + 1)) (G.2.2.2.2.2.2 (i + 2))).1.2.toInt64) from hV z0]
    refine ax_iload dL_law_669 rfl ?_
    rw [a4 z0] at hfin ⊢
    refine ax_i2l dL_law_671 ?_
    refine ax_lcmp dL_law_672 ?_
    rw [lg_cmp0]
    exact ax_if_eq (tgt := 678) dL_law_673 (by decide) (fun _ => hfin) (fun z => absurd rfl z)
  · exact ax_if_ne (tgt := 678) dL_law_663 (by decide) (fun _ => hfin) (fun z => absurd z (il_ne _ 0 z0 rfl rfl (by have := pl_select σ (G.2.2.2.2.2.2 (i + 1)) (G.2.2.2.2.2.2 (i + 2)); omega) (by decide)))
set_option maxRecDepth 100000 in
set_option maxHeartbeats 4000000 in
theorem lc_draw (d : Nat) {mc ms cn sn i ou od : Nat} {A : Nat → Nat} {ad : cs_K → Nat} {S : cs_S} {R : rw_S} {h : ax_H} {σ : sp_St} (hL : LI A ad S R h σ ou od) (hi : i + 6 ≤ G.2.2.2.2.2.1) (hN : G.2.2.2.2.2.1 ≤ 3072) (hcn : cn + 1 + (rw_bC (po_wm σ (G.2.2.2.2.2.2 (i + 1)) (G.2.2.2.2.2.2 (i + 2))) R σ.1) ≤ mc) (hsn : sn + 6 + (rw_bS (po_wm σ (G.2.2.2.2.2.2 (i + 1)) (G.2.2.2.2.2.2 (i + 2))) R σ.1) ≤ ms) {Q : ax_P} (kk : ∀ S' R' h', LI A ad S' R' h' (po_draw σ (G.2.2.2.2.2.2 (i + 1)) (G.2.2.2.2.2.2 (i + 2)) ((G.2.2.2.2.2.2 (i + 3)).toInt64 <<< ((32 : Int32).toInt64 &&& 63) ||| ((G.2.2.2.2.2.2 (i + 4)).toInt64 &&& 4294967295))).2 ou od → ((po_wm σ (G.2.2.2.2.2.2 (i + 1)) (G.2.2.2.2.2.2 (i + 2))) = true → R'.1 12 = 1) → AW G mL_law (d + 80) mc ms Q 1391 [(0, .ref G.2.2.2.2.1), (1, .ref (ad (0, 0))), (2, .ref (A 0)), (3, .ref ou), (4, .ref od), (5, .int (nI i))] [] (rw_O (A, ad, S') R' h') (cn + 1 + (rw_bC (po_wm σ (G.2.2.2.2.2.2 (i + 1)) (G.2.2.2.2.2.2 (i + 2))) R σ.1)) (sn + 6 + (rw_bS (po_wm σ (G.2.2.2.2.2.2 (i + 1)) (G.2.2.2.2.2.2 (i + 2))) R σ.1))) : AW G mL_law (d + 80) mc ms Q 681 [(0, .ref G.2.2.2.2.1), (1, .ref (ad (0, 0))), (2, .ref (A 0)), (3, .ref ou), (4, .ref od), (5, .int (nI i))] [] (rw_O (A, ad, S) R h) cn sn := by
  have hne := LI_ne hL
  obtain ⟨l1, l2, l3, l4, l5, ⟨f, hf⟩, l7, ⟨g, hg⟩, l9⟩ := id hL
  refine ax_aload_n dL_law_681 rfl ?_
  refine ax_aload_n dL_law_682 rfl ?_
  refine ax_iload dL_law_683 rfl ?_
  refine ax_iconst (v := 1) dL_law_685 (by decide) ?_
  refine ax_iadd dL_law_686 ?_
  refine ax_top (y := nI (i + 1)) (nI_add i 1) ?_
  refine ax_sld dL_law_687 (nI_in (by omega) (by omega)) ?_
  refine ax_top (y := (G.2.2.2.2.2.2 (i + 1))) (by rw [nI_clamp (by omega)]) ?_
  refine ax_aload_n dL_law_688 rfl ?_
  refine ax_iload dL_law_689 rfl ?_
  refine ax_iconst (v := 2) dL_law_691 (by decide) ?_
  refine ax_iadd dL_law_692 ?_
  refine ax_top (y := nI (i + 2)) (nI_add i 2) ?_
  refine ax_sld dL_law_693 (nI_in (by omega) (by omega)) ?_
  refine ax_top (y := (G.2.2.2.2.2.2 (i + 2))) (by rw [nI_clamp (by omega)]) ?_
  refine ax_aload_n dL_law_694 rfl ?_
  refine ax_iload dL_law_695 rfl ?_
  refine ax_iconst (v := 3) dL_law_697 (by decide) ?_
  refine ax_iadd dL_law_698 ?_
  refine ax_top (y := nI (i + 3)) (nI_add i 3) ?_
  refine ax_sld dL_law_699 (nI_in (by omega) (by omega)) ?_
  refine ax_top (y := (G.2.2.2.2.2.2 (i + 3))) (by rw [nI_clamp (by omega)]) ?_
  refine ax_i2l dL_law_700 ?_
  refine ax_bipush (v := 32) dL_law_701 (by decide) ?_
  refine ax_lshl dL_law_703 ?_
  refine ax_aload_n dL_law_704 rfl ?_
  refine ax_iload dL_law_705 rfl ?_
  refine ax_iconst (v := 4) dL_law_707 (by decide) ?_
  refine ax_iadd dL_law_708 ?_
  refine ax_top (y := nI (i + 4)) (nI_add i 4) ?_
  refine ax_sld dL_law_709 (nI_in (by omega) (by omega)) ?_
  refine ax_top (y := (G.2.2.2.2.2.2 (i + 4))) (by rw [nI_clamp (by omega)]) ?_
  refine ax_i2l dL_law_710 ?_
  refine ax_ldc2 dL_law_711 lcL_125 ?_
  refine ax_land dL_law_714 ?_
  refine ax_lor dL_law_715 ?_
  refine ax_aload_n dL_law_716 rfl ?_
  refine ax_eqh (rw_sw l3) ?_
  refine ax_callH (av := [.ref (ad (0, 0)), .int (G.2.2.2.2.2.2 (i + 1)), .int (G.2.2.2.2.2.2 (i + 2)), .long ((G.2.2.2.2.2.2 (i + 3)).toInt64 <<< ((32 : Int32).toInt64 &&& 63) ||| ((G.2.2.2.2.2.2 (i + 4)).toInt64 &&& 4294967295)), .ref ou]) (rest := []) (mc' := 1) (ms' := 6) dL_law_717 rfl lkL_127 rfl (Nat.le_of_ble_eq_true rfl) (Nat.le_of_ble_eq_true rfl) (by omega) (by omega) (lh_draw l2 (d + 62) S (ax_w h (rw_l (A, ad, S) R)) l4 (G.2.2.2.2.2.2 (i + 1)) (G.2.2.2.2.2.2 (i + 2)) ((G.2.2.2.2.2.2 (i + 3)).toInt64 <<< ((32 : Int32).toInt64 &&& 63) ||| ((G.2.2.2.2.2.2 (i + 4)).toInt64 &&& 4294967295)) (rw_rou l3 l7 hf) (Q := fun r h9 => r = .inl (some (.int (nI (po_draw σ (G.2.2.2.2.2.2 (i + 1)) (G.2.2.2.2.2.2 (i + 2)) ((G.2.2.2.2.2.2 (i + 3)).toInt64 <<< ((32 : Int32).toInt64 &&& 63) ||| ((G.2.2.2.2.2.2 (i + 4)).toInt64 &&& 4294967295))).1.1))) ∧ ∃ S' f', CI (po_draw σ (G.2.2.2.2.2.2 (i + 1)) (G.2.2.2.2.2.2 (i + 2)) ((G.2.2.2.2.2.2 (i + 3)).toInt64 <<< ((32 : Int32).toInt64 &&& 63) ||| ((G.2.2.2.2.2.2 (i + 4)).toInt64 &&& 4294967295))).2 S' ∧ h9 = va_up (cs_O ad S' (ax_w h (rw_l (A, ad, S) R))) ou (some (.inl (1, 1, .inr (.inl f')))) ∧ ((po_draw σ (G.2.2.2.2.2.2 (i + 1)) (G.2.2.2.2.2.2 (i + 2)) ((G.2.2.2.2.2.2 (i + 3)).toInt64 <<< ((32 : Int32).toInt64 &&& 63) ||| ((G.2.2.2.2.2.2 (i + 4)).toInt64 &&& 4294967295))).1.1 = 0 → f' 0 = ((po_draw σ (G.2.2.2.2.2.2 (i + 1)) (G.2.2.2.2.2.2 (i + 2)) ((G.2.2.2.2.2.2 (i + 3)).toInt64 <<< ((32 : Int32).toInt64 &&& 63) ||| ((G.2.2.2.2.2.2 (i + 4)).toInt64 &&& 4294967295))).1.2.toInt64))) (fun S' c z => ⟨by rw [z]; rfl, S', _, c, rfl, fun _ => if_pos rfl⟩) (fun S' c z => ⟨rfl, S', f, c, (va_up_id (rw_rou l3 l7 hf S')).symm, fun w => absurd w z⟩)) (fun E9 h9 q9 => by cases q9.1) (fun v9 h9 q9 => ?_)
  obtain ⟨e9, S', f', hC', rfl, hV⟩ := q9
  cases e9
  refine ax_eqh (rw_lou l3 l7 S' _) ?_
  obtain ⟨h1, hh1⟩ : ∃ h1, h1 = va_up h ou (some (.inl (1, 1, .inr (.inl f')))) := ⟨_, rfl⟩
  rw [← hh1]
  have h1o : h1 ou = some (.inl (1, 1, .inr (.inl f'))) := by rw [hh1, ax_up_s]
  have h1d : h1 od = some (.inl (2, 1, .inr (.inr (.inr (.inl g))))) := by rw [hh1, ax_up_n (Ne.symm hne)]; exact hg
  have hR1 : RI (A, ad, S') σ R h1 := by rw [hh1]; exact RI_ou (fun n f0 e => by rw [hf] at e; cases e) (LI_S l5)
  show AW G mL_law (d + 80) mc ms Q 720 [(0, .ref G.2.2.2.2.1), (1, .ref (ad (0, 0))), (2, .ref (A 0)), (3, .ref ou), (4, .ref od), (5, .int (nI i))] [.int (nI (po_draw σ (G.2.2.2.2.2.2 (i + 1)) (G.2.2.2.2.2.2 (i + 2)) ((G.2.2.2.2.2.2 (i + 3)).toInt64 <<< ((32 : Int32).toInt64 &&& 63) ||| ((G.2.2.2.2.2.2 (i + 4)).toInt64 &&& 4294967295))).1.1)] (rw_O (A, ad, S') R h1) (cn + 1) (sn + 6)
  refine ax_istore dL_law_720 (by decide) ?_
  refine ax_sub (lv' := [(0, .ref G.2.2.2.2.1), (1, .ref (ad (0, 0))), (2, .ref (A 0)), (3, .ref ou), (4, .ref od), (5, .int (nI i)), (6, .int (nI (po_draw σ (G.2.2.2.2.2.2 (i + 1)) (G.2.2.2.2.2.2 (i + 2)) ((G.2.2.2.2.2.2 (i + 3)).toInt64 <<< ((32 : Int32).toInt64 &&& 63) ||| ((G.2.2.2.2.2.2 (i + 4)).toInt64 &&& 4294967295))).1.1))]) (fun _ z => z) ?_
  refine ax_aload_n dL_law_722 rfl ?_
  refine ax_aload_n dL_law_723 rfl ?_
  refine ax_iload dL_law_724 rfl ?_
  refine ax_iconst (v := 1) dL_law_726 (by decide) ?_
  refine ax_iadd dL_law_727 ?_
  refine ax_top (y := nI (i + 1)) (nI_add i 1) ?_
  refine ax_sld dL_law_728 (nI_in (by omega) (by omega)) ?_
  refine ax_top (y := (G.2.2.2.2.2.2 (i + 1))) (by rw [nI_clamp (by omega)]) ?_
  refine ax_aload_n dL_law_729 rfl ?_
  refine ax_iload dL_law_730 rfl ?_
  refine ax_iconst (v := 2) dL_law_732 (by decide) ?_
  refine ax_iadd dL_law_733 ?_
  refine ax_top (y := nI (i + 2)) (nI_add i 2) ?_
  refine ax_sld dL_law_734 (nI_in (by omega) (by omega)) ?_
  refine ax_top (y := (G.2.2.2.2.2.2 (i + 2))) (by rw [nI_clamp (by omega)]) ?_
  refine ax_aload_n dL_law_735 rfl ?_
  refine ax_iload dL_law_736 rfl ?_
  refine ax_iconst (v := 3) dL_law_738 (by decide) ?_
  refine ax_iadd dL_law_739 ?_
  refine ax_top (y := nI (i + 3)) (nI_add i 3) ?_
  refine ax_sld dL_law_740 (nI_in (by omega) (by omega)) ?_
  refine ax_top (y := (G.2.2.2.2.2.2 (i + 3))) (by rw [nI_clamp (by omega)]) ?_
  refine ax_i2l dL_law_741 ?_
  refine ax_bipush (v := 32) dL_law_742 (by decide) ?_
  refine ax_lshl dL_law_744 ?_
  refine ax_aload_n dL_law_745 rfl ?_
  refine ax_iload dL_law_746 rfl ?_
  refine ax_iconst (v := 4) dL_law_748 (by decide) ?_
  refine ax_iadd dL_law_749 ?_
  refine ax_top (y := nI (i + 4)) (nI_add i 4) ?_
  refine ax_sld dL_law_750 (nI_in (by omega) (by omega)) ?_
  refine ax_top (y := (G.2.2.2.2.2.2 (i + 4))) (by rw [nI_clamp (by omega)]) ?_
  refine ax_i2l dL_law_751 ?_
  refine ax_ldc2 dL_law_752 lcL_125 ?_
  refine ax_land dL_law_755 ?_
  refine ax_lor dL_law_756 ?_
  refine ax_callV (b := A 0) (av := [.int (G.2.2.2.2.2.2 (i + 1)), .int (G.2.2.2.2.2.2 (i + 2)), .long ((G.2.2.2.2.2.2 (i + 3)).toInt64 <<< ((32 : Int32).toInt64 &&& 63) ||| ((G.2.2.2.2.2.2 (i + 4)).toInt64 &&& 4294967295))]) (rest := []) (mc' := (rw_bC (po_wm σ (G.2.2.2.2.2.2 (i + 1)) (G.2.2.2.2.2.2 (i + 2))) R σ.1)) (ms' := (rw_bS (po_wm σ (G.2.2.2.2.2.2 (i + 1)) (G.2.2.2.2.2.2 (i + 2))) R σ.1)) dL_law_757 rfl lkL_130 (rw_g0 (A := (A, ad, S')) l1) rfl (Nat.le_of_ble_eq_true rfl) (Nat.le_of_ble_eq_true rfl) (by omega) (by omega) (rb_draw (A := (A, ad, S')) l1 (d + 30) R h1 hR1 (G.2.2.2.2.2.2 (i + 1)) (G.2.2.2.2.2.2 (i + 2)) ((G.2.2.2.2.2.2 (i + 3)).toInt64 <<< ((32 : Int32).toInt64 &&& 63) ||| ((G.2.2.2.2.2.2 (i + 4)).toInt64 &&& 4294967295))) (fun E9 h9 q9 => by obtain ⟨_, _, _, e9, _⟩ := q9; cases e9) (fun v9 h9 q9 => ?_)
  obtain ⟨R', h', b, e9, rfl, a1, a2, a3, a4, a5⟩ := q9
  cases e9
  show AW G mL_law (d + 80) mc ms Q 760 [(0, .ref G.2.2.2.2.1), (1, .ref (ad (0, 0))), (2, .ref (A 0)), (3, .ref ou), (4, .ref od), (5, .int (nI i)), (6, .int (nI (po_draw σ (G.2.2.2.2.2.2 (i + 1)) (G.2.2.2.2.2.2 (i + 2)) ((G.2.2.2.2.2.2 (i + 3)).toInt64 <<< ((32 : Int32).toInt64 &&& 63) ||| ((G.2.2.2.2.2.2 (i + 4)).toInt64 &&& 4294967295))).1.1))] [.int b] (rw_O (A, ad, S') R' h') (cn + 1 + (rw_bC (po_wm σ (G.2.2.2.2.2.2 (i + 1)) (G.2.2.2.2.2.2 (i + 2))) R σ.1)) (sn + 6 + (rw_bS (po_wm σ (G.2.2.2.2.2.2 (i + 1)) (G.2.2.2.2.2.2 (i + 2))) R σ.1))
  refine ax_istore dL_law_760 (by decide) ?_
  refine ax_sub (lv' := [(0, .ref G.2.2.2.2.1), (1, .ref (ad (0, 0))), (2, .ref (A 0)), (3, .ref ou), (4, .ref od), (5, .int (nI i)), (6, .int (nI (po_draw σ (G.2.2.2.2.2.2 (i + 1)) (G.2.2.2.2.2.2 (i + 2)) ((G.2.2.2.2.2.2 (i + 3)).toInt64 <<< ((32 : Int32).toInt64 &&& 63) ||| ((G.2.2.2.2.2.2 (i + 4)).toInt64 &&& 4294967295))).1.1)), (7, .int b)]) (fun _ z => z) ?_
  refine ax_aload_n dL_law_762 rfl ?_
  refine ax_callV (b := A 0) (av := []) (rest := []) (mc' := 0) (ms' := 0) dL_law_763 rfl lkL_93 (rw_g0 (A := (A, ad, S')) l1) rfl (Nat.le_of_ble_eq_true rfl) (Nat.le_of_ble_eq_true rfl) (by omega) (by omega) (r_thrown (A := (A, ad, S')) l1 (d + 79) R' h') (fun E9 h9 q9 => by cases q9.1) (fun v9 h9 q9 => ?_)
  obtain ⟨e9, rfl⟩ := q9
  cases e9
  show AW G mL_law (d + 80) mc ms Q 766 [(0, .ref G.2.2.2.2.1), (1, .ref (ad (0, 0))), (2, .ref (A 0)), (3, .ref ou), (4, .ref od), (5, .int (nI i)), (6, .int (nI (po_draw σ (G.2.2.2.2.2.2 (i + 1)) (G.2.2.2.2.2.2 (i + 2)) ((G.2.2.2.2.2.2 (i + 3)).toInt64 <<< ((32 : Int32).toInt64 &&& 63) ||| ((G.2.2.2.2.2.2 (i + 4)).toInt64 &&& 4294967295))).1.1)), (7, .int b)] [.int (R'.1 0)] (rw_O (A, ad, S') R' h') (cn + 1 + (rw_bC (po_wm σ (G.2.2.2.2.2.2 (i + 1)) (G.2.2.2.2.2.2 (i + 2))) R σ.1)) (sn + 6 + (rw_bS (po_wm σ (G.2.2.2.2.2.2 (i + 1)) (G.2.2.2.2.2.2 (i + 2))) R σ.1))
  rw [a3]
  refine ax_iload dL_law_766 rfl ?_
  refine ax_icmp_eq (tgt := 773) dL_law_768 (by decide) (fun _ => ?_) (fun z => absurd rfl z)
  refine ax_iload dL_law_773 rfl ?_
  have hfin : AW G mL_law (d + 80) mc ms Q 790 [(0, .ref G.2.2.2.2.1), (1, .ref (ad (0, 0))), (2, .ref (A 0)), (3, .ref ou), (4, .ref od), (5, .int (nI i)), (6, .int (nI (po_draw σ (G.2.2.2.2.2.2 (i + 1)) (G.2.2.2.2.2.2 (i + 2)) ((G.2.2.2.2.2.2 (i + 3)).toInt64 <<< ((32 : Int32).toInt64 &&& 63) ||| ((G.2.2.2.2.2.2 (i + 4)).toInt64 &&& 4294967295))).1.1)), (7, .int b)] [] (rw_O (A, ad, S') R' h') (cn + 1 + (rw_bC (po_wm σ (G.2.2.2.2.2.2 (i + 1)) (G.2.2.2.2.2.2 (i + 2))) R σ.1)) (sn + 6 + (rw_bS (po_wm σ (G.2.2.2.2.2.2 (i + 1)) (G.2.2.2.2.2.2 (i + 2))) R σ.1)) := by
    refine ax_goto (tgt := 1391) dL_law_790 (by decide) ?_
    exact ax_sub (fun q hq => List.mem_append_left [(6, Value.int (nI (po_draw σ (G.2.2.2.2.2.2 (i + 1)) (G.2.2.2.2.2.2 (i + 2)) ((G.2.2.2.2.2.2 (i + 3)).toInt64 <<< ((32 : Int32).toInt64 &&& 63) ||| ((G.2.2.2.2.2.2 (i + 4)).toInt64 &&& 4294967295))).1.1)), (7, Value.int b)] hq) (kk S' R' h' (LI_nx hL hC' a2 ⟨f', h1o⟩ ⟨g, h1d⟩ a1) a5)
  by_cases z0 : (po_draw σ (G.2.2.2.2.2.2 (i + 1)) (G.2.2.2.2.2.2 (i + 2)) ((G.2.2.2.2.2.2 (i + 3)).toInt64 <<< ((32 : Int32).toInt64 &&& 63) ||| ((G.2.2.2.2.2.2 (i + 4)).toInt64 &&& 4294967295))).1.1 = 0
  · refine ax_if_ne (tgt := 790) dL_law_775 (by decide) (fun z => absurd (by rw [z0]; rfl) z) (fun _ => ?_)
    refine ax_aload_n dL_law_778 rfl ?_
    refine ax_iconst (v := 0) dL_law_779 (by decide) ?_
    refine ax_lald dL_law_780 (rw_rd (A := (A, ad, S')) ⟨a1 _ _ h1o, l7⟩) (by unfold vp_in; decide) ?_
    rw [show f' (0 : Int32).toNatClampNeg = ((po_draw σ (G.2.2.2.2.2.2 (i + 1)) (G.2.2.2.2.2.2 (i + 2)) ((G.2.2.2.2.2.2 (i + 3)).toInt64 <<< ((32 : Int32).toInt64 &&& 63) ||| ((G.2.2.2.2.2.2 (i + 4)).toInt64 &&& 4294967295))).1.2.toInt64) from hV z0]
    refine ax_iload dL_law_781 rfl ?_
    rw [a4 z0] at hfin ⊢
    refine ax_i2l dL_law_783 ?_
    refine ax_lcmp dL_law_784 ?_
    rw [lg_cmp0]
    exact ax_if_eq (tgt := 790) dL_law_785 (by decide) (fun _ => hfin) (fun z => absurd rfl z)
  · exact ax_if_ne (tgt := 790) dL_law_775 (by decide) (fun _ => hfin) (fun z => absurd z (il_ne _ 0 z0 rfl rfl (by have := pl_draw σ (G.2.2.2.2.2.2 (i + 1)) (G.2.2.2.2.2.2 (i + 2)) ((G.2.2.2.2.2.2 (i + 3)).toInt64 <<< ((32 : Int32).toInt64 &&& 63) ||| ((G.2.2.2.2.2.2 (i + 4)).toInt64 &&& 4294967295)); omega) (by decide)))
set_option maxRecDepth 100000 in
set_option maxHeartbeats 4000000 in
theorem lc_tell (d : Nat) {mc ms cn sn i ou od : Nat} {A : Nat → Nat} {ad : cs_K → Nat} {S : cs_S} {R : rw_S} {h : ax_H} {σ : sp_St} (hL : LI A ad S R h σ ou od) (hi : i + 6 ≤ G.2.2.2.2.2.1) (hN : G.2.2.2.2.2.1 ≤ 3072) (hcn : cn + 1 + 0 ≤ mc) (hsn : sn + 6 + 0 ≤ ms) {Q : ax_P} (kk : ∀ S' R' h', LI A ad S' R' h' (po_tell σ (G.2.2.2.2.2.2 (i + 1))).2 ou od → AW G mL_law (d + 80) mc ms Q 1391 [(0, .ref G.2.2.2.2.1), (1, .ref (ad (0, 0))), (2, .ref (A 0)), (3, .ref ou), (4, .ref od), (5, .int (nI i))] [] (rw_O (A, ad, S') R' h') (cn + 1 + 0) (sn + 6 + 0)) : AW G mL_law (d + 80) mc ms Q 793 [(0, .ref G.2.2.2.2.1), (1, .ref (ad (0, 0))), (2, .ref (A 0)), (3, .ref ou), (4, .ref od), (5, .int (nI i))] [] (rw_O (A, ad, S) R h) cn sn := by
  have hne := LI_ne hL
  obtain ⟨l1, l2, l3, l4, l5, ⟨f, hf⟩, l7, ⟨g, hg⟩, l9⟩ := id hL
  refine ax_aload_n dL_law_793 rfl ?_
  refine ax_aload_n dL_law_794 rfl ?_
  refine ax_iload dL_law_795 rfl ?_
  refine ax_iconst (v := 1) dL_law_797 (by decide) ?_
  refine ax_iadd dL_law_798 ?_
  refine ax_top (y := nI (i + 1)) (nI_add i 1) ?_
  refine ax_sld dL_law_799 (nI_in (by omega) (by omega)) ?_
  refine ax_top (y := (G.2.2.2.2.2.2 (i + 1))) (by rw [nI_clamp (by omega)]) ?_
  refine ax_aload_n dL_law_800 rfl ?_
  refine ax_eqh (rw_sw l3) ?_
  refine ax_callH (av := [.ref (ad (0, 0)), .int (G.2.2.2.2.2.2 (i + 1)), .ref ou]) (rest := []) (mc' := 1) (ms' := 6) dL_law_801 rfl lkL_131 rfl (Nat.le_of_ble_eq_true rfl) (Nat.le_of_ble_eq_true rfl) (by omega) (by omega) (lh_tell l2 (d + 62) S (ax_w h (rw_l (A, ad, S) R)) l4 (G.2.2.2.2.2.2 (i + 1)) (rw_rou l3 l7 hf) (Q := fun r h9 => r = .inl (some (.int (nI (po_tell σ (G.2.2.2.2.2.2 (i + 1))).1.1))) ∧ ∃ S' f', CI (po_tell σ (G.2.2.2.2.2.2 (i + 1))).2 S' ∧ h9 = va_up (cs_O ad S' (ax_w h (rw_l (A, ad, S) R))) ou (some (.inl (1, 1, .inr (.inl f')))) ∧ ((po_tell σ (G.2.2.2.2.2.2 (i + 1))).1.1 = 0 → f' 0 = ((po_tell σ (G.2.2.2.2.2.2 (i + 1))).1.2.toInt64))) (fun S' c z => ⟨by rw [z]; rfl, S', _, c, rfl, fun _ => if_pos rfl⟩) (fun S' c z => ⟨rfl, S', f, c, (va_up_id (rw_rou l3 l7 hf S')).symm, fun w => absurd w z⟩)) (fun E9 h9 q9 => by cases q9.1) (fun v9 h9 q9 => ?_)
  obtain ⟨e9, S', f', hC', rfl, hV⟩ := q9
  cases e9
  refine ax_eqh (rw_lou l3 l7 S' _) ?_
  obtain ⟨h1, hh1⟩ : ∃ h1, h1 = va_up h ou (some (.inl (1, 1, .inr (.inl f')))) := ⟨_, rfl⟩
  rw [← hh1]
  have h1o : h1 ou = some (.inl (1, 1, .inr (.inl f'))) := by rw [hh1, ax_up_s]
  have h1d : h1 od = some (.inl (2, 1, .inr (.inr (.inr (.inl g))))) := by rw [hh1, ax_up_n (Ne.symm hne)]; exact hg
  have hR1 : RI (A, ad, S') σ R h1 := by rw [hh1]; exact RI_ou (fun n f0 e => by rw [hf] at e; cases e) (LI_S l5)
  show AW G mL_law (d + 80) mc ms Q 804 [(0, .ref G.2.2.2.2.1), (1, .ref (ad (0, 0))), (2, .ref (A 0)), (3, .ref ou), (4, .ref od), (5, .int (nI i))] [.int (nI (po_tell σ (G.2.2.2.2.2.2 (i + 1))).1.1)] (rw_O (A, ad, S') R h1) (cn + 1) (sn + 6)
  refine ax_istore dL_law_804 (by decide) ?_
  refine ax_sub (lv' := [(0, .ref G.2.2.2.2.1), (1, .ref (ad (0, 0))), (2, .ref (A 0)), (3, .ref ou), (4, .ref od), (5, .int (nI i)), (6, .int (nI (po_tell σ (G.2.2.2.2.2.2 (i + 1))).1.1))]) (fun _ z => z) ?_
  refine ax_aload_n dL_law_806 rfl ?_
  refine ax_aload_n dL_law_807 rfl ?_
  refine ax_iload dL_law_808 rfl ?_
  refine ax_iconst (v := 1) dL_law_810 (by decide) ?_
  refine ax_iadd dL_law_811 ?_
  refine ax_top (y := nI (i + 1)) (nI_add i 1) ?_
  refine ax_sld dL_law_812 (nI_in (by omega) (by omega)) ?_
  refine ax_top (y := (G.2.2.2.2.2.2 (i + 1))) (by rw [nI_clamp (by omega)]) ?_
  refine ax_callV (b := A 0) (av := [.int (G.2.2.2.2.2.2 (i + 1))]) (rest := []) (mc' := 0) (ms' := 0) dL_law_813 rfl lkL_134 (rw_g0 (A := (A, ad, S')) l1) rfl (Nat.le_of_ble_eq_true rfl) (Nat.le_of_ble_eq_true rfl) (by omega) (by omega) (rb_tell (A := (A, ad, S')) l1 (d + 31) R h1 hR1 (G.2.2.2.2.2.2 (i + 1))) (fun E9 h9 q9 => by obtain ⟨_, _, _, e9, _⟩ := q9; cases e9) (fun v9 h9 q9 => ?_)
  obtain ⟨R', h', b, e9, rfl, a1, a2, a3, a4⟩ := q9
  cases e9
  show AW G mL_law (d + 80) mc ms Q 816 [(0, .ref G.2.2.2.2.1), (1, .ref (ad (0, 0))), (2, .ref (A 0)), (3, .ref ou), (4, .ref od), (5, .int (nI i)), (6, .int (nI (po_tell σ (G.2.2.2.2.2.2 (i + 1))).1.1))] [.int b] (rw_O (A, ad, S') R' h') (cn + 1 + 0) (sn + 6 + 0)
  refine ax_istore dL_law_816 (by decide) ?_
  refine ax_sub (lv' := [(0, .ref G.2.2.2.2.1), (1, .ref (ad (0, 0))), (2, .ref (A 0)), (3, .ref ou), (4, .ref od), (5, .int (nI i)), (6, .int (nI (po_tell σ (G.2.2.2.2.2.2 (i + 1))).1.1)), (7, .int b)]) (fun _ z => z) ?_
  refine ax_aload_n dL_law_818 rfl ?_
  refine ax_callV (b := A 0) (av := []) (rest := []) (mc' := 0) (ms' := 0) dL_law_819 rfl lkL_93 (rw_g0 (A := (A, ad, S')) l1) rfl (Nat.le_of_ble_eq_true rfl) (Nat.le_of_ble_eq_true rfl) (by omega) (by omega) (r_thrown (A := (A, ad, S')) l1 (d + 79) R' h') (fun E9 h9 q9 => by cases q9.1) (fun v9 h9 q9 => ?_)
  obtain ⟨e9, rfl⟩ := q9
  cases e9
  show AW G mL_law (d + 80) mc ms Q 822 [(0, .ref G.2.2.2.2.1), (1, .ref (ad (0, 0))), (2, .ref (A 0)), (3, .ref ou), (4, .ref od), (5, .int (nI i)), (6, .int (nI (po_tell σ (G.2.2.2.2.2.2 (i + 1))).1.1)), (7, .int b)] [.int (R'.1 0)] (rw_O (A, ad, S') R' h') (cn + 1 + 0) (sn + 6 + 0)
  rw [a3]
  refine ax_iload dL_law_822 rfl ?_
  refine ax_icmp_eq (tgt := 829) dL_law_824 (by decide) (fun _ => ?_) (fun z => absurd rfl z)
  refine ax_iload dL_law_829 rfl ?_
  have hfin : AW G mL_law (d + 80) mc ms Q 846 [(0, .ref G.2.2.2.2.1), (1, .ref (ad (0, 0))), (2, .ref (A 0)), (3, .ref ou), (4, .ref od), (5, .int (nI i)), (6, .int (nI (po_tell σ (G.2.2.2.2.2.2 (i + 1))).1.1)), (7, .int b)] [] (rw_O (A, ad, S') R' h') (cn + 1 + 0) (sn + 6 + 0) := by
    refine ax_goto (tgt := 1391) dL_law_846 (by decide) ?_
    exact ax_sub (fun q hq => List.mem_append_left [(6, Value.int (nI (po_tell σ (G.2.2.2.2.2.2 (i + 1))).1.1)), (7, Value.int b)] hq) (kk S' R' h' (LI_nx hL hC' a2 ⟨f', h1o⟩ ⟨g, h1d⟩ a1))
  by_cases z0 : (po_tell σ (G.2.2.2.2.2.2 (i + 1))).1.1 = 0
  · refine ax_if_ne (tgt := 846) dL_law_831 (by decide) (fun z => absurd (by rw [z0]; rfl) z) (fun _ => ?_)
    refine ax_aload_n dL_law_834 rfl ?_
    refine ax_iconst (v := 0) dL_law_835 (by decide) ?_
    refine ax_lald dL_law_836 (rw_rd (A := (A, ad, S')) ⟨a1 _ _ h1o, l7⟩) (by unfold vp_in; decide) ?_
    rw [show f' (0 : Int32).toNatClampNeg = ((po_tell σ (G.2.2.2.2.2.2 (i + 1))).1.2.toInt64) from hV z0]
    refine ax_iload dL_law_837 rfl ?_
    rw [a4 z0] at hfin ⊢
    refine ax_i2l dL_law_839 ?_
    refine ax_lcmp dL_law_840 ?_
    rw [lg_cmp0]
    exact ax_if_eq (tgt := 846) dL_law_841 (by decide) (fun _ => hfin) (fun z => absurd rfl z)
  · exact ax_if_ne (tgt := 846) dL_law_831 (by decide) (fun _ => hfin) (fun z => absurd z (il_ne _ 0 z0 rfl rfl (by have := pl_tell σ (G.2.2.2.2.2.2 (i + 1)); omega) (by decide)))
end LAW
