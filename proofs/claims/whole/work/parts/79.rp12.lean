/-! ===== the reference: addConstructor, the parameters looked at ===== -/
section RP12
variable {G : ax_G} {A : rw_Ad}

set_option maxRecDepth 100000 in
set_option maxHeartbeats 4000000 in
theorem ac_step (hA : rw_nd A) (d : Nat) (R : rw_S) (h : ax_H) {σ : sp_St} (h3 : R.1 3 = nI σ.1.2.2.1) (h4 : σ.1.2.2.1 ≤ 4) {x : Nat} {f : Nat → Int32} (hx : rw_O A R h x = some (.inl (0, 3, .inl f))) {t a b c k : Int32} {N : Nat} {Q : ax_P} {i : Nat} (hi : i < 3) (F F' : Bool) (N' : Nat) (hF : F' = (F && (po_isT σ (f i) || (decide (f i = 9) || decide (f i = -1))) && (decide (i = 0) || (!decide (f (i - 1) = -1) || decide (f i = -1))))) (hN : N' = N + (if po_isT σ (f i) then 1 else 0)) (kk : AW G mX7_addConstructor (d + 48) 1 3 Q 52 [(0, .ref (A.1 0)), (1, .int t), (2, .int a), (3, .int b), (4, .int c), (5, .int k), (6, .ref x), (7, .int (nI N')), (8, .int (if F' then 1 else 0)), (9, .int (nI (i + 1)))] [] (rw_O A R h) 1 3) : AW G mX7_addConstructor (d + 48) 1 3 Q 52 [(0, .ref (A.1 0)), (1, .int t), (2, .int a), (3, .int b), (4, .int c), (5, .int k), (6, .ref x), (7, .int (nI N)), (8, .int (if F then 1 else 0)), (9, .int (nI i))] [] (rw_O A R h) 1 3 := by
  cases F with
  | false =>
    have e : F' = false := by rw [hF]; rfl
    subst e
    cases hT : po_isT σ (f i) with
    | true =>
      rw [hT] at hN; subst hN
      exact ac_zt hA d R h h3 h4 hx hi hT kk
    | false =>
      rw [hT] at hN; subst hN
      exact ac_zf hA d R h h3 h4 hx hi hT kk
  | true =>
    cases hT : po_isT σ (f i) with
    | true =>
      rw [hT] at hN hF; subst hN
      match i, hi, hT, hF, kk with
      | 0, hi, hT, hF, kk =>
        have e : F' = true := by rw [hF]; rfl
        subst e
        exact ac_ot hA d R h h3 h4 hx hT kk
      | j + 1, hi, hT, hF, kk =>
        rw [Nat.add_sub_cancel] at hF
        by_cases hp : f j = -1
        · by_cases hm : f (j + 1) = -1
          · have e : F' = true := by rw [hF]; simp [hp, hm]
            subst e
            exact ac_obt hA d R h h3 h4 hx hi hp hm hT kk
          · have e : F' = false := by rw [hF]; simp [hp, hm]
            subst e
            exact ac_oct hA d R h h3 h4 hx hi hp hm hT kk
        · have e : F' = true := by rw [hF]; simp [hp]
          subst e
          exact ac_oat hA d R h h3 h4 hx hi hp hT kk
    | false =>
      rw [hT] at hN hF; subst hN
      match i, hi, hT, hF, kk with
      | 0, hi, hT, hF, kk =>
        by_cases h9 : f 0 = 9
        · have e : F' = true := by rw [hF]; simp [h9]
          subst e
          exact ac_o9 hA d R h h3 h4 hx h9 hT kk
        · by_cases hm : f 0 = -1
          · have e : F' = true := by rw [hF]; simp [hm]
            subst e
            exact ac_om hA d R h h3 h4 hx h9 hm hT kk
          · have e : F' = false := by rw [hF]; simp [hm, h9]
            subst e
            exact ac_n0 hA d R h h3 h4 hx h9 hm hT kk
      | j + 1, hi, hT, hF, kk =>
        rw [Nat.add_sub_cancel] at hF
        by_cases h9 : f (j + 1) = 9
        · by_cases hp : f j = -1
          · have hm : ¬ f (j + 1) = -1 := by rw [h9]; decide
            have e : F' = false := by rw [hF]; simp [hp, hm]
            subst e
            exact ac_oc9 hA d R h h3 h4 hx hi h9 hp hm hT kk
          · have e : F' = true := by rw [hF]; simp [hp, h9]
            subst e
            exact ac_oa9 hA d R h h3 h4 hx hi h9 hp hT kk
        · by_cases hm : f (j + 1) = -1
          · have e : F' = true := by rw [hF]; simp [hm]
            subst e
            by_cases hp : f j = -1
            · exact ac_obm hA d R h h3 h4 hx hi h9 hm hp hT kk
            · exact ac_oam hA d R h h3 h4 hx hi h9 hm hp hT kk
          · have e : F' = false := by rw [hF]; simp [hm, h9]
            subst e
            exact ac_ns hA d R h h3 h4 hx hi h9 hm hT kk
theorem ac_loop (hA : rw_nd A) (d : Nat) (R : rw_S) (h : ax_H) {σ : sp_St} (h3 : R.1 3 = nI σ.1.2.2.1) (h4 : σ.1.2.2.1 ≤ 4) {x : Nat} {f : Nat → Int32} (hx : rw_O A R h x = some (.inl (0, 3, .inl f))) {t a b c k : Int32} {N : Nat} {Q : ax_P} (k0 : Bool) (kk : AW G mX7_addConstructor (d + 48) 1 3 Q 52 [(0, .ref (A.1 0)), (1, .int t), (2, .int a), (3, .int b), (4, .int c), (5, .int k), (6, .ref x), (7, .int (nI (ac_N σ f 3))), (8, .int (if ac_F σ k0 f 3 then 1 else 0)), (9, .int (nI 3))] [] (rw_O A R h) 1 3) : AW G mX7_addConstructor (d + 48) 1 3 Q 52 [(0, .ref (A.1 0)), (1, .int t), (2, .int a), (3, .int b), (4, .int c), (5, .int k), (6, .ref x), (7, .int (nI 0)), (8, .int (if k0 then 1 else 0)), (9, .int (nI 0))] [] (rw_O A R h) 1 3 :=
  ac_step hA d R h h3 h4 hx (i := 0) (by decide) k0 (ac_F σ k0 f 1) (ac_N σ f 1) rfl rfl (ac_step hA d R h h3 h4 hx (i := 1) (by decide) (ac_F σ k0 f 1) (ac_F σ k0 f 2) (ac_N σ f 2) rfl rfl (ac_step hA d R h h3 h4 hx (i := 2) (by decide) (ac_F σ k0 f 2) (ac_F σ k0 f 3) (ac_N σ f 3) rfl rfl kk))
end RP12
