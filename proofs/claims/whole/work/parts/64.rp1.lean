/-! ===== the reference's public methods: the grammar, the counts ===== -/
theorem RI_s0 {A : rw_Ad} {σ : sp_St} {R : rw_S} {h : ax_H} (x : Int32) (hR : RI A σ R h) : RI A σ (rw_setS R 0 x) h := RI_fx ⟨fun i z _ _ _ => pk_un z, fun _ _ _ => rfl, rfl⟩ hR
theorem in_18 {s : Int32} : ((1 : Int32) ≤ s ∧ s ≤ 8) ↔ ¬ (s < 1 ∨ 8 < s) := by
  constructor
  · rintro ⟨a, b⟩ (z | z)
    · exact i_le_not a z
    · exact i_le_not b z
  · intro z
    exact ⟨i_not_le (fun w => z (Or.inl w)), i_not_le (fun w => z (Or.inr w))⟩
theorem in_15 {s : Int32} : ((1 : Int32) ≤ s ∧ s ≤ 5) ↔ ¬ (s < 1 ∨ 5 < s) := by
  constructor
  · rintro ⟨a, b⟩ (z | z)
    · exact i_le_not a z
    · exact i_le_not b z
  · intro z
    exact ⟨i_not_le (fun w => z (Or.inl w)), i_not_le (fun w => z (Or.inr w))⟩
/-- whether a call makes the values -/
def po_wm (σ : sp_St) (t s : Int32) : Bool := po_isT σ t && !decide (s < 1 ∨ 8 < s)
def po_ws (σ : sp_St) (t n : Int32) : Bool := po_isT σ t && !decide (n < 0)
def po_wa (σ : sp_St) (t p s : Int32) : Bool := !decide (p < 1 ∨ 5 < p) && po_wm σ t s
def po_wr (σ : sp_St) (t : Int32) : Bool := po_isT σ t && (match sp_look σ.1 41 t.toNatClampNeg σ.2.1 with
  | none => false
  | some p => decide (p.2 = [] ∧ p.1.1 ≤ 8))
def rw_bC (w : Bool) (R : rw_S) (g : sp_G) : Nat := if w then rm_C R g else 0
def rw_bS (w : Bool) (R : rw_S) (g : sp_G) : Nat := if w then rm_S R g else 0
theorem rw_bT {w : Bool} (h : w = true) (R : rw_S) (g : sp_G) : rm_C R g ≤ rw_bC w R g ∧ rm_S R g ≤ rw_bS w R g := by subst h; exact ⟨Nat.le_refl _, Nat.le_refl _⟩
/-- what a call that may make leaves -/
def rb_QW (A : rw_Ad) (h : ax_H) (o : po_R) (w : Bool) : ax_P := fun r h1 => ∃ R' h' b, r = .inl (some (.int b)) ∧ h1 = rw_O A R' h' ∧ hx_le h h' ∧ RI A o.2 R' h' ∧ R'.1 0 = nI o.1.1 ∧ (o.1.1 = 0 → b = o.1.2) ∧ (w = true → R'.1 12 = 1)
section RP1
variable {G : ax_G} {A : rw_Ad}

set_option maxRecDepth 100000 in
set_option maxHeartbeats 4000000 in
theorem rb_asks (hA : rw_nd A) (d : Nat) (R : rw_S) (h : ax_H) {σ : sp_St} (hR : RI A σ R h) (t : Int32) (s : Int32) : AW G mX7_asks (d + 48) (rw_bC (po_wm σ t s) R σ.1) (rw_bS (po_wm σ t s) R σ.1) (fun r h1 => ∃ R' h', h1 = rw_O A R' h' ∧ hx_le h h' ∧ RI A σ R' h' ∧ R'.1 0 = nI (po_asks σ t s) ∧ r = .inl (some (.int (if po_asks σ t s = 0 then 1 else 0))) ∧ (po_asks σ t s = 0 → R'.1 12 = 1 ∧ rw_T A R' h' (po_T σ)) ∧ (po_wm σ t s = true → R'.1 12 = 1)) 0 [(0, .ref (A.1 0)), (1, .int t), (2, .int s)] [] (rw_O A R h) 0 0 := by
  cases hk1 : po_isT σ t with
  | false =>
    have e0 : po_asks σ t s = 1 := if_pos hk1
    rw [e0]
    refine ax_aload_n dX7_asks_0 rfl ?_
    refine ax_aload_n dX7_asks_1 rfl ?_
    refine ax_iload_n dX7_asks_2 rfl ?_
    refine ax_callV (b := (A.1 0)) (av := [.int t]) (rest := [.ref (A.1 0)]) (mc' := 0) (ms' := 0) dX7_asks_3 rfl lkX7_76 (rw_g0 hA) rfl (Nat.le_of_ble_eq_true rfl) (Nat.le_of_ble_eq_true rfl) (by omega) (by omega) (r_isType hA _ R h t (σ := σ) hR.2.1.2.2.1 hR.1.2.2.1) (fun E9 h9 q9 => by cases q9.1) (fun v9 h9 q9 => ?_)
    obtain ⟨e9, rfl⟩ := q9
    cases e9
    show AW G mX7_asks (d + 48) (rw_bC (po_wm σ t s) R σ.1) (rw_bS (po_wm σ t s) R σ.1) _ 6 [(0, .ref (A.1 0)), (1, .int t), (2, .int s)] [.int (if po_isT σ t then 1 else 0), .ref (A.1 0)] (rw_O A R h) 0 0
    refine ax_if_ne (tgt := 13) dX7_asks_6 (by decide) (fun z => absurd (by rw [hk1]; decide) z) (fun _ => ?_)
    refine ax_iconst (v := 1) dX7_asks_9 (by decide) ?_
    refine ax_goto (tgt := 28) dX7_asks_10 (by decide) ?_
    refine ax_put dX7_asks_28 fpX7_52 (rw_g0 hA) rfl rfl (Nat.le_of_ble_eq_true rfl) ?_
    refine ax_eqh (rw_ps0 hA) ?_
    refine ax_aload_n dX7_asks_31 rfl ?_
    refine ax_get (v := .int 1) dX7_asks_32 fkX7_52 (rw_g0 hA) rfl ?_
    refine ax_if_eq (tgt := 40) dX7_asks_35 (by decide) (fun z => absurd z (by decide)) (fun _ => ?_)
    refine ax_iconst (v := 0) dX7_asks_38 (by decide) ?_
    exact ax_iret (st := []) dX7_asks_39 rfl rfl ⟨_, h, rfl, hx_rfl h, RI_s0 1 hR, rfl, rfl, fun z => absurd z (by decide), fun z => by unfold po_wm at z; rw [hk1] at z; exact absurd z (by simp)⟩
  | true =>
    by_cases hk2 : s < 1 ∨ 8 < s
    · have e0 : po_asks σ t s = 2 := (if_neg (by rw [hk1]; decide)).trans (if_pos hk2)
      rw [e0]
      have hin : ¬ ((1 : Int32) ≤ s ∧ s ≤ 8) := fun z => in_18.mp z hk2
      refine ax_aload_n dX7_asks_0 rfl ?_
      refine ax_aload_n dX7_asks_1 rfl ?_
      refine ax_iload_n dX7_asks_2 rfl ?_
      refine ax_callV (b := (A.1 0)) (av := [.int t]) (rest := [.ref (A.1 0)]) (mc' := 0) (ms' := 0) dX7_asks_3 rfl lkX7_76 (rw_g0 hA) rfl (Nat.le_of_ble_eq_true rfl) (Nat.le_of_ble_eq_true rfl) (by omega) (by omega) (r_isType hA _ R h t (σ := σ) hR.2.1.2.2.1 hR.1.2.2.1) (fun E9 h9 q9 => by cases q9.1) (fun v9 h9 q9 => ?_)
      obtain ⟨e9, rfl⟩ := q9
      cases e9
      show AW G mX7_asks (d + 48) (rw_bC (po_wm σ t s) R σ.1) (rw_bS (po_wm σ t s) R σ.1) _ 6 [(0, .ref (A.1 0)), (1, .int t), (2, .int s)] [.int (if po_isT σ t then 1 else 0), .ref (A.1 0)] (rw_O A R h) 0 0
      refine ax_if_ne (tgt := 13) dX7_asks_6 (by decide) (fun _ => ?_) (fun z => absurd z (by rw [hk1]; decide))
      refine ax_iload_n dX7_asks_13 rfl ?_
      refine ax_iconst (v := 1) dX7_asks_14 (by decide) ?_
      refine ax_bipush (v := 8) dX7_asks_15 (by decide) ?_
      refine ax_callS (av := [.int s, .int 1, .int 8]) (rest := [.ref (A.1 0)]) (mc' := 0) (ms' := 0) dX7_asks_17 rfl lkX7_58 rfl (Nat.le_of_ble_eq_true rfl) (Nat.le_of_ble_eq_true rfl) (by omega) (by omega) (r_isIn _ _ s 1 8) (fun E9 h9 q9 => by cases q9.1) (fun v9 h9 q9 => ?_)
      obtain ⟨e9, rfl⟩ := q9
      cases e9
      rw [if_neg hin]
      show AW G mX7_asks (d + 48) (rw_bC (po_wm σ t s) R σ.1) (rw_bS (po_wm σ t s) R σ.1) _ 20 [(0, .ref (A.1 0)), (1, .int t), (2, .int s)] [.int 0, .ref (A.1 0)] (rw_O A R h) 0 0
      refine ax_if_ne (tgt := 27) dX7_asks_20 (by decide) (fun z => absurd rfl z) (fun _ => ?_)
      refine ax_iconst (v := 2) dX7_asks_23 (by decide) ?_
      refine ax_goto (tgt := 28) dX7_asks_24 (by decide) ?_
      refine ax_put dX7_asks_28 fpX7_52 (rw_g0 hA) rfl rfl (Nat.le_of_ble_eq_true rfl) ?_
      refine ax_eqh (rw_ps0 hA) ?_
      refine ax_aload_n dX7_asks_31 rfl ?_
      refine ax_get (v := .int 2) dX7_asks_32 fkX7_52 (rw_g0 hA) rfl ?_
      refine ax_if_eq (tgt := 40) dX7_asks_35 (by decide) (fun z => absurd z (by decide)) (fun _ => ?_)
      refine ax_iconst (v := 0) dX7_asks_38 (by decide) ?_
      exact ax_iret (st := []) dX7_asks_39 rfl rfl ⟨_, h, rfl, hx_rfl h, RI_s0 2 hR, rfl, rfl, fun z => absurd z (by decide), fun z => by unfold po_wm at z; rw [hk1, decide_eq_true hk2] at z; exact absurd z (by simp)⟩
    · have hin : (1 : Int32) ≤ s ∧ s ≤ 8 := in_18.mpr hk2
      obtain ⟨hbC, hbS⟩ := rw_bT (w := po_wm σ t s) (by unfold po_wm; rw [hk1, decide_eq_false hk2]; rfl) R σ.1
      by_cases hk3 : nI (po_H σ) < s
      · have e0 : po_asks σ t s = 3 := (if_neg (by rw [hk1]; decide)).trans ((if_neg hk2).trans (if_pos hk3))
        rw [e0]
        refine ax_aload_n dX7_asks_0 rfl ?_
        refine ax_aload_n dX7_asks_1 rfl ?_
        refine ax_iload_n dX7_asks_2 rfl ?_
        refine ax_callV (b := (A.1 0)) (av := [.int t]) (rest := [.ref (A.1 0)]) (mc' := 0) (ms' := 0) dX7_asks_3 rfl lkX7_76 (rw_g0 hA) rfl (Nat.le_of_ble_eq_true rfl) (Nat.le_of_ble_eq_true rfl) (by omega) (by omega) (r_isType hA _ R h t (σ := σ) hR.2.1.2.2.1 hR.1.2.2.1) (fun E9 h9 q9 => by cases q9.1) (fun v9 h9 q9 => ?_)
        obtain ⟨e9, rfl⟩ := q9
        cases e9
        show AW G mX7_asks (d + 48) (rw_bC (po_wm σ t s) R σ.1) (rw_bS (po_wm σ t s) R σ.1) _ 6 [(0, .ref (A.1 0)), (1, .int t), (2, .int s)] [.int (if po_isT σ t then 1 else 0), .ref (A.1 0)] (rw_O A R h) 0 0
        refine ax_if_ne (tgt := 13) dX7_asks_6 (by decide) (fun _ => ?_) (fun z => absurd z (by rw [hk1]; decide))
        refine ax_iload_n dX7_asks_13 rfl ?_
        refine ax_iconst (v := 1) dX7_asks_14 (by decide) ?_
        refine ax_bipush (v := 8) dX7_asks_15 (by decide) ?_
        refine ax_callS (av := [.int s, .int 1, .int 8]) (rest := [.ref (A.1 0)]) (mc' := 0) (ms' := 0) dX7_asks_17 rfl lkX7_58 rfl (Nat.le_of_ble_eq_true rfl) (Nat.le_of_ble_eq_true rfl) (by omega) (by omega) (r_isIn _ _ s 1 8) (fun E9 h9 q9 => by cases q9.1) (fun v9 h9 q9 => ?_)
        obtain ⟨e9, rfl⟩ := q9
        cases e9
        rw [if_pos hin]
        show AW G mX7_asks (d + 48) (rw_bC (po_wm σ t s) R σ.1) (rw_bS (po_wm σ t s) R σ.1) _ 20 [(0, .ref (A.1 0)), (1, .int t), (2, .int s)] [.int 1, .ref (A.1 0)] (rw_O A R h) 0 0
        refine ax_if_ne (tgt := 27) dX7_asks_20 (by decide) (fun _ => ?_) (fun z => absurd z (by decide))
        refine ax_iconst (v := 0) dX7_asks_27 (by decide) ?_
        refine ax_put dX7_asks_28 fpX7_52 (rw_g0 hA) rfl rfl (Nat.le_of_ble_eq_true rfl) ?_
        refine ax_eqh (rw_ps0 hA) ?_
        refine ax_aload_n dX7_asks_31 rfl ?_
        refine ax_get (v := .int 0) dX7_asks_32 fkX7_52 (rw_g0 hA) rfl ?_
        refine ax_if_eq (tgt := 40) dX7_asks_35 (by decide) (fun _ => ?_) (fun z => absurd rfl z)
        refine ax_aload_n dX7_asks_40 rfl ?_
        refine ax_callV (b := (A.1 0)) (av := []) (rest := []) (mc' := (rm_C R σ.1)) (ms' := (rm_S R σ.1)) dX7_asks_41 rfl lkX7_137 (rw_g0 hA) rfl (Nat.le_of_ble_eq_true rfl) (Nat.le_of_ble_eq_true rfl) (by omega) (by omega) (r_mk hA _ (rw_setS R 0 0) h (RI_s0 0 hR) (Q := fun r h9 => r = .inl none ∧ ∃ R' h', h9 = rw_O A R' h' ∧ RI A σ R' h' ∧ rw_T A R' h' (po_T σ) ∧ R'.1 13 = nI (po_H σ) ∧ R'.1 12 = 1 ∧ rw_fm (rw_setS R 0 0) R' ∧ hx_le h h') (fun R' h' a b c d e f => ⟨rfl, R', h', rfl, a, b, c, d, e, f⟩)) (fun E9 h9 q9 => by cases q9.1) (fun v9 h9 q9 => ?_)
        obtain ⟨e9, R1, h1, rfl, m1, m2, m3, m4, m5, m6⟩ := q9
        cases e9
        show AW G mX7_asks (d + 48) (rw_bC (po_wm σ t s) R σ.1) (rw_bS (po_wm σ t s) R σ.1) _ 44 [(0, .ref (A.1 0)), (1, .int t), (2, .int s)] [] (rw_O A R1 h1) (0 + (rm_C R σ.1)) (0 + (rm_S R σ.1))
        refine ax_iload_n dX7_asks_44 rfl ?_
        refine ax_aload_n dX7_asks_45 rfl ?_
        refine ax_get (v := .int (nI (po_H σ))) dX7_asks_46 fkX7_130 (rw_g0 hA) (congrArg (fun z => some (Value.int z)) (m3)) ?_
        refine ax_icmp_le (tgt := 57) dX7_asks_49 (by decide) (fun z => absurd z (i_lt_not hk3)) (fun _ => ?_)
        refine ax_aload_n dX7_asks_52 rfl ?_
        refine ax_iconst (v := 3) dX7_asks_53 (by decide) ?_
        refine ax_put dX7_asks_54 fpX7_52 (rw_g0 hA) rfl rfl (Nat.le_of_ble_eq_true rfl) ?_
        refine ax_eqh (rw_ps0 hA) ?_
        refine ax_aload_n dX7_asks_57 rfl ?_
        refine ax_get (v := .int 3) dX7_asks_58 fkX7_52 (rw_g0 hA) rfl ?_
        refine ax_if_ne (tgt := 68) dX7_asks_61 (by decide) (fun _ => ?_) (fun z => absurd z (by decide))
        refine ax_iconst (v := 0) dX7_asks_68 (by decide) ?_
        exact ax_iret (st := []) dX7_asks_69 rfl rfl ⟨_, h1, rfl, m6, RI_s0 3 m1, rfl, rfl, fun z => absurd z (by decide), fun _ => m4⟩
      · have e0 : po_asks σ t s = 0 := (if_neg (by rw [hk1]; decide)).trans ((if_neg hk2).trans (if_neg hk3))
        rw [e0]
        refine ax_aload_n dX7_asks_0 rfl ?_
        refine ax_aload_n dX7_asks_1 rfl ?_
        refine ax_iload_n dX7_asks_2 rfl ?_
        refine ax_callV (b := (A.1 0)) (av := [.int t]) (rest := [.ref (A.1 0)]) (mc' := 0) (ms' := 0) dX7_asks_3 rfl lkX7_76 (rw_g0 hA) rfl (Nat.le_of_ble_eq_true rfl) (Nat.le_of_ble_eq_true rfl) (by omega) (by omega) (r_isType hA _ R h t (σ := σ) hR.2.1.2.2.1 hR.1.2.2.1) (fun E9 h9 q9 => by cases q9.1) (fun v9 h9 q9 => ?_)
        obtain ⟨e9, rfl⟩ := q9
        cases e9
        show AW G mX7_asks (d + 48) (rw_bC (po_wm σ t s) R σ.1) (rw_bS (po_wm σ t s) R σ.1) _ 6 [(0, .ref (A.1 0)), (1, .int t), (2, .int s)] [.int (if po_isT σ t then 1 else 0), .ref (A.1 0)] (rw_O A R h) 0 0
        refine ax_if_ne (tgt := 13) dX7_asks_6 (by decide) (fun _ => ?_) (fun z => absurd z (by rw [hk1]; decide))
        refine ax_iload_n dX7_asks_13 rfl ?_
        refine ax_iconst (v := 1) dX7_asks_14 (by decide) ?_
        refine ax_bipush (v := 8) dX7_asks_15 (by decide) ?_
        refine ax_callS (av := [.int s, .int 1, .int 8]) (rest := [.ref (A.1 0)]) (mc' := 0) (ms' := 0) dX7_asks_17 rfl lkX7_58 rfl (Nat.le_of_ble_eq_true rfl) (Nat.le_of_ble_eq_true rfl) (by omega) (by omega) (r_isIn _ _ s 1 8) (fun E9 h9 q9 => by cases q9.1) (fun v9 h9 q9 => ?_)
        obtain ⟨e9, rfl⟩ := q9
        cases e9
        rw [if_pos hin]
        show AW G mX7_asks (d + 48) (rw_bC (po_wm σ t s) R σ.1) (rw_bS (po_wm σ t s) R σ.1) _ 20 [(0, .ref (A.1 0)), (1, .int t), (2, .int s)] [.int 1, .ref (A.1 0)] (rw_O A R h) 0 0
        refine ax_if_ne (tgt := 27) dX7_asks_20 (by decide) (fun _ => ?_) (fun z => absurd z (by decide))
        refine ax_iconst (v := 0) dX7_asks_27 (by decide) ?_
        refine ax_put dX7_asks_28 fpX7_52 (rw_g0 hA) rfl rfl (Nat.le_of_ble_eq_true rfl) ?_
        refine ax_eqh (rw_ps0 hA) ?_
        refine ax_aload_n dX7_asks_31 rfl ?_
        refine ax_get (v := .int 0) dX7_asks_32 fkX7_52 (rw_g0 hA) rfl ?_
        refine ax_if_eq (tgt := 40) dX7_asks_35 (by decide) (fun _ => ?_) (fun z => absurd rfl z)
        refine ax_aload_n dX7_asks_40 rfl ?_
        refine ax_callV (b := (A.1 0)) (av := []) (rest := []) (mc' := (rm_C R σ.1)) (ms' := (rm_S R σ.1)) dX7_asks_41 rfl lkX7_137 (rw_g0 hA) rfl (Nat.le_of_ble_eq_true rfl) (Nat.le_of_ble_eq_true rfl) (by omega) (by omega) (r_mk hA _ (rw_setS R 0 0) h (RI_s0 0 hR) (Q := fun r h9 => r = .inl none ∧ ∃ R' h', h9 = rw_O A R' h' ∧ RI A σ R' h' ∧ rw_T A R' h' (po_T σ) ∧ R'.1 13 = nI (po_H σ) ∧ R'.1 12 = 1 ∧ rw_fm (rw_setS R 0 0) R' ∧ hx_le h h') (fun R' h' a b c d e f => ⟨rfl, R', h', rfl, a, b, c, d, e, f⟩)) (fun E9 h9 q9 => by cases q9.1) (fun v9 h9 q9 => ?_)
        obtain ⟨e9, R1, h1, rfl, m1, m2, m3, m4, m5, m6⟩ := q9
        cases e9
        have h0 : R1.1 0 = 0 := (m5.1 0 (by decide) (by decide) (by decide) (by decide) (by decide)).trans rfl
        show AW G mX7_asks (d + 48) (rw_bC (po_wm σ t s) R σ.1) (rw_bS (po_wm σ t s) R σ.1) _ 44 [(0, .ref (A.1 0)), (1, .int t), (2, .int s)] [] (rw_O A R1 h1) (0 + (rm_C R σ.1)) (0 + (rm_S R σ.1))
        refine ax_iload_n dX7_asks_44 rfl ?_
        refine ax_aload_n dX7_asks_45 rfl ?_
        refine ax_get (v := .int (nI (po_H σ))) dX7_asks_46 fkX7_130 (rw_g0 hA) (congrArg (fun z => some (Value.int z)) (m3)) ?_
        refine ax_icmp_le (tgt := 57) dX7_asks_49 (by decide) (fun _ => ?_) (fun z => absurd (i_not_le hk3) z)
        refine ax_aload_n dX7_asks_57 rfl ?_
        refine ax_get (v := .int 0) dX7_asks_58 fkX7_52 (rw_g0 hA) (congrArg (fun z => some (Value.int z)) (h0)) ?_
        refine ax_if_ne (tgt := 68) dX7_asks_61 (by decide) (fun z => absurd rfl z) (fun _ => ?_)
        refine ax_iconst (v := 1) dX7_asks_64 (by decide) ?_
        refine ax_goto (tgt := 69) dX7_asks_65 (by decide) ?_
        exact ax_iret (st := []) dX7_asks_69 rfl rfl ⟨R1, h1, rfl, m6, m1, h0, rfl, fun _ => ⟨m4, m2⟩, fun _ => m4⟩
set_option maxRecDepth 100000 in
set_option maxHeartbeats 4000000 in
theorem rb_typeCount (hA : rw_nd A) (d : Nat) (R : rw_S) (h : ax_H) {σ : sp_St} (hR : RI A σ R h)  : AW G mX7_typeCount (d + 48) 0 0 (fun r h1 => ∃ R' h', h1 = rw_O A R' h' ∧ hx_le h h' ∧ RI A σ R' h' ∧ r = .inl (some (.int (nI σ.1.2.2.1)))) 0 [(0, .ref (A.1 0))] [] (rw_O A R h) 0 0 := by
  refine ax_aload_n dX7_typeCount_0 rfl ?_
  refine ax_iconst (v := 0) dX7_typeCount_1 (by decide) ?_
  refine ax_put dX7_typeCount_2 fpX7_52 (rw_g0 hA) rfl rfl (Nat.le_of_ble_eq_true rfl) ?_
  refine ax_eqh (rw_ps0 hA) ?_
  refine ax_aload_n dX7_typeCount_5 rfl ?_
  refine ax_get (v := .int (nI σ.1.2.2.1)) dX7_typeCount_6 fkX7_55 (rw_g0 hA) (congrArg (fun z => some (Value.int z)) (hR.2.1.2.2.1)) ?_
  exact ax_iret (st := []) dX7_typeCount_9 rfl rfl ⟨_, h, rfl, hx_rfl h, RI_s0 0 hR, rfl⟩
set_option maxRecDepth 100000 in
set_option maxHeartbeats 4000000 in
theorem rb_horizon (hA : rw_nd A) (d : Nat) (R : rw_S) (h : ax_H) {σ : sp_St} (hR : RI A σ R h)  : AW G mX7_horizon (d + 48) (rm_C R σ.1) (rm_S R σ.1) (fun r h1 => ∃ R' h', h1 = rw_O A R' h' ∧ hx_le h h' ∧ RI A σ R' h' ∧ R'.1 12 = 1 ∧ r = .inl (some (.int (nI (po_H σ))))) 0 [(0, .ref (A.1 0))] [] (rw_O A R h) 0 0 := by
  refine ax_aload_n dX7_horizon_0 rfl ?_
  refine ax_iconst (v := 0) dX7_horizon_1 (by decide) ?_
  refine ax_put dX7_horizon_2 fpX7_52 (rw_g0 hA) rfl rfl (Nat.le_of_ble_eq_true rfl) ?_
  refine ax_eqh (rw_ps0 hA) ?_
  refine ax_aload_n dX7_horizon_5 rfl ?_
  refine ax_callV (b := (A.1 0)) (av := []) (rest := []) (mc' := (rm_C R σ.1)) (ms' := (rm_S R σ.1)) dX7_horizon_6 rfl lkX7_137 (rw_g0 hA) rfl (Nat.le_of_ble_eq_true rfl) (Nat.le_of_ble_eq_true rfl) (by omega) (by omega) (r_mk hA _ (rw_setS R 0 0) h (RI_s0 0 hR) (Q := fun r h9 => r = .inl none ∧ ∃ R' h', h9 = rw_O A R' h' ∧ RI A σ R' h' ∧ rw_T A R' h' (po_T σ) ∧ R'.1 13 = nI (po_H σ) ∧ R'.1 12 = 1 ∧ rw_fm (rw_setS R 0 0) R' ∧ hx_le h h') (fun R' h' a b c d e f => ⟨rfl, R', h', rfl, a, b, c, d, e, f⟩)) (fun E9 h9 q9 => by cases q9.1) (fun v9 h9 q9 => ?_)
  obtain ⟨e9, R1, h1, rfl, m1, m2, m3, m4, m5, m6⟩ := q9
  cases e9
  show AW G mX7_horizon (d + 48) (rm_C R σ.1) (rm_S R σ.1) _ 9 [(0, .ref (A.1 0))] [] (rw_O A R1 h1) (0 + (rm_C R σ.1)) (0 + (rm_S R σ.1))
  refine ax_aload_n dX7_horizon_9 rfl ?_
  refine ax_get (v := .int (nI (po_H σ))) dX7_horizon_10 fkX7_130 (rw_g0 hA) (congrArg (fun z => some (Value.int z)) (m3)) ?_
  exact ax_iret (st := []) dX7_horizon_13 rfl rfl ⟨_, h1, rfl, m6, m1, m4, rfl⟩
set_option maxRecDepth 100000 in
set_option maxHeartbeats 4000000 in
theorem rb_count (hA : rw_nd A) (d : Nat) (R : rw_S) (h : ax_H) {σ : sp_St} (hR : RI A σ R h) (t : Int32) (s : Int32) : AW G mX7_count (d + 49) (rw_bC (po_wm σ t s) R σ.1) (rw_bS (po_wm σ t s) R σ.1) (rb_QW A h (po_count σ t s) (po_wm σ t s)) 0 [(0, .ref (A.1 0)), (1, .int t), (2, .int s)] [] (rw_O A R h) 0 0 := by
  by_cases hk : po_asks σ t s = 0
  · have hk1 : po_isT σ t = true := by
      cases hb : po_isT σ t with
      | true => rfl
      | false => rw [show po_asks σ t s = 1 from if_pos hb] at hk; cases hk
    have hk2 : ¬ (s < 1 ∨ 8 < s) := fun hb => by
      rw [show po_asks σ t s = 2 from (if_neg (by rw [hk1]; decide)).trans (if_pos hb)] at hk; cases hk
    obtain ⟨tn, rfl, -, ht4⟩ := po_isT_nat hR.1 hk1
    obtain ⟨z, rfl, hz1, hz8⟩ := i_rng hk2
    obtain ⟨z, rfl⟩ : ∃ k, z = k + 1 := ⟨z - 1, by omega⟩
    refine ax_aload_n dX7_count_0 rfl ?_
    refine ax_iload_n dX7_count_1 rfl ?_
    refine ax_iload_n dX7_count_2 rfl ?_
    refine ax_callV (b := (A.1 0)) (av := [.int (nI tn), .int (nI (z + 1))]) (rest := []) (mc' := (rw_bC (po_wm σ (nI tn) (nI (z + 1))) R σ.1)) (ms' := (rw_bS (po_wm σ (nI tn) (nI (z + 1))) R σ.1)) dX7_count_3 rfl lkX7_140 (rw_g0 hA) rfl (Nat.le_of_ble_eq_true rfl) (Nat.le_of_ble_eq_true rfl) (by omega) (by omega) (rb_asks hA _ R h hR (nI tn) (nI (z + 1))) (fun E9 h9 q9 => by obtain ⟨R1, h1, -, -, -, -, e9, -⟩ := q9; cases e9) (fun v9 h9 q9 => ?_)
    obtain ⟨R1, h1, rfl, a1, a2, a3, e9, a4, a5⟩ := q9
    rw [if_pos hk] at e9
    cases e9
    obtain ⟨b1, b2⟩ := a4 hk
    show AW G mX7_count (d + 49) (rw_bC (po_wm σ (nI tn) (nI (z + 1))) R σ.1) (rw_bS (po_wm σ (nI tn) (nI (z + 1))) R σ.1) _ 6 [(0, .ref (A.1 0)), (1, .int (nI tn)), (2, .int (nI (z + 1)))] [.int 1] (rw_O A R1 h1) (0 + (rw_bC (po_wm σ (nI tn) (nI (z + 1))) R σ.1)) (0 + (rw_bS (po_wm σ (nI tn) (nI (z + 1))) R σ.1))
    refine ax_if_eq (tgt := 27) dX7_count_6 (by decide) (fun z => absurd z (by decide)) (fun _ => ?_)
    refine ax_aload_n dX7_count_9 rfl ?_
    refine ax_iload_n dX7_count_10 rfl ?_
    refine ax_iload_n dX7_count_11 rfl ?_
    refine ax_callV (b := (A.1 0)) (av := [.int (nI tn), .int (nI (z + 1))]) (rest := []) (mc' := 0) (ms' := 0) dX7_count_12 rfl lkX7_143 (rw_g0 hA) rfl (Nat.le_of_ble_eq_true rfl) (Nat.le_of_ble_eq_true rfl) (by omega) (by omega) (r_upTo hA _ R1 h1 b2 (tb_ok hR.1).1 (t := tn) (s := z + 1) ht4 (by omega)) (fun E9 h9 q9 => by cases q9.1) (fun v9 h9 q9 => ?_)
    obtain ⟨e9, rfl⟩ := q9
    cases e9
    show AW G mX7_count (d + 49) (rw_bC (po_wm σ (nI tn) (nI (z + 1))) R σ.1) (rw_bS (po_wm σ (nI tn) (nI (z + 1))) R σ.1) _ 15 [(0, .ref (A.1 0)), (1, .int (nI tn)), (2, .int (nI (z + 1)))] [.int (nI (sp_upto (po_T σ) tn (z + 1)))] (rw_O A R1 h1) (0 + (rw_bC (po_wm σ (nI tn) (nI (z + 1))) R σ.1)) (0 + (rw_bS (po_wm σ (nI tn) (nI (z + 1))) R σ.1))
    refine ax_aload_n dX7_count_15 rfl ?_
    refine ax_iload_n dX7_count_16 rfl ?_
    refine ax_iload_n dX7_count_17 rfl ?_
    refine ax_iconst (v := 1) dX7_count_18 (by decide) ?_
    refine ax_isub dX7_count_19 ?_
    refine ax_top (y := (nI z)) (nI_pred z) ?_
    refine ax_callV (b := (A.1 0)) (av := [.int (nI tn), .int (nI z)]) (rest := [.int (nI (sp_upto (po_T σ) tn (z + 1)))]) (mc' := 0) (ms' := 0) dX7_count_20 rfl lkX7_143 (rw_g0 hA) rfl (Nat.le_of_ble_eq_true rfl) (Nat.le_of_ble_eq_true rfl) (by omega) (by omega) (r_upTo hA _ R1 h1 b2 (tb_ok hR.1).1 (t := tn) (s := z) ht4 (by omega)) (fun E9 h9 q9 => by cases q9.1) (fun v9 h9 q9 => ?_)
    obtain ⟨e9, rfl⟩ := q9
    cases e9
    show AW G mX7_count (d + 49) (rw_bC (po_wm σ (nI tn) (nI (z + 1))) R σ.1) (rw_bS (po_wm σ (nI tn) (nI (z + 1))) R σ.1) _ 23 [(0, .ref (A.1 0)), (1, .int (nI tn)), (2, .int (nI (z + 1)))] [.int (nI (sp_upto (po_T σ) tn (z))), .int (nI (sp_upto (po_T σ) tn (z + 1)))] (rw_O A R1 h1) (0 + (rw_bC (po_wm σ (nI tn) (nI (z + 1))) R σ.1)) (0 + (rw_bS (po_wm σ (nI tn) (nI (z + 1))) R σ.1))
    refine ax_isub dX7_count_23 ?_
    refine ax_goto (tgt := 28) dX7_count_24 (by decide) ?_
    exact ax_iret (st := []) dX7_count_28 rfl rfl ⟨R1, h1, _, rfl, rfl, a1, a2, a3, fun _ => by rw [pk_sub (sp_upto_mono _ _ (by omega))]; show _ = nI (sp_upto (po_T σ) (nI tn).toNatClampNeg (nI (z + 1)).toNatClampNeg - sp_upto (po_T σ) (nI tn).toNatClampNeg ((nI (z + 1)).toNatClampNeg - 1)); rw [nI_clamp (by omega), nI_clamp (by omega)]; rfl, a5⟩
  · refine ax_aload_n dX7_count_0 rfl ?_
    refine ax_iload_n dX7_count_1 rfl ?_
    refine ax_iload_n dX7_count_2 rfl ?_
    refine ax_callV (b := (A.1 0)) (av := [.int t, .int s]) (rest := []) (mc' := (rw_bC (po_wm σ t s) R σ.1)) (ms' := (rw_bS (po_wm σ t s) R σ.1)) dX7_count_3 rfl lkX7_140 (rw_g0 hA) rfl (Nat.le_of_ble_eq_true rfl) (Nat.le_of_ble_eq_true rfl) (by omega) (by omega) (rb_asks hA _ R h hR t s) (fun E9 h9 q9 => by obtain ⟨R1, h1, -, -, -, -, e9, -⟩ := q9; cases e9) (fun v9 h9 q9 => ?_)
    obtain ⟨R1, h1, rfl, a1, a2, a3, e9, a4, a5⟩ := q9
    rw [if_neg hk] at e9
    cases e9
    show AW G mX7_count (d + 49) (rw_bC (po_wm σ t s) R σ.1) (rw_bS (po_wm σ t s) R σ.1) _ 6 [(0, .ref (A.1 0)), (1, .int t), (2, .int s)] [.int 0] (rw_O A R1 h1) (0 + (rw_bC (po_wm σ t s) R σ.1)) (0 + (rw_bS (po_wm σ t s) R σ.1))
    refine ax_if_eq (tgt := 27) dX7_count_6 (by decide) (fun _ => ?_) (fun z => absurd rfl z)
    refine ax_iconst (v := 0) dX7_count_27 (by decide) ?_
    exact ax_iret (st := []) dX7_count_28 rfl rfl ⟨R1, h1, _, rfl, rfl, a1, a2, a3, fun w => absurd w hk, a5⟩
set_option maxRecDepth 100000 in
set_option maxHeartbeats 4000000 in
theorem rb_total (hA : rw_nd A) (d : Nat) (R : rw_S) (h : ax_H) {σ : sp_St} (hR : RI A σ R h) (t : Int32) (s : Int32) : AW G mX7_total (d + 49) (rw_bC (po_wm σ t s) R σ.1) (rw_bS (po_wm σ t s) R σ.1) (rb_QW A h (po_total σ t s) (po_wm σ t s)) 0 [(0, .ref (A.1 0)), (1, .int t), (2, .int s)] [] (rw_O A R h) 0 0 := by
  by_cases hk : po_asks σ t s = 0
  · have hk1 : po_isT σ t = true := by
      cases hb : po_isT σ t with
      | true => rfl
      | false => rw [show po_asks σ t s = 1 from if_pos hb] at hk; cases hk
    have hk2 : ¬ (s < 1 ∨ 8 < s) := fun hb => by
      rw [show po_asks σ t s = 2 from (if_neg (by rw [hk1]; decide)).trans (if_pos hb)] at hk; cases hk
    obtain ⟨tn, rfl, -, ht4⟩ := po_isT_nat hR.1 hk1
    obtain ⟨z, rfl, hz1, hz8⟩ := i_rng hk2
    obtain ⟨z, rfl⟩ : ∃ k, z = k + 1 := ⟨z - 1, by omega⟩
    refine ax_aload_n dX7_total_0 rfl ?_
    refine ax_iload_n dX7_total_1 rfl ?_
    refine ax_iload_n dX7_total_2 rfl ?_
    refine ax_callV (b := (A.1 0)) (av := [.int (nI tn), .int (nI (z + 1))]) (rest := []) (mc' := (rw_bC (po_wm σ (nI tn) (nI (z + 1))) R σ.1)) (ms' := (rw_bS (po_wm σ (nI tn) (nI (z + 1))) R σ.1)) dX7_total_3 rfl lkX7_140 (rw_g0 hA) rfl (Nat.le_of_ble_eq_true rfl) (Nat.le_of_ble_eq_true rfl) (by omega) (by omega) (rb_asks hA _ R h hR (nI tn) (nI (z + 1))) (fun E9 h9 q9 => by obtain ⟨R1, h1, -, -, -, -, e9, -⟩ := q9; cases e9) (fun v9 h9 q9 => ?_)
    obtain ⟨R1, h1, rfl, a1, a2, a3, e9, a4, a5⟩ := q9
    rw [if_pos hk] at e9
    cases e9
    obtain ⟨b1, b2⟩ := a4 hk
    show AW G mX7_total (d + 49) (rw_bC (po_wm σ (nI tn) (nI (z + 1))) R σ.1) (rw_bS (po_wm σ (nI tn) (nI (z + 1))) R σ.1) _ 6 [(0, .ref (A.1 0)), (1, .int (nI tn)), (2, .int (nI (z + 1)))] [.int 1] (rw_O A R1 h1) (0 + (rw_bC (po_wm σ (nI tn) (nI (z + 1))) R σ.1)) (0 + (rw_bS (po_wm σ (nI tn) (nI (z + 1))) R σ.1))
    refine ax_if_eq (tgt := 18) dX7_total_6 (by decide) (fun z => absurd z (by decide)) (fun _ => ?_)
    refine ax_aload_n dX7_total_9 rfl ?_
    refine ax_iload_n dX7_total_10 rfl ?_
    refine ax_iload_n dX7_total_11 rfl ?_
    refine ax_callV (b := (A.1 0)) (av := [.int (nI tn), .int (nI (z + 1))]) (rest := []) (mc' := 0) (ms' := 0) dX7_total_12 rfl lkX7_143 (rw_g0 hA) rfl (Nat.le_of_ble_eq_true rfl) (Nat.le_of_ble_eq_true rfl) (by omega) (by omega) (r_upTo hA _ R1 h1 b2 (tb_ok hR.1).1 (t := tn) (s := z + 1) ht4 (by omega)) (fun E9 h9 q9 => by cases q9.1) (fun v9 h9 q9 => ?_)
    obtain ⟨e9, rfl⟩ := q9
    cases e9
    show AW G mX7_total (d + 49) (rw_bC (po_wm σ (nI tn) (nI (z + 1))) R σ.1) (rw_bS (po_wm σ (nI tn) (nI (z + 1))) R σ.1) _ 15 [(0, .ref (A.1 0)), (1, .int (nI tn)), (2, .int (nI (z + 1)))] [.int (nI (sp_upto (po_T σ) tn (z + 1)))] (rw_O A R1 h1) (0 + (rw_bC (po_wm σ (nI tn) (nI (z + 1))) R σ.1)) (0 + (rw_bS (po_wm σ (nI tn) (nI (z + 1))) R σ.1))
    refine ax_goto (tgt := 19) dX7_total_15 (by decide) ?_
    exact ax_iret (st := []) dX7_total_19 rfl rfl ⟨R1, h1, _, rfl, rfl, a1, a2, a3, fun _ => by show _ = nI (sp_upto (po_T σ) (nI tn).toNatClampNeg (nI (z + 1)).toNatClampNeg); rw [nI_clamp (by omega), nI_clamp (by omega)], a5⟩
  · refine ax_aload_n dX7_total_0 rfl ?_
    refine ax_iload_n dX7_total_1 rfl ?_
    refine ax_iload_n dX7_total_2 rfl ?_
    refine ax_callV (b := (A.1 0)) (av := [.int t, .int s]) (rest := []) (mc' := (rw_bC (po_wm σ t s) R σ.1)) (ms' := (rw_bS (po_wm σ t s) R σ.1)) dX7_total_3 rfl lkX7_140 (rw_g0 hA) rfl (Nat.le_of_ble_eq_true rfl) (Nat.le_of_ble_eq_true rfl) (by omega) (by omega) (rb_asks hA _ R h hR t s) (fun E9 h9 q9 => by obtain ⟨R1, h1, -, -, -, -, e9, -⟩ := q9; cases e9) (fun v9 h9 q9 => ?_)
    obtain ⟨R1, h1, rfl, a1, a2, a3, e9, a4, a5⟩ := q9
    rw [if_neg hk] at e9
    cases e9
    show AW G mX7_total (d + 49) (rw_bC (po_wm σ t s) R σ.1) (rw_bS (po_wm σ t s) R σ.1) _ 6 [(0, .ref (A.1 0)), (1, .int t), (2, .int s)] [.int 0] (rw_O A R1 h1) (0 + (rw_bC (po_wm σ t s) R σ.1)) (0 + (rw_bS (po_wm σ t s) R σ.1))
    refine ax_if_eq (tgt := 18) dX7_total_6 (by decide) (fun _ => ?_) (fun z => absurd rfl z)
    refine ax_iconst (v := 0) dX7_total_18 (by decide) ?_
    exact ax_iret (st := []) dX7_total_19 rfl rfl ⟨R1, h1, _, rfl, rfl, a1, a2, a3, fun w => absurd w hk, a5⟩
end RP1
