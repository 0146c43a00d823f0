/-! ===== the law's helpers ===== -/
theorem poc_inl {nm : Nat → String} {o : Nat × Int32} {v : Option Value} (h : Sum.inl v = po_oc nm o) : o.1 = 0 ∧ v = some (.int o.2) := by
  unfold po_oc at h
  by_cases h0 : o.1 = 0
  · rw [if_pos h0] at h; cases h; exact ⟨h0, rfl⟩
  · rw [if_neg h0] at h; cases h
theorem poc_inr {nm : Nat → String} {o : Nat × Int32} {E : String} (h : Sum.inr E = po_oc nm o) : o.1 ≠ 0 ∧ E = nm o.1 := by
  unfold po_oc at h
  by_cases h0 : o.1 = 0
  · rw [if_pos h0] at h; cases h
  · rw [if_neg h0] at h; cases h; exact ⟨h0, rfl⟩
theorem pl_asks (σ : sp_St) (t s : Int32) : po_asks σ t s ≤ 3 := by
  unfold po_asks
  repeat' split
  all_goals decide
theorem pl_setRange (σ : sp_St) (a b : Int32) : (po_setRange σ a b).1.1 ≤ 1 := by unfold po_setRange; split <;> exact Nat.le_of_ble_eq_true rfl
theorem pl_addType (σ : sp_St) : (po_addType σ).1.1 ≤ 1 := by unfold po_addType; split <;> exact Nat.le_of_ble_eq_true rfl
theorem pl_addCon (σ : sp_St) (t a b c k : Int32) : (po_addCon σ t a b c k).1.1 ≤ 3 := by
  unfold po_addCon
  repeat' split
  all_goals exact Nat.le_of_ble_eq_true rfl
theorem pl_count (σ : sp_St) (t s : Int32) : (po_count σ t s).1.1 ≤ 3 := pl_asks σ t s
theorem pl_total (σ : sp_St) (t s : Int32) : (po_total σ t s).1.1 ≤ 3 := pl_asks σ t s
theorem pl_against (σ : sp_St) (t p s : Int32) : (po_against σ t p s).1.1 ≤ 3 := by
  show (if po_isT σ t = false then 1 else if p < 1 ∨ 5 < p then 2 else po_asks σ t s) ≤ 3
  split
  · exact Nat.le_of_ble_eq_true rfl
  · split
    · exact Nat.le_of_ble_eq_true rfl
    · exact pl_asks σ t s
theorem pl_select (σ : sp_St) (t n : Int32) : (po_select σ t n).1.1 ≤ 2 := by
  unfold po_select
  split
  · exact Nat.le_of_ble_eq_true rfl
  · split
    · exact Nat.le_of_ble_eq_true rfl
    · split
      · show (if po_H σ = 8 then 1 else 2) ≤ 2
        split <;> exact Nat.le_of_ble_eq_true rfl
      · show 0 ≤ 2
        exact Nat.zero_le _
theorem pl_draw (σ : sp_St) (t s : Int32) (zs : Int64) : (po_draw σ t s zs).1.1 ≤ 4 := by
  unfold po_draw
  split
  · exact Nat.le_trans (pl_asks σ t s) (by decide)
  · split
    · exact Nat.le_of_ble_eq_true rfl
    · show 0 ≤ 4
      exact Nat.zero_le _
theorem pl_tell (σ : sp_St) (c : Int32) : (po_tell σ c).1.1 ≤ 2 := by
  unfold po_tell
  repeat' split
  all_goals exact Nat.le_of_ble_eq_true rfl
theorem pl_read (σ : sp_St) (t : Int32) : (po_read σ t).1.1 ≤ 2 := by
  unfold po_read
  repeat' split
  all_goals exact Nat.le_of_ble_eq_true rfl
theorem pl_sel {σ : sp_St} {f : Nat → po_R} {m : Nat} (hm : 1 ≤ m) (hf : ∀ v, (f v).1.1 ≤ m) : (po_sel σ f).1.1 ≤ m := by
  unfold po_sel
  split
  · exact hm
  · exact hf _
theorem pl_length (σ : sp_St) : (po_length σ).1.1 ≤ 1 := pl_sel (by decide) (fun v => Nat.zero_le _)
theorem pl_number (σ : sp_St) : (po_number σ).1.1 ≤ 1 := pl_sel (by decide) (fun v => Nat.zero_le _)
theorem pl_height (σ : sp_St) : (po_height σ).1.1 ≤ 1 := pl_sel (by decide) (fun v => Nat.zero_le _)
theorem pl_redCount (σ : sp_St) : (po_redCount σ).1.1 ≤ 1 := pl_sel (by decide) (fun v => Nat.zero_le _)
theorem pl_code (σ : sp_St) (q : Int32) : (po_code σ q).1.1 ≤ 2 := pl_sel (by decide) (fun v => by
  split
  · exact Nat.le_of_ble_eq_true rfl
  · exact Nat.zero_le _)
theorem pl_holds (σ : sp_St) (q : Int32) : (po_holds σ q).1.1 ≤ 2 := pl_sel (by decide) (fun v => by
  split
  · exact Nat.le_of_ble_eq_true rfl
  · exact Nat.zero_le _)
theorem pl_reduction (σ : sp_St) (q : Int32) : (po_reduction σ q).1.1 ≤ 2 := pl_sel (by decide) (fun v => by
  split
  · exact Nat.le_of_ble_eq_true rfl
  · exact Nat.zero_le _)
theorem pl_reduce (σ : sp_St) (q : Int32) : (po_reduce σ q).1.1 ≤ 2 := pl_sel (by decide) (fun v => by
  split
  · exact Nat.le_of_ble_eq_true rfl
  · exact Nat.zero_le _)
theorem ax_dast {G : ax_G} {M : ax_M} {d mc ms : Nat} {Q : ax_P} {pc : Nat} {lv : ax_L} {st : List Value} {h : ax_H} {cn sn : Nat} {a n : Nat} {f : Nat → UInt64} {i : Int32} {x : UInt64} (hd : decode M.2.1 pc = .ok (.dastore, 1)) (ha : h a = some (.inl (2, n, .inr (.inr (.inr (.inl f)))))) (hi : vp_in i n) (k : AW G M d mc ms Q (pc + 1) lv st (va_up h a (some (.inl (2, n, .inr (.inr (.inr (.inl (vf_upd f i.toNatClampNeg x)))))))) cn sn) : AW G M d mc ms Q pc lv (.double x :: .int i :: .ref a :: st) h cn sn := by
  intro p e s m args below meth c R H locs ls E Rm Fx Hp hS hl hc hs
  obtain ⟨L, hL, hP, hD⟩ := id Hp
  obtain ⟨q0, hq⟩ := ax_get0 (kc := G.2.2.1) hL ha
  exact va_dast (cA := G.2.2.1 2) E.1 E.2.1 Fx.1 hP hD hS q0 2 hq rfl hi hd (fun H1 locs1 hP1 hD1 hS1 => k p e s m args below meth c R H1 locs1 ls E Rm Fx (ax_put0 hL hD (.inl (2, n, .inr (.inr (.inr (.inl (vf_upd f i.toNatClampNeg x)))))) ha hq hP1 hD1) hS1 hl hc hs)
section HLP
variable {G : ax_G} {ad : cs_K → Nat}

set_option maxRecDepth 100000 in
set_option maxHeartbeats 4000000 in
theorem lh_setRange (hi : cs_inj ad) (d : Nat) (S : cs_S) (hh : ax_H) {σ : sp_St} (hC : CI σ S) (a : Int32) (b : Int32) {ou : Nat} {f : Nat → Int64} (hou : ∀ S, cs_O ad S hh ou = (some (.inl (1, 1, .inr (.inl f))))) {Q : ax_P} (hq0 : ∀ S', CI (po_setRange σ a b).2 S' → (po_setRange σ a b).1.1 = 0 → Q (.inl (some (.int 0))) (va_up (cs_O ad S' hh) ou (some (.inl (1, 1, .inr (.inl (vp_updL f 0 (if (po_setRange σ a b).1.2 = 0 then 0 else 1)))))))) (hq1 : ∀ S', CI (po_setRange σ a b).2 S' → (po_setRange σ a b).1.1 ≠ 0 → Q (.inl (some (.int (nI (po_setRange σ a b).1.1)))) (cs_O ad S' hh)) : AW G mL_setRange (d + 17) 1 6 Q 0 [(0, .ref (ad (0, 0))), (1, .int a), (2, .int b), (3, .ref ou)] [] (cs_O ad S hh) 0 0 := by
  refine ax_aload_n dL_setRange_0 rfl ?_
  refine ax_iconst (v := 0) dL_setRange_1 (by decide) ?_
  refine ax_aload_n dL_setRange_2 rfl ?_
  refine ax_iload_n dL_setRange_3 rfl ?_
  refine ax_iload_n dL_setRange_4 rfl ?_
  refine ax_callVc (b := ad (0, 0)) (av := [.int a, .int b]) (rest := [.int 0, .ref ou]) (mc' := 1) (ms' := 6) dL_setRange_5 lkL_7 (cs_get hi (cs_k0 (by decide))) rfl (Nat.le_of_ble_eq_true rfl) (Nat.le_of_ble_eq_true rfl) (by decide) (by decide) (pb_setRange hi d S hh hC a b) (fun E9 h9 q9 => ?_) (fun v9 h9 q9 => ?_)
  · obtain ⟨e9, S', rfl, hC'⟩ := q9
    obtain ⟨n0, nE⟩ := poc_inr e9
    have hle := pl_setRange σ a b
    rcases (show (po_setRange σ a b).1.1 = 1 by omega) with z
    · rw [z] at nE
      subst nE
      refine ⟨20, hdL_setRange_IAE, fun q => ?_⟩
      refine ax_astore dL_setRange_20 (by decide) ?_
      refine ax_iconst (v := 1) dL_setRange_22 (by decide) ?_
      have := hq1 S' hC' n0
      rw [z] at this
      exact ax_iret (st := []) dL_setRange_23 rfl rfl this
  · obtain ⟨e9, S', rfl, hC'⟩ := q9
    obtain ⟨z0, rfl⟩ := poc_inl e9
    refine ax_if_eq (tgt := 15) dL_setRange_8 (by decide) (fun b0 => ?_) (fun b0 => ?_)
    · refine ax_lconst (v := 0) dL_setRange_15 (by decide) ?_
      refine ax_last dL_setRange_16 (hou S') (by unfold vp_in; decide) ?_
      refine ax_goto (tgt := 24) dL_setRange_17 (by decide) ?_
      refine ax_iconst (v := 0) dL_setRange_24 (by decide) ?_
      have := hq0 S' hC' z0
      rw [if_pos b0] at this
      exact ax_iret (st := []) dL_setRange_25 rfl rfl this
    · refine ax_lconst (v := 1) dL_setRange_11 (by decide) ?_
      refine ax_goto (tgt := 16) dL_setRange_12 (by decide) ?_
      refine ax_last dL_setRange_16 (hou S') (by unfold vp_in; decide) ?_
      refine ax_goto (tgt := 24) dL_setRange_17 (by decide) ?_
      refine ax_iconst (v := 0) dL_setRange_24 (by decide) ?_
      have := hq0 S' hC' z0
      rw [if_neg b0] at this
      exact ax_iret (st := []) dL_setRange_25 rfl rfl this
set_option maxRecDepth 100000 in
set_option maxHeartbeats 4000000 in
theorem lh_addType (hi : cs_inj ad) (d : Nat) (S : cs_S) (hh : ax_H) {σ : sp_St} (hC : CI σ S)  {ou : Nat} {f : Nat → Int64} (hou : ∀ S, cs_O ad S hh ou = (some (.inl (1, 1, .inr (.inl f))))) {Q : ax_P} (hq0 : ∀ S', CI (po_addType σ).2 S' → (po_addType σ).1.1 = 0 → Q (.inl (some (.int 0))) (va_up (cs_O ad S' hh) ou (some (.inl (1, 1, .inr (.inl (vp_updL f 0 ((po_addType σ).1.2.toInt64)))))))) (hq1 : ∀ S', CI (po_addType σ).2 S' → (po_addType σ).1.1 ≠ 0 → Q (.inl (some (.int (nI (po_addType σ).1.1)))) (cs_O ad S' hh)) : AW G mL_addType (d + 17) 1 6 Q 0 [(0, .ref (ad (0, 0))), (1, .ref ou)] [] (cs_O ad S hh) 0 0 := by
  refine ax_aload_n dL_addType_0 rfl ?_
  refine ax_iconst (v := 0) dL_addType_1 (by decide) ?_
  refine ax_aload_n dL_addType_2 rfl ?_
  refine ax_callVc (b := ad (0, 0)) (av := []) (rest := [.int 0, .ref ou]) (mc' := 1) (ms' := 6) dL_addType_3 lkL_15 (cs_get hi (cs_k0 (by decide))) rfl (Nat.le_of_ble_eq_true rfl) (Nat.le_of_ble_eq_true rfl) (by decide) (by decide) (pb_addType hi d S hh hC ) (fun E9 h9 q9 => ?_) (fun v9 h9 q9 => ?_)
  · obtain ⟨e9, S', rfl, hC'⟩ := q9
    obtain ⟨n0, nE⟩ := poc_inr e9
    have hle := pl_addType σ 
    rcases (show (po_addType σ).1.1 = 1 by omega) with z
    · rw [z] at nE
      subst nE
      refine ⟨11, hdL_addType_ISE, fun q => ?_⟩
      refine ax_astore_n dL_addType_11 (by decide) ?_
      refine ax_iconst (v := 1) dL_addType_12 (by decide) ?_
      have := hq1 S' hC' n0
      rw [z] at this
      exact ax_iret (st := []) dL_addType_13 rfl rfl this
  · obtain ⟨e9, S', rfl, hC'⟩ := q9
    obtain ⟨z0, rfl⟩ := poc_inl e9
    refine ax_i2l dL_addType_6 ?_
    refine ax_last dL_addType_7 (hou S') (by unfold vp_in; decide) ?_
    refine ax_goto (tgt := 14) dL_addType_8 (by decide) ?_
    refine ax_iconst (v := 0) dL_addType_14 (by decide) ?_
    have := hq0 S' hC' z0
    exact ax_iret (st := []) dL_addType_15 rfl rfl this
set_option maxRecDepth 100000 in
set_option maxHeartbeats 4000000 in
theorem lh_addCon (hi : cs_inj ad) (d : Nat) (S : cs_S) (hh : ax_H) {σ : sp_St} (hC : CI σ S) (t : Int32) (a : Int32) (b : Int32) (c : Int32) (k : Int32) {ou : Nat} {f : Nat → Int64} (hou : ∀ S, cs_O ad S hh ou = (some (.inl (1, 1, .inr (.inl f))))) {Q : ax_P} (hq0 : ∀ S', CI (po_addCon σ t a b c k).2 S' → (po_addCon σ t a b c k).1.1 = 0 → Q (.inl (some (.int 0))) (va_up (cs_O ad S' hh) ou (some (.inl (1, 1, .inr (.inl (vp_updL f 0 ((po_addCon σ t a b c k).1.2.toInt64)))))))) (hq1 : ∀ S', CI (po_addCon σ t a b c k).2 S' → (po_addCon σ t a b c k).1.1 ≠ 0 → Q (.inl (some (.int (nI (po_addCon σ t a b c k).1.1)))) (cs_O ad S' hh)) : AW G mL_addConstructor (d + 17) 1 6 Q 0 [(0, .ref (ad (0, 0))), (1, .int t), (2, .int a), (3, .int b), (4, .int c), (5, .int k), (6, .ref ou)] [] (cs_O ad S hh) 0 0 := by
  refine ax_aload dL_addConstructor_0 rfl ?_
  refine ax_iconst (v := 0) dL_addConstructor_2 (by decide) ?_
  refine ax_aload_n dL_addConstructor_3 rfl ?_
  refine ax_iload_n dL_addConstructor_4 rfl ?_
  refine ax_iload_n dL_addConstructor_5 rfl ?_
  refine ax_iload_n dL_addConstructor_6 rfl ?_
  refine ax_iload dL_addConstructor_7 rfl ?_
  refine ax_iload dL_addConstructor_9 rfl ?_
  refine ax_callVc (b := ad (0, 0)) (av := [.int t, .int a, .int b, .int c, .int k]) (rest := [.int 0, .ref ou]) (mc' := 1) (ms' := 6) dL_addConstructor_11 lkL_21 (cs_get hi (cs_k0 (by decide))) rfl (Nat.le_of_ble_eq_true rfl) (Nat.le_of_ble_eq_true rfl) (by decide) (by decide) (pb_addCon hi d S hh hC t a b c k) (fun E9 h9 q9 => ?_) (fun v9 h9 q9 => ?_)
  · obtain ⟨e9, S', rfl, hC'⟩ := q9
    obtain ⟨n0, nE⟩ := poc_inr e9
    have hle := pl_addCon σ t a b c k
    rcases (show (po_addCon σ t a b c k).1.1 = 1 ∨ (po_addCon σ t a b c k).1.1 = 2 ∨ (po_addCon σ t a b c k).1.1 = 3 by omega) with z | z | z
    · rw [z] at nE
      subst nE
      refine ⟨19, hdL_addConstructor_IOB, fun q => ?_⟩
      refine ax_astore dL_addConstructor_19 (by decide) ?_
      refine ax_iconst (v := 1) dL_addConstructor_21 (by decide) ?_
      have := hq1 S' hC' n0
      rw [z] at this
      exact ax_iret (st := []) dL_addConstructor_22 rfl rfl this
    · rw [z] at nE
      subst nE
      refine ⟨23, hdL_addConstructor_IAE, fun q => ?_⟩
      refine ax_astore dL_addConstructor_23 (by decide) ?_
      refine ax_iconst (v := 2) dL_addConstructor_25 (by decide) ?_
      have := hq1 S' hC' n0
      rw [z] at this
      exact ax_iret (st := []) dL_addConstructor_26 rfl rfl this
    · rw [z] at nE
      subst nE
      refine ⟨27, hdL_addConstructor_ISE, fun q => ?_⟩
      refine ax_astore dL_addConstructor_27 (by decide) ?_
      refine ax_iconst (v := 3) dL_addConstructor_29 (by decide) ?_
      have := hq1 S' hC' n0
      rw [z] at this
      exact ax_iret (st := []) dL_addConstructor_30 rfl rfl this
  · obtain ⟨e9, S', rfl, hC'⟩ := q9
    obtain ⟨z0, rfl⟩ := poc_inl e9
    refine ax_i2l dL_addConstructor_14 ?_
    refine ax_last dL_addConstructor_15 (hou S') (by unfold vp_in; decide) ?_
    refine ax_goto (tgt := 31) dL_addConstructor_16 (by decide) ?_
    refine ax_iconst (v := 0) dL_addConstructor_31 (by decide) ?_
    have := hq0 S' hC' z0
    exact ax_iret (st := []) dL_addConstructor_32 rfl rfl this
set_option maxRecDepth 100000 in
set_option maxHeartbeats 4000000 in
theorem lh_count (hi : cs_inj ad) (d : Nat) (S : cs_S) (hh : ax_H) {σ : sp_St} (hC : CI σ S) (t : Int32) (s : Int32) {ou : Nat} {f : Nat → Int64} (hou : ∀ S, cs_O ad S hh ou = (some (.inl (1, 1, .inr (.inl f))))) {Q : ax_P} (hq0 : ∀ S', CI (po_count σ t s).2 S' → (po_count σ t s).1.1 = 0 → Q (.inl (some (.int 0))) (va_up (cs_O ad S' hh) ou (some (.inl (1, 1, .inr (.inl (vp_updL f 0 ((po_count σ t s).1.2.toInt64)))))))) (hq1 : ∀ S', CI (po_count σ t s).2 S' → (po_count σ t s).1.1 ≠ 0 → Q (.inl (some (.int (nI (po_count σ t s).1.1)))) (cs_O ad S' hh)) : AW G mL_count (d + 17) 1 6 Q 0 [(0, .ref (ad (0, 0))), (1, .int t), (2, .int s), (3, .ref ou)] [] (cs_O ad S hh) 0 0 := by
  refine ax_aload_n dL_count_0 rfl ?_
  refine ax_iconst (v := 0) dL_count_1 (by decide) ?_
  refine ax_aload_n dL_count_2 rfl ?_
  refine ax_iload_n dL_count_3 rfl ?_
  refine ax_iload_n dL_count_4 rfl ?_
  refine ax_callVc (b := ad (0, 0)) (av := [.int t, .int s]) (rest := [.int 0, .ref ou]) (mc' := 1) (ms' := 6) dL_count_5 lkL_27 (cs_get hi (cs_k0 (by decide))) rfl (Nat.le_of_ble_eq_true rfl) (Nat.le_of_ble_eq_true rfl) (by decide) (by decide) (pb_count hi d S hh hC t s) (fun E9 h9 q9 => ?_) (fun v9 h9 q9 => ?_)
  · obtain ⟨e9, S', rfl, hC'⟩ := q9
    obtain ⟨n0, nE⟩ := poc_inr e9
    have hle := pl_count σ t s
    rcases (show (po_count σ t s).1.1 = 1 ∨ (po_count σ t s).1.1 = 2 ∨ (po_count σ t s).1.1 = 3 by omega) with z | z | z
    · rw [z] at nE
      subst nE
      refine ⟨13, hdL_count_IOB, fun q => ?_⟩
      refine ax_astore dL_count_13 (by decide) ?_
      refine ax_iconst (v := 1) dL_count_15 (by decide) ?_
      have := hq1 S' hC' n0
      rw [z] at this
      exact ax_iret (st := []) dL_count_16 rfl rfl this
    · rw [z] at nE
      subst nE
      refine ⟨17, hdL_count_IAE, fun q => ?_⟩
      refine ax_astore dL_count_17 (by decide) ?_
      refine ax_iconst (v := 2) dL_count_19 (by decide) ?_
      have := hq1 S' hC' n0
      rw [z] at this
      exact ax_iret (st := []) dL_count_20 rfl rfl this
    · rw [z] at nE
      subst nE
      refine ⟨21, hdL_count_ISE, fun q => ?_⟩
      refine ax_astore dL_count_21 (by decide) ?_
      refine ax_iconst (v := 3) dL_count_23 (by decide) ?_
      have := hq1 S' hC' n0
      rw [z] at this
      exact ax_iret (st := []) dL_count_24 rfl rfl this
  · obtain ⟨e9, S', rfl, hC'⟩ := q9
    obtain ⟨z0, rfl⟩ := poc_inl e9
    refine ax_i2l dL_count_8 ?_
    refine ax_last dL_count_9 (hou S') (by unfold vp_in; decide) ?_
    refine ax_goto (tgt := 25) dL_count_10 (by decide) ?_
    refine ax_iconst (v := 0) dL_count_25 (by decide) ?_
    have := hq0 S' hC' z0
    exact ax_iret (st := []) dL_count_26 rfl rfl this
set_option maxRecDepth 100000 in
set_option maxHeartbeats 4000000 in
theorem lh_total (hi : cs_inj ad) (d : Nat) (S : cs_S) (hh : ax_H) {σ : sp_St} (hC : CI σ S) (t : Int32) (s : Int32) {ou : Nat} {f : Nat → Int64} (hou : ∀ S, cs_O ad S hh ou = (some (.inl (1, 1, .inr (.inl f))))) {Q : ax_P} (hq0 : ∀ S', CI (po_total σ t s).2 S' → (po_total σ t s).1.1 = 0 → Q (.inl (some (.int 0))) (va_up (cs_O ad S' hh) ou (some (.inl (1, 1, .inr (.inl (vp_updL f 0 ((po_total σ t s).1.2.toInt64)))))))) (hq1 : ∀ S', CI (po_total σ t s).2 S' → (po_total σ t s).1.1 ≠ 0 → Q (.inl (some (.int (nI (po_total σ t s).1.1)))) (cs_O ad S' hh)) : AW G mL_total (d + 17) 1 6 Q 0 [(0, .ref (ad (0, 0))), (1, .int t), (2, .int s), (3, .ref ou)] [] (cs_O ad S hh) 0 0 := by
  refine ax_aload_n dL_total_0 rfl ?_
  refine ax_iconst (v := 0) dL_total_1 (by decide) ?_
  refine ax_aload_n dL_total_2 rfl ?_
  refine ax_iload_n dL_total_3 rfl ?_
  refine ax_iload_n dL_total_4 rfl ?_
  refine ax_callVc (b := ad (0, 0)) (av := [.int t, .int s]) (rest := [.int 0, .ref ou]) (mc' := 1) (ms' := 6) dL_total_5 lkL_31 (cs_get hi (cs_k0 (by decide))) rfl (Nat.le_of_ble_eq_true rfl) (Nat.le_of_ble_eq_true rfl) (by decide) (by decide) (pb_total hi d S hh hC t s) (fun E9 h9 q9 => ?_) (fun v9 h9 q9 => ?_)
  · obtain ⟨e9, S', rfl, hC'⟩ := q9
    obtain ⟨n0, nE⟩ := poc_inr e9
    have hle := pl_total σ t s
    rcases (show (po_total σ t s).1.1 = 1 ∨ (po_total σ t s).1.1 = 2 ∨ (po_total σ t s).1.1 = 3 by omega) with z | z | z
    · rw [z] at nE
      subst nE
      refine ⟨13, hdL_total_IOB, fun q => ?_⟩
      refine ax_astore dL_total_13 (by decide) ?_
      refine ax_iconst (v := 1) dL_total_15 (by decide) ?_
      have := hq1 S' hC' n0
      rw [z] at this
      exact ax_iret (st := []) dL_total_16 rfl rfl this
    · rw [z] at nE
      subst nE
      refine ⟨17, hdL_total_IAE, fun q => ?_⟩
      refine ax_astore dL_total_17 (by decide) ?_
      refine ax_iconst (v := 2) dL_total_19 (by decide) ?_
      have := hq1 S' hC' n0
      rw [z] at this
      exact ax_iret (st := []) dL_total_20 rfl rfl this
    · rw [z] at nE
      subst nE
      refine ⟨21, hdL_total_ISE, fun q => ?_⟩
      refine ax_astore dL_total_21 (by decide) ?_
      refine ax_iconst (v := 3) dL_total_23 (by decide) ?_
      have := hq1 S' hC' n0
      rw [z] at this
      exact ax_iret (st := []) dL_total_24 rfl rfl this
  · obtain ⟨e9, S', rfl, hC'⟩ := q9
    obtain ⟨z0, rfl⟩ := poc_inl e9
    refine ax_i2l dL_total_8 ?_
    refine ax_last dL_total_9 (hou S') (by unfold vp_in; decide) ?_
    refine ax_goto (tgt := 25) dL_total_10 (by decide) ?_
    refine ax_iconst (v := 0) dL_total_25 (by decide) ?_
    have := hq0 S' hC' z0
    exact ax_iret (st := []) dL_total_26 rfl rfl this
set_option maxRecDepth 100000 in
set_option maxHeartbeats 4000000 in
theorem lh_against (hi : cs_inj ad) (d : Nat) (S : cs_S) (hh : ax_H) {σ : sp_St} (hC : CI σ S) (t : Int32) (p : Int32) (s : Int32) {ou : Nat} {f : Nat → Int64} (hou : ∀ S, cs_O ad S hh ou = (some (.inl (1, 1, .inr (.inl f))))) {Q : ax_P} (hq0 : ∀ S', CI (po_against σ t p s).2 S' → (po_against σ t p s).1.1 = 0 → Q (.inl (some (.int 0))) (va_up (cs_O ad S' hh) ou (some (.inl (1, 1, .inr (.inl (vp_updL f 0 ((po_against σ t p s).1.2.toInt64)))))))) (hq1 : ∀ S', CI (po_against σ t p s).2 S' → (po_against σ t p s).1.1 ≠ 0 → Q (.inl (some (.int (nI (po_against σ t p s).1.1)))) (cs_O ad S' hh)) : AW G mL_firstAgainst (d + 17) 1 6 Q 0 [(0, .ref (ad (0, 0))), (1, .int t), (2, .int p), (3, .int s), (4, .ref ou)] [] (cs_O ad S hh) 0 0 := by
  refine ax_aload dL_firstAgainst_0 rfl ?_
  refine ax_iconst (v := 0) dL_firstAgainst_2 (by decide) ?_
  refine ax_aload_n dL_firstAgainst_3 rfl ?_
  refine ax_iload_n dL_firstAgainst_4 rfl ?_
  refine ax_iload_n dL_firstAgainst_5 rfl ?_
  refine ax_iload_n dL_firstAgainst_6 rfl ?_
  refine ax_callVc (b := ad (0, 0)) (av := [.int t, .int p, .int s]) (rest := [.int 0, .ref ou]) (mc' := 1) (ms' := 6) dL_firstAgainst_7 lkL_34 (cs_get hi (cs_k0 (by decide))) rfl (Nat.le_of_ble_eq_true rfl) (Nat.le_of_ble_eq_true rfl) (by decide) (by decide) (pb_against hi d S hh hC t p s) (fun E9 h9 q9 => ?_) (fun v9 h9 q9 => ?_)
  · obtain ⟨e9, S', rfl, hC'⟩ := q9
    obtain ⟨n0, nE⟩ := poc_inr e9
    have hle := pl_against σ t p s
    rcases (show (po_against σ t p s).1.1 = 1 ∨ (po_against σ t p s).1.1 = 2 ∨ (po_against σ t p s).1.1 = 3 by omega) with z | z | z
    · rw [z] at nE
      subst nE
      refine ⟨15, hdL_firstAgainst_IOB, fun q => ?_⟩
      refine ax_astore dL_firstAgainst_15 (by decide) ?_
      refine ax_iconst (v := 1) dL_firstAgainst_17 (by decide) ?_
      have := hq1 S' hC' n0
      rw [z] at this
      exact ax_iret (st := []) dL_firstAgainst_18 rfl rfl this
    · rw [z] at nE
      subst nE
      refine ⟨19, hdL_firstAgainst_IAE, fun q => ?_⟩
      refine ax_astore dL_firstAgainst_19 (by decide) ?_
      refine ax_iconst (v := 2) dL_firstAgainst_21 (by decide) ?_
      have := hq1 S' hC' n0
      rw [z] at this
      exact ax_iret (st := []) dL_firstAgainst_22 rfl rfl this
    · rw [z] at nE
      subst nE
      refine ⟨23, hdL_firstAgainst_ISE, fun q => ?_⟩
      refine ax_astore dL_firstAgainst_23 (by decide) ?_
      refine ax_iconst (v := 3) dL_firstAgainst_25 (by decide) ?_
      have := hq1 S' hC' n0
      rw [z] at this
      exact ax_iret (st := []) dL_firstAgainst_26 rfl rfl this
  · obtain ⟨e9, S', rfl, hC'⟩ := q9
    obtain ⟨z0, rfl⟩ := poc_inl e9
    refine ax_i2l dL_firstAgainst_10 ?_
    refine ax_last dL_firstAgainst_11 (hou S') (by unfold vp_in; decide) ?_
    refine ax_goto (tgt := 27) dL_firstAgainst_12 (by decide) ?_
    refine ax_iconst (v := 0) dL_firstAgainst_27 (by decide) ?_
    have := hq0 S' hC' z0
    exact ax_iret (st := []) dL_firstAgainst_28 rfl rfl this
set_option maxRecDepth 100000 in
set_option maxHeartbeats 4000000 in
theorem lh_select (hi : cs_inj ad) (d : Nat) (S : cs_S) (hh : ax_H) {σ : sp_St} (hC : CI σ S) (t : Int32) (n : Int32) {ou : Nat} {f : Nat → Int64} (hou : ∀ S, cs_O ad S hh ou = (some (.inl (1, 1, .inr (.inl f))))) {Q : ax_P} (hq0 : ∀ S', CI (po_select σ t n).2 S' → (po_select σ t n).1.1 = 0 → Q (.inl (some (.int 0))) (va_up (cs_O ad S' hh) ou (some (.inl (1, 1, .inr (.inl (vp_updL f 0 ((po_select σ t n).1.2.toInt64)))))))) (hq1 : ∀ S', CI (po_select σ t n).2 S' → (po_select σ t n).1.1 ≠ 0 → Q (.inl (some (.int (nI (po_select σ t n).1.1)))) (cs_O ad S' hh)) : AW G mL_select (d + 17) 1 6 Q 0 [(0, .ref (ad (0, 0))), (1, .int t), (2, .int n), (3, .ref ou)] [] (cs_O ad S hh) 0 0 := by
  refine ax_aload_n dL_select_0 rfl ?_
  refine ax_iconst (v := 0) dL_select_1 (by decide) ?_
  refine ax_aload_n dL_select_2 rfl ?_
  refine ax_iload_n dL_select_3 rfl ?_
  refine ax_iload_n dL_select_4 rfl ?_
  refine ax_callVc (b := ad (0, 0)) (av := [.int t, .int n]) (rest := [.int 0, .ref ou]) (mc' := 1) (ms' := 6) dL_select_5 lkL_38 (cs_get hi (cs_k0 (by decide))) rfl (Nat.le_of_ble_eq_true rfl) (Nat.le_of_ble_eq_true rfl) (by decide) (by decide) (pb_select hi d S hh hC t n) (fun E9 h9 q9 => ?_) (fun v9 h9 q9 => ?_)
  · obtain ⟨e9, S', rfl, hC'⟩ := q9
    obtain ⟨n0, nE⟩ := poc_inr e9
    have hle := pl_select σ t n
    rcases (show (po_select σ t n).1.1 = 1 ∨ (po_select σ t n).1.1 = 2 by omega) with z | z
    · rw [z] at nE
      subst nE
      refine ⟨13, hdL_select_IOB, fun q => ?_⟩
      refine ax_astore dL_select_13 (by decide) ?_
      refine ax_iconst (v := 1) dL_select_15 (by decide) ?_
      have := hq1 S' hC' n0
      rw [z] at this
      exact ax_iret (st := []) dL_select_16 rfl rfl this
    · rw [z] at nE
      subst nE
      refine ⟨17, hdL_select_ISE, fun q => ?_⟩
      refine ax_astore dL_select_17 (by decide) ?_
      refine ax_iconst (v := 2) dL_select_19 (by decide) ?_
      have := hq1 S' hC' n0
      rw [z] at this
      exact ax_iret (st := []) dL_select_20 rfl rfl this
  · obtain ⟨e9, S', rfl, hC'⟩ := q9
    obtain ⟨z0, rfl⟩ := poc_inl e9
    refine ax_i2l dL_select_8 ?_
    refine ax_last dL_select_9 (hou S') (by unfold vp_in; decide) ?_
    refine ax_goto (tgt := 21) dL_select_10 (by decide) ?_
    refine ax_iconst (v := 0) dL_select_21 (by decide) ?_
    have := hq0 S' hC' z0
    exact ax_iret (st := []) dL_select_22 rfl rfl this
set_option maxRecDepth 100000 in
set_option maxHeartbeats 4000000 in
theorem lh_draw (hi : cs_inj ad) (d : Nat) (S : cs_S) (hh : ax_H) {σ : sp_St} (hC : CI σ S) (t : Int32) (s : Int32) (zs : Int64) {ou : Nat} {f : Nat → Int64} (hou : ∀ S, cs_O ad S hh ou = (some (.inl (1, 1, .inr (.inl f))))) {Q : ax_P} (hq0 : ∀ S', CI (po_draw σ t s zs).2 S' → (po_draw σ t s zs).1.1 = 0 → Q (.inl (some (.int 0))) (va_up (cs_O ad S' hh) ou (some (.inl (1, 1, .inr (.inl (vp_updL f 0 ((po_draw σ t s zs).1.2.toInt64)))))))) (hq1 : ∀ S', CI (po_draw σ t s zs).2 S' → (po_draw σ t s zs).1.1 ≠ 0 → Q (.inl (some (.int (nI (po_draw σ t s zs).1.1)))) (cs_O ad S' hh)) : AW G mL_draw (d + 17) 1 6 Q 0 [(0, .ref (ad (0, 0))), (1, .int t), (2, .int s), (3, .long zs), (5, .ref ou)] [] (cs_O ad S hh) 0 0 := by
  refine ax_aload dL_draw_0 rfl ?_
  refine ax_iconst (v := 0) dL_draw_2 (by decide) ?_
  refine ax_aload_n dL_draw_3 rfl ?_
  refine ax_iload_n dL_draw_4 rfl ?_
  refine ax_iload_n dL_draw_5 rfl ?_
  refine ax_lload_n dL_draw_6 rfl ?_
  refine ax_callVc (b := ad (0, 0)) (av := [.int t, .int s, .long zs]) (rest := [.int 0, .ref ou]) (mc' := 1) (ms' := 6) dL_draw_7 lkL_41 (cs_get hi (cs_k0 (by decide))) rfl (Nat.le_of_ble_eq_true rfl) (Nat.le_of_ble_eq_true rfl) (by decide) (by decide) (pb_draw hi d S hh hC t s zs) (fun E9 h9 q9 => ?_) (fun v9 h9 q9 => ?_)
  · obtain ⟨e9, S', rfl, hC'⟩ := q9
    obtain ⟨n0, nE⟩ := poc_inr e9
    have hle := pl_draw σ t s zs
    rcases (show (po_draw σ t s zs).1.1 = 1 ∨ (po_draw σ t s zs).1.1 = 2 ∨ (po_draw σ t s zs).1.1 = 3 ∨ (po_draw σ t s zs).1.1 = 4 by omega) with z | z | z | z
    · rw [z] at nE
      subst nE
      refine ⟨15, hdL_draw_IOB, fun q => ?_⟩
      refine ax_astore dL_draw_15 (by decide) ?_
      refine ax_iconst (v := 1) dL_draw_17 (by decide) ?_
      have := hq1 S' hC' n0
      rw [z] at this
      exact ax_iret (st := []) dL_draw_18 rfl rfl this
    · rw [z] at nE
      subst nE
      refine ⟨19, hdL_draw_IAE, fun q => ?_⟩
      refine ax_astore dL_draw_19 (by decide) ?_
      refine ax_iconst (v := 2) dL_draw_21 (by decide) ?_
      have := hq1 S' hC' n0
      rw [z] at this
      exact ax_iret (st := []) dL_draw_22 rfl rfl this
    · rw [z] at nE
      subst nE
      refine ⟨23, hdL_draw_ISE, fun q => ?_⟩
      refine ax_astore dL_draw_23 (by decide) ?_
      refine ax_iconst (v := 3) dL_draw_25 (by decide) ?_
      have := hq1 S' hC' n0
      rw [z] at this
      exact ax_iret (st := []) dL_draw_26 rfl rfl this
    · rw [z] at nE
      subst nE
      refine ⟨27, hdL_draw_NSE, fun q => ?_⟩
      refine ax_astore dL_draw_27 (by decide) ?_
      refine ax_iconst (v := 4) dL_draw_29 (by decide) ?_
      have := hq1 S' hC' n0
      rw [z] at this
      exact ax_iret (st := []) dL_draw_30 rfl rfl this
  · obtain ⟨e9, S', rfl, hC'⟩ := q9
    obtain ⟨z0, rfl⟩ := poc_inl e9
    refine ax_i2l dL_draw_10 ?_
    refine ax_last dL_draw_11 (hou S') (by unfold vp_in; decide) ?_
    refine ax_goto (tgt := 31) dL_draw_12 (by decide) ?_
    refine ax_iconst (v := 0) dL_draw_31 (by decide) ?_
    have := hq0 S' hC' z0
    exact ax_iret (st := []) dL_draw_32 rfl rfl this
set_option maxRecDepth 100000 in
set_option maxHeartbeats 4000000 in
theorem lh_tell (hi : cs_inj ad) (d : Nat) (S : cs_S) (hh : ax_H) {σ : sp_St} (hC : CI σ S) (c : Int32) {ou : Nat} {f : Nat → Int64} (hou : ∀ S, cs_O ad S hh ou = (some (.inl (1, 1, .inr (.inl f))))) {Q : ax_P} (hq0 : ∀ S', CI (po_tell σ c).2 S' → (po_tell σ c).1.1 = 0 → Q (.inl (some (.int 0))) (va_up (cs_O ad S' hh) ou (some (.inl (1, 1, .inr (.inl (vp_updL f 0 ((po_tell σ c).1.2.toInt64)))))))) (hq1 : ∀ S', CI (po_tell σ c).2 S' → (po_tell σ c).1.1 ≠ 0 → Q (.inl (some (.int (nI (po_tell σ c).1.1)))) (cs_O ad S' hh)) : AW G mL_tell (d + 17) 1 6 Q 0 [(0, .ref (ad (0, 0))), (1, .int c), (2, .ref ou)] [] (cs_O ad S hh) 0 0 := by
  refine ax_aload_n dL_tell_0 rfl ?_
  refine ax_iconst (v := 0) dL_tell_1 (by decide) ?_
  refine ax_aload_n dL_tell_2 rfl ?_
  refine ax_iload_n dL_tell_3 rfl ?_
  refine ax_callVc (b := ad (0, 0)) (av := [.int c]) (rest := [.int 0, .ref ou]) (mc' := 1) (ms' := 6) dL_tell_4 lkL_47 (cs_get hi (cs_k0 (by decide))) rfl (Nat.le_of_ble_eq_true rfl) (Nat.le_of_ble_eq_true rfl) (by decide) (by decide) (pb_tell hi d S hh hC c) (fun E9 h9 q9 => ?_) (fun v9 h9 q9 => ?_)
  · obtain ⟨e9, S', rfl, hC'⟩ := q9
    obtain ⟨n0, nE⟩ := poc_inr e9
    have hle := pl_tell σ c
    rcases (show (po_tell σ c).1.1 = 1 ∨ (po_tell σ c).1.1 = 2 by omega) with z | z
    · rw [z] at nE
      subst nE
      refine ⟨12, hdL_tell_IAE, fun q => ?_⟩
      refine ax_astore_n dL_tell_12 (by decide) ?_
      refine ax_iconst (v := 1) dL_tell_13 (by decide) ?_
      have := hq1 S' hC' n0
      rw [z] at this
      exact ax_iret (st := []) dL_tell_14 rfl rfl this
    · rw [z] at nE
      subst nE
      refine ⟨15, hdL_tell_ISE, fun q => ?_⟩
      refine ax_astore_n dL_tell_15 (by decide) ?_
      refine ax_iconst (v := 2) dL_tell_16 (by decide) ?_
      have := hq1 S' hC' n0
      rw [z] at this
      exact ax_iret (st := []) dL_tell_17 rfl rfl this
  · obtain ⟨e9, S', rfl, hC'⟩ := q9
    obtain ⟨z0, rfl⟩ := poc_inl e9
    refine ax_i2l dL_tell_7 ?_
    refine ax_last dL_tell_8 (hou S') (by unfold vp_in; decide) ?_
    refine ax_goto (tgt := 18) dL_tell_9 (by decide) ?_
    refine ax_iconst (v := 0) dL_tell_18 (by decide) ?_
    have := hq0 S' hC' z0
    exact ax_iret (st := []) dL_tell_19 rfl rfl this
set_option maxRecDepth 100000 in
set_option maxHeartbeats 4000000 in
theorem lh_read (hi : cs_inj ad) (d : Nat) (S : cs_S) (hh : ax_H) {σ : sp_St} (hC : CI σ S) (t : Int32) {ou : Nat} {f : Nat → Int64} (hou : ∀ S, cs_O ad S hh ou = (some (.inl (1, 1, .inr (.inl f))))) {Q : ax_P} (hq0 : ∀ S', CI (po_read σ t).2 S' → (po_read σ t).1.1 = 0 → Q (.inl (some (.int 0))) (va_up (cs_O ad S' hh) ou (some (.inl (1, 1, .inr (.inl (vp_updL f 0 ((po_read σ t).1.2.toInt64)))))))) (hq1 : ∀ S', CI (po_read σ t).2 S' → (po_read σ t).1.1 ≠ 0 → Q (.inl (some (.int (nI (po_read σ t).1.1)))) (cs_O ad S' hh)) : AW G mL_read (d + 23) 1 6 Q 0 [(0, .ref (ad (0, 0))), (1, .int t), (2, .ref ou)] [] (cs_O ad S hh) 0 0 := by
  refine ax_aload_n dL_read_0 rfl ?_
  refine ax_iconst (v := 0) dL_read_1 (by decide) ?_
  refine ax_aload_n dL_read_2 rfl ?_
  refine ax_iload_n dL_read_3 rfl ?_
  refine ax_callVc (b := ad (0, 0)) (av := [.int t]) (rest := [.int 0, .ref ou]) (mc' := 1) (ms' := 6) dL_read_4 lkL_51 (cs_get hi (cs_k0 (by decide))) rfl (Nat.le_of_ble_eq_true rfl) (Nat.le_of_ble_eq_true rfl) (by decide) (by decide) (pb_read hi d S hh hC t) (fun E9 h9 q9 => ?_) (fun v9 h9 q9 => ?_)
  · obtain ⟨e9, S', rfl, hC'⟩ := q9
    obtain ⟨n0, nE⟩ := poc_inr e9
    have hle := pl_read σ t
    rcases (show (po_read σ t).1.1 = 1 ∨ (po_read σ t).1.1 = 2 by omega) with z | z
    · rw [z] at nE
      subst nE
      refine ⟨12, hdL_read_IOB, fun q => ?_⟩
      refine ax_astore_n dL_read_12 (by decide) ?_
      refine ax_iconst (v := 1) dL_read_13 (by decide) ?_
      have := hq1 S' hC' n0
      rw [z] at this
      exact ax_iret (st := []) dL_read_14 rfl rfl this
    · rw [z] at nE
      subst nE
      refine ⟨15, hdL_read_ISE, fun q => ?_⟩
      refine ax_astore_n dL_read_15 (by decide) ?_
      refine ax_iconst (v := 2) dL_read_16 (by decide) ?_
      have := hq1 S' hC' n0
      rw [z] at this
      exact ax_iret (st := []) dL_read_17 rfl rfl this
  · obtain ⟨e9, S', rfl, hC'⟩ := q9
    obtain ⟨z0, rfl⟩ := poc_inl e9
    refine ax_i2l dL_read_7 ?_
    refine ax_last dL_read_8 (hou S') (by unfold vp_in; decide) ?_
    refine ax_goto (tgt := 18) dL_read_9 (by decide) ?_
    refine ax_iconst (v := 0) dL_read_18 (by decide) ?_
    have := hq0 S' hC' z0
    exact ax_iret (st := []) dL_read_19 rfl rfl this
set_option maxRecDepth 100000 in
set_option maxHeartbeats 4000000 in
theorem lh_length (hi : cs_inj ad) (d : Nat) (S : cs_S) (hh : ax_H) {σ : sp_St} (hC : CI σ S)  {ou : Nat} {f : Nat → Int64} (hou : ∀ S, cs_O ad S hh ou = (some (.inl (1, 1, .inr (.inl f))))) {Q : ax_P} (hq0 : ∀ S', CI (po_length σ).2 S' → (po_length σ).1.1 = 0 → Q (.inl (some (.int 0))) (va_up (cs_O ad S' hh) ou (some (.inl (1, 1, .inr (.inl (vp_updL f 0 ((po_length σ).1.2.toInt64)))))))) (hq1 : ∀ S', CI (po_length σ).2 S' → (po_length σ).1.1 ≠ 0 → Q (.inl (some (.int (nI (po_length σ).1.1)))) (cs_O ad S' hh)) : AW G mL_length (d + 17) 1 6 Q 0 [(0, .ref (ad (0, 0))), (1, .ref ou)] [] (cs_O ad S hh) 0 0 := by
  refine ax_aload_n dL_length_0 rfl ?_
  refine ax_iconst (v := 0) dL_length_1 (by decide) ?_
  refine ax_aload_n dL_length_2 rfl ?_
  refine ax_callVc (b := ad (0, 0)) (av := []) (rest := [.int 0, .ref ou]) (mc' := 1) (ms' := 6) dL_length_3 lkL_54 (cs_get hi (cs_k0 (by decide))) rfl (Nat.le_of_ble_eq_true rfl) (Nat.le_of_ble_eq_true rfl) (by decide) (by decide) (pb_length hi d S hh hC ) (fun E9 h9 q9 => ?_) (fun v9 h9 q9 => ?_)
  · obtain ⟨e9, S', rfl, hC'⟩ := q9
    obtain ⟨n0, nE⟩ := poc_inr e9
    have hle := pl_length σ 
    rcases (show (po_length σ).1.1 = 1 by omega) with z
    · rw [z] at nE
      subst nE
      refine ⟨11, hdL_length_ISE, fun q => ?_⟩
      refine ax_astore_n dL_length_11 (by decide) ?_
      refine ax_iconst (v := 1) dL_length_12 (by decide) ?_
      have := hq1 S' hC' n0
      rw [z] at this
      exact ax_iret (st := []) dL_length_13 rfl rfl this
  · obtain ⟨e9, S', rfl, hC'⟩ := q9
    obtain ⟨z0, rfl⟩ := poc_inl e9
    refine ax_i2l dL_length_6 ?_
    refine ax_last dL_length_7 (hou S') (by unfold vp_in; decide) ?_
    refine ax_goto (tgt := 14) dL_length_8 (by decide) ?_
    refine ax_iconst (v := 0) dL_length_14 (by decide) ?_
    have := hq0 S' hC' z0
    exact ax_iret (st := []) dL_length_15 rfl rfl this
set_option maxRecDepth 100000 in
set_option maxHeartbeats 4000000 in
theorem lh_code (hi : cs_inj ad) (d : Nat) (S : cs_S) (hh : ax_H) {σ : sp_St} (hC : CI σ S) (q : Int32) {ou : Nat} {f : Nat → Int64} (hou : ∀ S, cs_O ad S hh ou = (some (.inl (1, 1, .inr (.inl f))))) {Q : ax_P} (hq0 : ∀ S', CI (po_code σ q).2 S' → (po_code σ q).1.1 = 0 → Q (.inl (some (.int 0))) (va_up (cs_O ad S' hh) ou (some (.inl (1, 1, .inr (.inl (vp_updL f 0 ((po_code σ q).1.2.toInt64)))))))) (hq1 : ∀ S', CI (po_code σ q).2 S' → (po_code σ q).1.1 ≠ 0 → Q (.inl (some (.int (nI (po_code σ q).1.1)))) (cs_O ad S' hh)) : AW G mL_code (d + 17) 1 6 Q 0 [(0, .ref (ad (0, 0))), (1, .int q), (2, .ref ou)] [] (cs_O ad S hh) 0 0 := by
  refine ax_aload_n dL_code_0 rfl ?_
  refine ax_iconst (v := 0) dL_code_1 (by decide) ?_
  refine ax_aload_n dL_code_2 rfl ?_
  refine ax_iload_n dL_code_3 rfl ?_
  refine ax_callVc (b := ad (0, 0)) (av := [.int q]) (rest := [.int 0, .ref ou]) (mc' := 1) (ms' := 6) dL_code_4 lkL_57 (cs_get hi (cs_k0 (by decide))) rfl (Nat.le_of_ble_eq_true rfl) (Nat.le_of_ble_eq_true rfl) (by decide) (by decide) (pb_code hi d S hh hC q) (fun E9 h9 q9 => ?_) (fun v9 h9 q9 => ?_)
  · obtain ⟨e9, S', rfl, hC'⟩ := q9
    obtain ⟨n0, nE⟩ := poc_inr e9
    have hle := pl_code σ q
    rcases (show (po_code σ q).1.1 = 1 ∨ (po_code σ q).1.1 = 2 by omega) with z | z
    · rw [z] at nE
      subst nE
      refine ⟨12, hdL_code_ISE, fun q => ?_⟩
      refine ax_astore_n dL_code_12 (by decide) ?_
      refine ax_iconst (v := 1) dL_code_13 (by decide) ?_
      have := hq1 S' hC' n0
      rw [z] at this
      exact ax_iret (st := []) dL_code_14 rfl rfl this
    · rw [z] at nE
      subst nE
      refine ⟨15, hdL_code_IOB, fun q => ?_⟩
      refine ax_astore_n dL_code_15 (by decide) ?_
      refine ax_iconst (v := 2) dL_code_16 (by decide) ?_
      have := hq1 S' hC' n0
      rw [z] at this
      exact ax_iret (st := []) dL_code_17 rfl rfl this
  · obtain ⟨e9, S', rfl, hC'⟩ := q9
    obtain ⟨z0, rfl⟩ := poc_inl e9
    refine ax_i2l dL_code_7 ?_
    refine ax_last dL_code_8 (hou S') (by unfold vp_in; decide) ?_
    refine ax_goto (tgt := 18) dL_code_9 (by decide) ?_
    refine ax_iconst (v := 0) dL_code_18 (by decide) ?_
    have := hq0 S' hC' z0
    exact ax_iret (st := []) dL_code_19 rfl rfl this
set_option maxRecDepth 100000 in
set_option maxHeartbeats 4000000 in
theorem lh_number (hi : cs_inj ad) (d : Nat) (S : cs_S) (hh : ax_H) {σ : sp_St} (hC : CI σ S)  {ou : Nat} {f : Nat → Int64} (hou : ∀ S, cs_O ad S hh ou = (some (.inl (1, 1, .inr (.inl f))))) {Q : ax_P} (hq0 : ∀ S', CI (po_number σ).2 S' → (po_number σ).1.1 = 0 → Q (.inl (some (.int 0))) (va_up (cs_O ad S' hh) ou (some (.inl (1, 1, .inr (.inl (vp_updL f 0 ((po_number σ).1.2.toInt64)))))))) (hq1 : ∀ S', CI (po_number σ).2 S' → (po_number σ).1.1 ≠ 0 → Q (.inl (some (.int (nI (po_number σ).1.1)))) (cs_O ad S' hh)) : AW G mL_number (d + 17) 1 6 Q 0 [(0, .ref (ad (0, 0))), (1, .ref ou)] [] (cs_O ad S hh) 0 0 := by
  refine ax_aload_n dL_number_0 rfl ?_
  refine ax_iconst (v := 0) dL_number_1 (by decide) ?_
  refine ax_aload_n dL_number_2 rfl ?_
  refine ax_callVc (b := ad (0, 0)) (av := []) (rest := [.int 0, .ref ou]) (mc' := 1) (ms' := 6) dL_number_3 lkL_60 (cs_get hi (cs_k0 (by decide))) rfl (Nat.le_of_ble_eq_true rfl) (Nat.le_of_ble_eq_true rfl) (by decide) (by decide) (pb_number hi d S hh hC ) (fun E9 h9 q9 => ?_) (fun v9 h9 q9 => ?_)
  · obtain ⟨e9, S', rfl, hC'⟩ := q9
    obtain ⟨n0, nE⟩ := poc_inr e9
    have hle := pl_number σ 
    rcases (show (po_number σ).1.1 = 1 by omega) with z
    · rw [z] at nE
      subst nE
      refine ⟨11, hdL_number_ISE, fun q => ?_⟩
      refine ax_astore_n dL_number_11 (by decide) ?_
      refine ax_iconst (v := 1) dL_number_12 (by decide) ?_
      have := hq1 S' hC' n0
      rw [z] at this
      exact ax_iret (st := []) dL_number_13 rfl rfl this
  · obtain ⟨e9, S', rfl, hC'⟩ := q9
    obtain ⟨z0, rfl⟩ := poc_inl e9
    refine ax_i2l dL_number_6 ?_
    refine ax_last dL_number_7 (hou S') (by unfold vp_in; decide) ?_
    refine ax_goto (tgt := 14) dL_number_8 (by decide) ?_
    refine ax_iconst (v := 0) dL_number_14 (by decide) ?_
    have := hq0 S' hC' z0
    exact ax_iret (st := []) dL_number_15 rfl rfl this
set_option maxRecDepth 100000 in
set_option maxHeartbeats 4000000 in
theorem lh_height (hi : cs_inj ad) (d : Nat) (S : cs_S) (hh : ax_H) {σ : sp_St} (hC : CI σ S)  {ou : Nat} {f : Nat → Int64} (hou : ∀ S, cs_O ad S hh ou = (some (.inl (1, 1, .inr (.inl f))))) {Q : ax_P} (hq0 : ∀ S', CI (po_height σ).2 S' → (po_height σ).1.1 = 0 → Q (.inl (some (.int 0))) (va_up (cs_O ad S' hh) ou (some (.inl (1, 1, .inr (.inl (vp_updL f 0 ((po_height σ).1.2.toInt64)))))))) (hq1 : ∀ S', CI (po_height σ).2 S' → (po_height σ).1.1 ≠ 0 → Q (.inl (some (.int (nI (po_height σ).1.1)))) (cs_O ad S' hh)) : AW G mL_height (d + 17) 1 6 Q 0 [(0, .ref (ad (0, 0))), (1, .ref ou)] [] (cs_O ad S hh) 0 0 := by
  refine ax_aload_n dL_height_0 rfl ?_
  refine ax_iconst (v := 0) dL_height_1 (by decide) ?_
  refine ax_aload_n dL_height_2 rfl ?_
  refine ax_callVc (b := ad (0, 0)) (av := []) (rest := [.int 0, .ref ou]) (mc' := 1) (ms' := 6) dL_height_3 lkL_63 (cs_get hi (cs_k0 (by decide))) rfl (Nat.le_of_ble_eq_true rfl) (Nat.le_of_ble_eq_true rfl) (by decide) (by decide) (pb_height hi d S hh hC ) (fun E9 h9 q9 => ?_) (fun v9 h9 q9 => ?_)
  · obtain ⟨e9, S', rfl, hC'⟩ := q9
    obtain ⟨n0, nE⟩ := poc_inr e9
    have hle := pl_height σ 
    rcases (show (po_height σ).1.1 = 1 by omega) with z
    · rw [z] at nE
      subst nE
      refine ⟨11, hdL_height_ISE, fun q => ?_⟩
      refine ax_astore_n dL_height_11 (by decide) ?_
      refine ax_iconst (v := 1) dL_height_12 (by decide) ?_
      have := hq1 S' hC' n0
      rw [z] at this
      exact ax_iret (st := []) dL_height_13 rfl rfl this
  · obtain ⟨e9, S', rfl, hC'⟩ := q9
    obtain ⟨z0, rfl⟩ := poc_inl e9
    refine ax_i2l dL_height_6 ?_
    refine ax_last dL_height_7 (hou S') (by unfold vp_in; decide) ?_
    refine ax_goto (tgt := 14) dL_height_8 (by decide) ?_
    refine ax_iconst (v := 0) dL_height_14 (by decide) ?_
    have := hq0 S' hC' z0
    exact ax_iret (st := []) dL_height_15 rfl rfl this
set_option maxRecDepth 100000 in
set_option maxHeartbeats 4000000 in
theorem lh_holds (hi : cs_inj ad) (d : Nat) (S : cs_S) (hh : ax_H) {σ : sp_St} (hC : CI σ S) (q : Int32) {ou : Nat} {f : Nat → Int64} (hou : ∀ S, cs_O ad S hh ou = (some (.inl (1, 1, .inr (.inl f))))) {Q : ax_P} (hq0 : ∀ S', CI (po_holds σ q).2 S' → (po_holds σ q).1.1 = 0 → Q (.inl (some (.int 0))) (va_up (cs_O ad S' hh) ou (some (.inl (1, 1, .inr (.inl (vp_updL f 0 (if (po_holds σ q).1.2 = 0 then 0 else 1)))))))) (hq1 : ∀ S', CI (po_holds σ q).2 S' → (po_holds σ q).1.1 ≠ 0 → Q (.inl (some (.int (nI (po_holds σ q).1.1)))) (cs_O ad S' hh)) : AW G mL_holds (d + 17) 1 6 Q 0 [(0, .ref (ad (0, 0))), (1, .int q), (2, .ref ou)] [] (cs_O ad S hh) 0 0 := by
  refine ax_aload_n dL_holds_0 rfl ?_
  refine ax_iconst (v := 0) dL_holds_1 (by decide) ?_
  refine ax_aload_n dL_holds_2 rfl ?_
  refine ax_iload_n dL_holds_3 rfl ?_
  refine ax_callVc (b := ad (0, 0)) (av := [.int q]) (rest := [.int 0, .ref ou]) (mc' := 1) (ms' := 6) dL_holds_4 lkL_70 (cs_get hi (cs_k0 (by decide))) rfl (Nat.le_of_ble_eq_true rfl) (Nat.le_of_ble_eq_true rfl) (by decide) (by decide) (pb_holds hi d S hh hC q) (fun E9 h9 q9 => ?_) (fun v9 h9 q9 => ?_)
  · obtain ⟨e9, S', rfl, hC'⟩ := q9
    obtain ⟨n0, nE⟩ := poc_inr e9
    have hle := pl_holds σ q
    rcases (show (po_holds σ q).1.1 = 1 ∨ (po_holds σ q).1.1 = 2 by omega) with z | z
    · rw [z] at nE
      subst nE
      refine ⟨19, hdL_holds_ISE, fun q => ?_⟩
      refine ax_astore_n dL_holds_19 (by decide) ?_
      refine ax_iconst (v := 1) dL_holds_20 (by decide) ?_
      have := hq1 S' hC' n0
      rw [z] at this
      exact ax_iret (st := []) dL_holds_21 rfl rfl this
    · rw [z] at nE
      subst nE
      refine ⟨22, hdL_holds_IAE, fun q => ?_⟩
      refine ax_astore_n dL_holds_22 (by decide) ?_
      refine ax_iconst (v := 2) dL_holds_23 (by decide) ?_
      have := hq1 S' hC' n0
      rw [z] at this
      exact ax_iret (st := []) dL_holds_24 rfl rfl this
  · obtain ⟨e9, S', rfl, hC'⟩ := q9
    obtain ⟨z0, rfl⟩ := poc_inl e9
    refine ax_if_eq (tgt := 14) dL_holds_7 (by decide) (fun b0 => ?_) (fun b0 => ?_)
    · refine ax_lconst (v := 0) dL_holds_14 (by decide) ?_
      refine ax_last dL_holds_15 (hou S') (by unfold vp_in; decide) ?_
      refine ax_goto (tgt := 25) dL_holds_16 (by decide) ?_
      refine ax_iconst (v := 0) dL_holds_25 (by decide) ?_
      have := hq0 S' hC' z0
      rw [if_pos b0] at this
      exact ax_iret (st := []) dL_holds_26 rfl rfl this
    · refine ax_lconst (v := 1) dL_holds_10 (by decide) ?_
      refine ax_goto (tgt := 15) dL_holds_11 (by decide) ?_
      refine ax_last dL_holds_15 (hou S') (by unfold vp_in; decide) ?_
      refine ax_goto (tgt := 25) dL_holds_16 (by decide) ?_
      refine ax_iconst (v := 0) dL_holds_25 (by decide) ?_
      have := hq0 S' hC' z0
      rw [if_neg b0] at this
      exact ax_iret (st := []) dL_holds_26 rfl rfl this
set_option maxRecDepth 100000 in
set_option maxHeartbeats 4000000 in
theorem lh_redCount (hi : cs_inj ad) (d : Nat) (S : cs_S) (hh : ax_H) {σ : sp_St} (hC : CI σ S)  {ou : Nat} {f : Nat → Int64} (hou : ∀ S, cs_O ad S hh ou = (some (.inl (1, 1, .inr (.inl f))))) {Q : ax_P} (hq0 : ∀ S', CI (po_redCount σ).2 S' → (po_redCount σ).1.1 = 0 → Q (.inl (some (.int 0))) (va_up (cs_O ad S' hh) ou (some (.inl (1, 1, .inr (.inl (vp_updL f 0 ((po_redCount σ).1.2.toInt64)))))))) (hq1 : ∀ S', CI (po_redCount σ).2 S' → (po_redCount σ).1.1 ≠ 0 → Q (.inl (some (.int (nI (po_redCount σ).1.1)))) (cs_O ad S' hh)) : AW G mL_reductionCount (d + 17) 1 6 Q 0 [(0, .ref (ad (0, 0))), (1, .ref ou)] [] (cs_O ad S hh) 0 0 := by
  refine ax_aload_n dL_reductionCount_0 rfl ?_
  refine ax_iconst (v := 0) dL_reductionCount_1 (by decide) ?_
  refine ax_aload_n dL_reductionCount_2 rfl ?_
  refine ax_callVc (b := ad (0, 0)) (av := []) (rest := [.int 0, .ref ou]) (mc' := 1) (ms' := 6) dL_reductionCount_3 lkL_74 (cs_get hi (cs_k0 (by decide))) rfl (Nat.le_of_ble_eq_true rfl) (Nat.le_of_ble_eq_true rfl) (by decide) (by decide) (pb_redCount hi d S hh hC ) (fun E9 h9 q9 => ?_) (fun v9 h9 q9 => ?_)
  · obtain ⟨e9, S', rfl, hC'⟩ := q9
    obtain ⟨n0, nE⟩ := poc_inr e9
    have hle := pl_redCount σ 
    rcases (show (po_redCount σ).1.1 = 1 by omega) with z
    · rw [z] at nE
      subst nE
      refine ⟨11, hdL_reductionCount_ISE, fun q => ?_⟩
      refine ax_astore_n dL_reductionCount_11 (by decide) ?_
      refine ax_iconst (v := 1) dL_reductionCount_12 (by decide) ?_
      have := hq1 S' hC' n0
      rw [z] at this
      exact ax_iret (st := []) dL_reductionCount_13 rfl rfl this
  · obtain ⟨e9, S', rfl, hC'⟩ := q9
    obtain ⟨z0, rfl⟩ := poc_inl e9
    refine ax_i2l dL_reductionCount_6 ?_
    refine ax_last dL_reductionCount_7 (hou S') (by unfold vp_in; decide) ?_
    refine ax_goto (tgt := 14) dL_reductionCount_8 (by decide) ?_
    refine ax_iconst (v := 0) dL_reductionCount_14 (by decide) ?_
    have := hq0 S' hC' z0
    exact ax_iret (st := []) dL_reductionCount_15 rfl rfl this
set_option maxRecDepth 100000 in
set_option maxHeartbeats 4000000 in
theorem lh_reduction (hi : cs_inj ad) (d : Nat) (S : cs_S) (hh : ax_H) {σ : sp_St} (hC : CI σ S) (q : Int32) {ou : Nat} {f : Nat → Int64} (hou : ∀ S, cs_O ad S hh ou = (some (.inl (1, 1, .inr (.inl f))))) {Q : ax_P} (hq0 : ∀ S', CI (po_reduction σ q).2 S' → (po_reduction σ q).1.1 = 0 → Q (.inl (some (.int 0))) (va_up (cs_O ad S' hh) ou (some (.inl (1, 1, .inr (.inl (vp_updL f 0 ((po_reduction σ q).1.2.toInt64)))))))) (hq1 : ∀ S', CI (po_reduction σ q).2 S' → (po_reduction σ q).1.1 ≠ 0 → Q (.inl (some (.int (nI (po_reduction σ q).1.1)))) (cs_O ad S' hh)) : AW G mL_reduction (d + 17) 1 6 Q 0 [(0, .ref (ad (0, 0))), (1, .int q), (2, .ref ou)] [] (cs_O ad S hh) 0 0 := by
  refine ax_aload_n dL_reduction_0 rfl ?_
  refine ax_iconst (v := 0) dL_reduction_1 (by decide) ?_
  refine ax_aload_n dL_reduction_2 rfl ?_
  refine ax_iload_n dL_reduction_3 rfl ?_
  refine ax_callVc (b := ad (0, 0)) (av := [.int q]) (rest := [.int 0, .ref ou]) (mc' := 1) (ms' := 6) dL_reduction_4 lkL_77 (cs_get hi (cs_k0 (by decide))) rfl (Nat.le_of_ble_eq_true rfl) (Nat.le_of_ble_eq_true rfl) (by decide) (by decide) (pb_reduction hi d S hh hC q) (fun E9 h9 q9 => ?_) (fun v9 h9 q9 => ?_)
  · obtain ⟨e9, S', rfl, hC'⟩ := q9
    obtain ⟨n0, nE⟩ := poc_inr e9
    have hle := pl_reduction σ q
    rcases (show (po_reduction σ q).1.1 = 1 ∨ (po_reduction σ q).1.1 = 2 by omega) with z | z
    · rw [z] at nE
      subst nE
      refine ⟨12, hdL_reduction_ISE, fun q => ?_⟩
      refine ax_astore_n dL_reduction_12 (by decide) ?_
      refine ax_iconst (v := 1) dL_reduction_13 (by decide) ?_
      have := hq1 S' hC' n0
      rw [z] at this
      exact ax_iret (st := []) dL_reduction_14 rfl rfl this
    · rw [z] at nE
      subst nE
      refine ⟨15, hdL_reduction_IOB, fun q => ?_⟩
      refine ax_astore_n dL_reduction_15 (by decide) ?_
      refine ax_iconst (v := 2) dL_reduction_16 (by decide) ?_
      have := hq1 S' hC' n0
      rw [z] at this
      exact ax_iret (st := []) dL_reduction_17 rfl rfl this
  · obtain ⟨e9, S', rfl, hC'⟩ := q9
    obtain ⟨z0, rfl⟩ := poc_inl e9
    refine ax_i2l dL_reduction_7 ?_
    refine ax_last dL_reduction_8 (hou S') (by unfold vp_in; decide) ?_
    refine ax_goto (tgt := 18) dL_reduction_9 (by decide) ?_
    refine ax_iconst (v := 0) dL_reduction_18 (by decide) ?_
    have := hq0 S' hC' z0
    exact ax_iret (st := []) dL_reduction_19 rfl rfl this
set_option maxRecDepth 100000 in
set_option maxHeartbeats 4000000 in
theorem lh_reduce (hi : cs_inj ad) (d : Nat) (S : cs_S) (hh : ax_H) {σ : sp_St} (hC : CI σ S) (q : Int32) {ou : Nat} {f : Nat → Int64} (hou : ∀ S, cs_O ad S hh ou = (some (.inl (1, 1, .inr (.inl f))))) {Q : ax_P} (hq0 : ∀ S', CI (po_reduce σ q).2 S' → (po_reduce σ q).1.1 = 0 → Q (.inl (some (.int 0))) (va_up (cs_O ad S' hh) ou (some (.inl (1, 1, .inr (.inl (vp_updL f 0 ((po_reduce σ q).1.2.toInt64)))))))) (hq1 : ∀ S', CI (po_reduce σ q).2 S' → (po_reduce σ q).1.1 ≠ 0 → Q (.inl (some (.int (nI (po_reduce σ q).1.1)))) (cs_O ad S' hh)) : AW G mL_reduce (d + 17) 1 6 Q 0 [(0, .ref (ad (0, 0))), (1, .int q), (2, .ref ou)] [] (cs_O ad S hh) 0 0 := by
  refine ax_aload_n dL_reduce_0 rfl ?_
  refine ax_iconst (v := 0) dL_reduce_1 (by decide) ?_
  refine ax_aload_n dL_reduce_2 rfl ?_
  refine ax_iload_n dL_reduce_3 rfl ?_
  refine ax_callVc (b := ad (0, 0)) (av := [.int q]) (rest := [.int 0, .ref ou]) (mc' := 1) (ms' := 6) dL_reduce_4 lkL_80 (cs_get hi (cs_k0 (by decide))) rfl (Nat.le_of_ble_eq_true rfl) (Nat.le_of_ble_eq_true rfl) (by decide) (by decide) (pb_reduce hi d S hh hC q) (fun E9 h9 q9 => ?_) (fun v9 h9 q9 => ?_)
  · obtain ⟨e9, S', rfl, hC'⟩ := q9
    obtain ⟨n0, nE⟩ := poc_inr e9
    have hle := pl_reduce σ q
    rcases (show (po_reduce σ q).1.1 = 1 ∨ (po_reduce σ q).1.1 = 2 by omega) with z | z
    · rw [z] at nE
      subst nE
      refine ⟨12, hdL_reduce_ISE, fun q => ?_⟩
      refine ax_astore_n dL_reduce_12 (by decide) ?_
      refine ax_iconst (v := 1) dL_reduce_13 (by decide) ?_
      have := hq1 S' hC' n0
      rw [z] at this
      exact ax_iret (st := []) dL_reduce_14 rfl rfl this
    · rw [z] at nE
      subst nE
      refine ⟨15, hdL_reduce_IAE, fun q => ?_⟩
      refine ax_astore_n dL_reduce_15 (by decide) ?_
      refine ax_iconst (v := 2) dL_reduce_16 (by decide) ?_
      have := hq1 S' hC' n0
      rw [z] at this
      exact ax_iret (st := []) dL_reduce_17 rfl rfl this
  · obtain ⟨e9, S', rfl, hC'⟩ := q9
    obtain ⟨z0, rfl⟩ := poc_inl e9
    refine ax_i2l dL_reduce_7 ?_
    refine ax_last dL_reduce_8 (hou S') (by unfold vp_in; decide) ?_
    refine ax_goto (tgt := 18) dL_reduce_9 (by decide) ?_
    refine ax_iconst (v := 0) dL_reduce_18 (by decide) ?_
    have := hq0 S' hC' z0
    exact ax_iret (st := []) dL_reduce_19 rfl rfl this
set_option maxRecDepth 100000 in
set_option maxHeartbeats 4000000 in
theorem lh_mean (hi : cs_inj ad) (d : Nat) (S : cs_S) (hh : ax_H) {σ : sp_St} (hC : CI σ S) {ou : Nat} {f : Nat → UInt64} (hou : ∀ S, cs_O ad S hh ou = (some (.inl (2, 1, .inr (.inr (.inr (.inl f))))))) {Q : ax_P} (hq0 : ∀ S', CI σ S' → (po_mean σ).1 = 0 → Q (.inl (some (.int 0))) (va_up (cs_O ad S' hh) ou (some (.inl (2, 1, .inr (.inr (.inr (.inl (vf_upd f 0 (po_mean σ).2))))))))) (hq1 : ∀ S', CI σ S' → (po_mean σ).1 ≠ 0 → Q (.inl (some (.int 1))) (cs_O ad S' hh)) : AW G mL_mean (d + 17) 1 6 Q 0 [(0, .ref (ad (0, 0))), (1, .ref ou)] [] (cs_O ad S hh) 0 0 := by
  refine ax_aload_n dL_mean_0 rfl ?_
  refine ax_iconst (v := 0) dL_mean_1 (by decide) ?_
  refine ax_aload_n dL_mean_2 rfl ?_
  refine ax_callVc (b := ad (0, 0)) (av := []) (rest := [.int 0, .ref ou]) (mc' := 1) (ms' := 6) dL_mean_3 lkL_66 (cs_get hi (cs_k0 (by decide))) rfl (Nat.le_of_ble_eq_true rfl) (Nat.le_of_ble_eq_true rfl) (by decide) (by decide) (pb_mean hi d S hh hC) (fun E9 h9 q9 => ?_) (fun v9 h9 q9 => ?_)
  · obtain ⟨e9, S', rfl, hC'⟩ := q9
    by_cases z : (po_mean σ).1 = 0
    · rw [if_pos z] at e9; cases e9
    · rw [if_neg z] at e9
      cases e9
      refine ⟨10, hdL_mean_ISE, fun q => ?_⟩
      refine ax_astore_n dL_mean_10 (by decide) ?_
      refine ax_iconst (v := 1) dL_mean_11 (by decide) ?_
      exact ax_iret (st := []) dL_mean_12 rfl rfl (hq1 S' hC' z)
  · obtain ⟨e9, S', rfl, hC'⟩ := q9
    by_cases z : (po_mean σ).1 = 0
    · rw [if_pos z] at e9
      cases e9
      refine ax_dast dL_mean_6 (hou S') (by unfold vp_in; decide) ?_
      refine ax_goto (tgt := 13) dL_mean_7 (by decide) ?_
      refine ax_iconst (v := 0) dL_mean_13 (by decide) ?_
      exact ax_iret (st := []) dL_mean_14 rfl rfl (hq0 S' hC' z)
    · rw [if_neg z] at e9; cases e9
end HLP
