/-! ===== the law: its loop, its start ===== -/
theorem s2_sel {σ : sp_St} {f : Nat → po_R} (hf : ∀ v, (f v).2 = σ) : (po_sel σ f).2 = σ := by
  unfold po_sel
  split
  · rfl
  · exact hf _
theorem s2_length (σ : sp_St) : (po_length σ).2 = σ := s2_sel (fun _ => rfl)
theorem s2_number (σ : sp_St) : (po_number σ).2 = σ := s2_sel (fun _ => rfl)
theorem s2_height (σ : sp_St) : (po_height σ).2 = σ := s2_sel (fun _ => rfl)
theorem s2_redCount (σ : sp_St) : (po_redCount σ).2 = σ := s2_sel (fun _ => rfl)
theorem s2_code (σ : sp_St) (q : Int32) : (po_code σ q).2 = σ := s2_sel (fun v => by split <;> rfl)
theorem s2_holds (σ : sp_St) (q : Int32) : (po_holds σ q).2 = σ := s2_sel (fun v => by split <;> rfl)
theorem s2_reduction (σ : sp_St) (q : Int32) : (po_reduction σ q).2 = σ := s2_sel (fun v => by split <;> rfl)
theorem s2_setRange (σ : sp_St) (a b : Int32) : (po_setRange σ a b).2.2.2 = none ∨ ((po_setRange σ a b).2.1 = σ.1 ∧ (po_setRange σ a b).2.2.2 = σ.2.2) := by
  unfold po_setRange
  split
  · exact Or.inr ⟨rfl, rfl⟩
  · exact Or.inl rfl
theorem s2_addType (σ : sp_St) : (po_addType σ).2.2.2 = none ∨ ((po_addType σ).2.1 = σ.1 ∧ (po_addType σ).2.2.2 = σ.2.2) := by
  unfold po_addType
  split
  · exact Or.inr ⟨rfl, rfl⟩
  · exact Or.inl rfl
theorem s2_addCon (σ : sp_St) (t a b c k : Int32) : (po_addCon σ t a b c k).2.2.2 = none ∨ ((po_addCon σ t a b c k).2.1 = σ.1 ∧ (po_addCon σ t a b c k).2.2.2 = σ.2.2) := by
  unfold po_addCon
  split
  · exact Or.inr ⟨rfl, rfl⟩
  · split
    · exact Or.inr ⟨rfl, rfl⟩
    · split
      · exact Or.inr ⟨rfl, rfl⟩
      · exact Or.inl rfl
theorem s2_tell (σ : sp_St) (c : Int32) : (po_tell σ c).2.1 = σ.1 ∧ (po_tell σ c).2.2.2 = σ.2.2 := by
  unfold po_tell
  split
  · exact ⟨rfl, rfl⟩
  · split <;> exact ⟨rfl, rfl⟩
theorem s2_select (σ : sp_St) (t n : Int32) : (po_select σ t n).2.1 = σ.1 ∧ (po_ws σ t n = false → (po_select σ t n).2.2.2 = σ.2.2) := by
  unfold po_select po_ws
  cases h1 : po_isT σ t with
  | false => rw [if_pos rfl]; exact ⟨rfl, fun _ => rfl⟩
  | true =>
    rw [if_neg (by decide)]
    by_cases h2 : n < 0
    · rw [if_pos h2]; exact ⟨rfl, fun _ => rfl⟩
    · rw [if_neg h2]
      refine ⟨?_, fun z => absurd z ?_⟩
      · split <;> rfl
      · rw [decide_eq_false h2]; decide
theorem s2_draw (σ : sp_St) (t s : Int32) (z : Int64) : (po_draw σ t s z).2.1 = σ.1 ∧ (po_wm σ t s = false → (po_draw σ t s z).2.2.2 = σ.2.2) := by
  unfold po_draw
  by_cases h1 : po_asks σ t s ≠ 0
  · rw [if_pos h1]; exact ⟨rfl, fun _ => rfl⟩
  · rw [if_neg h1]
    refine ⟨by split <;> rfl, fun w => absurd ?_ h1⟩
    unfold po_wm at w
    unfold po_asks
    cases h2 : po_isT σ t with
    | false => rw [if_pos rfl]; decide
    | true =>
      rw [h2] at w
      rw [if_neg (by decide), if_pos (by revert w; by_cases hz : s < 1 ∨ 8 < s <;> simp only [hz, decide_true, decide_false] <;> intro w <;> first | trivial | (exact absurd w (by decide)))]
      decide
theorem s2_read (σ : sp_St) (t : Int32) : (po_read σ t).2.1 = σ.1 ∧ (po_wr σ t = false → (po_read σ t).2.2.2 = σ.2.2) := by
  unfold po_read po_wr
  cases h1 : po_isT σ t with
  | false => rw [if_pos rfl]; exact ⟨rfl, fun _ => rfl⟩
  | true =>
    rw [if_neg (by decide)]
    cases sp_look σ.1 41 t.toNatClampNeg σ.2.1 with
    | none => exact ⟨rfl, fun _ => rfl⟩
    | some p =>
      dsimp only
      by_cases h2 : p.2 = [] ∧ p.1.1 ≤ 8
      · rw [if_pos h2]
        refine ⟨?_, fun z => absurd z (by rw [decide_eq_true h2]; decide)⟩
        split
        · rfl
        · split <;> rfl
      · rw [if_neg h2]; exact ⟨rfl, fun _ => rfl⟩
theorem am_4b {A : rw_Ad} {σ : sp_St} {R : rw_S} {h : ax_H} (w : Bool) (hR : RI A σ R h) : 1 + rw_bC w R σ.1 ≤ pC σ R + 1354 ∧ 6 + rw_bS w R σ.1 ≤ pS σ R + 13672 := by
  cases w with
  | false =>
    have eC : rw_bC false R σ.1 = 0 := rfl
    have eS : rw_bS false R σ.1 = 0 := rfl
    omega
  | true =>
    have eC : rw_bC true R σ.1 = rm_C R σ.1 := rfl
    have eS : rw_bS true R σ.1 = rm_S R σ.1 := rfl
    rw [eC, eS]
    by_cases h0 : R.1 12 = 0
    · have e1 : rm_C R σ.1 = mk_C σ.1 8 [] 0 := if_pos h0
      have e2 : rm_S R σ.1 = mk_S σ.1 8 [] 0 := if_pos h0
      have b1 := rm_C_le hR.1 R
      have b2 := rm_S_le hR.1 R
      have p1 : pC σ R = (if σ.1.2.2.2 = [] then 0 else 1352) := if_pos h0
      have p2 : pS σ R = (if σ.1.2.2.2 = [] then 0 else 13663) := if_pos h0
      rw [p1, p2]
      by_cases hc : σ.1.2.2.2 = []
      · rw [if_pos hc, if_pos hc]
        have := mkS_nil hR.1 hc
        omega
      · rw [if_neg hc, if_neg hc]
        omega
    · have e1 : rm_C R σ.1 = 0 := if_neg h0
      have e2 : rm_S R σ.1 = 0 := if_neg h0
      omega
theorem am_5b {A : rw_Ad} {σ : sp_St} {R : rw_S} {h : ax_H} (q : Int32) (hR : RI A σ R h) : 1 + lw_gC σ q ≤ pC σ R + 1354 ∧ 6 + lw_gS σ q ≤ pS σ R + 13672 := by
  cases hv : σ.2.2 with
  | none =>
    have e1 : lw_gC σ q = 0 := by unfold lw_gC; rw [hv]
    have e2 : lw_gS σ q = 0 := by unfold lw_gS; rw [hv]
    omega
  | some v =>
    obtain ⟨r1, r3⟩ := RI_12 hR hv
    have hwT : sp_wT (po_T σ) := (tb_ok hR.1).1
    have hs2 : sp_srt (po_T σ) := (tb_ok hR.1).2.1
    have g1 := go_S_F hwT hs2 q.toNatClampNeg 300 v r3
    have g2 := go_C_F hwT hs2 q.toNatClampNeg 300 v r3
    have hc1 := dn_c (T := po_T σ) (fr_S (po_T σ)) (po_go (po_T σ) q.toNatClampNeg 300 v).2
    have hc2 := dn_c (T := po_T σ) (fr_C (po_T σ)) (po_go (po_T σ) q.toNatClampNeg 300 v).2
    rw [pS_sel r1, pC_sel r1]
    have a1 : pw_S σ = dn_v (fr_S (po_T σ)) (po_T σ) v - 13666 := by unfold pw_S; rw [hv]
    have a2 : pw_C σ = dn_v (fr_C (po_T σ)) (po_T σ) v - 1353 := by unfold pw_C; rw [hv]
    rw [a1, a2]
    by_cases hq : q < 1 ∨ 5 < q
    · have e1 : lw_gC σ q = 0 := by unfold lw_gC; rw [hv]; exact if_pos hq
      have e2 : lw_gS σ q = 0 := by unfold lw_gS; rw [hv]; exact if_pos hq
      omega
    · have e1 : lw_gC σ q = go_C (po_T σ) q.toNatClampNeg 300 v := by unfold lw_gC; rw [hv]; exact if_neg hq
      have e2 : lw_gS σ q = go_S (po_T σ) q.toNatClampNeg 300 v := by unfold lw_gS; rw [hv]; exact if_neg hq
      omega
theorem nI_m6 {n : Nat} (h : n ≤ 3072) : (nI n - 6).toInt = (n : Int) - 6 := by
  rw [Int32.toInt_sub, nI_toInt (by omega), show (6 : Int32).toInt = 6 by decide]
  rw [Int.bmod_eq_of_le (by omega) (by omega)]
theorem lw_pick (x : Int32) : (x.toInt < 0 ∨ 21 < x.toInt) ∨ x.toInt = 0 ∨ x.toInt = 1 ∨ x.toInt = 2 ∨ x.toInt = 3 ∨ x.toInt = 4 ∨ x.toInt = 5 ∨ x.toInt = 6 ∨ x.toInt = 7 ∨ x.toInt = 8 ∨ x.toInt = 9 ∨ x.toInt = 10 ∨ x.toInt = 11 ∨ x.toInt = 12 ∨ x.toInt = 13 ∨ x.toInt = 14 ∨ x.toInt = 15 ∨ x.toInt = 16 ∨ x.toInt = 17 ∨ x.toInt = 18 ∨ x.toInt = 19 ∨ x.toInt = 20 ∨ x.toInt = 21 := by
  omega
def ax_fin : ax_P := fun r _ => r = .inl (some (.int 1))
section LAW4
variable {G : ax_G}
set_option maxRecDepth 100000 in
set_option maxHeartbeats 4000000 in
theorem lw_loop (hk : ∀ g, sp_wg g → rm_ok g) (hN : G.2.2.2.2.2.1 ≤ 3072) {A : Nat → Nat} {ad : cs_K → Nat} {ou od : Nat} : ∀ (r i cn sn : Nat) (S : cs_S) (R : rw_S) (h : ax_H) (σ : sp_St), LI A ad S R h σ ou od → i ≤ G.2.2.2.2.2.1 → G.2.2.2.2.2.1 < i + 6 * (r + 1) → cn + 1354 * r + pC σ R ≤ 694440 → sn + 13672 * r + pS σ R ≤ 7012785 → AW G mL_law 100 694440 7012785 ax_fin 28 [(0, .ref G.2.2.2.2.1), (1, .ref (ad (0, 0))), (2, .ref (A 0)), (3, .ref ou), (4, .ref od), (5, .int (nI i))] [] (rw_O (A, ad, S) R h) cn sn := by
  intro r
  induction r with
  | zero =>
    intro i cn sn S R h σ hL hiN hr hc hs
    refine ax_iload dL_law_28 rfl ?_
    refine ax_aload_n dL_law_30 rfl ?_
    refine ax_slen dL_law_31 ?_
    refine ax_bipush (v := 6) dL_law_32 (by decide) ?_
    refine ax_isub dL_law_34 ?_
    refine ax_icmp_gt (tgt := 1397) dL_law_35 (by decide) (fun _ => ?_) (fun z => absurd ?_ z)
    · refine ax_iconst (v := 1) dL_law_1397 (by decide) ?_
      exact ax_iret (st := []) dL_law_1398 rfl rfl rfl
    · rw [Int32.lt_iff_toInt_lt, nI_m6 hN, nI_toInt (by omega)]; omega
  | succ r ih =>
    intro i cn sn S R h σ hL hiN hr hc hs
    refine ax_iload dL_law_28 rfl ?_
    refine ax_aload_n dL_law_30 rfl ?_
    refine ax_slen dL_law_31 ?_
    refine ax_bipush (v := 6) dL_law_32 (by decide) ?_
    refine ax_isub dL_law_34 ?_
    refine ax_icmp_gt (tgt := 1397) dL_law_35 (by decide) (fun _ => ?_) (fun z => ?_)
    · refine ax_iconst (v := 1) dL_law_1397 (by decide) ?_
      exact ax_iret (st := []) dL_law_1398 rfl rfl rfl
    have hi : i + 6 ≤ G.2.2.2.2.2.1 := by
      rw [Int32.lt_iff_toInt_lt, nI_m6 hN, nI_toInt (by omega)] at z; omega
    refine ax_aload_n dL_law_38 rfl ?_
    refine ax_iload dL_law_39 rfl ?_
    refine ax_sld dL_law_41 (nI_in (by omega) (by omega)) ?_
    refine ax_bipush (v := 31) dL_law_42 (by decide) ?_
    refine ax_iand dL_law_44 ?_
    have nxt : ∀ (S' : cs_S) (R' : rw_S) (h' : ax_H) (σ' : sp_St) (cn' sn' : Nat), LI A ad S' R' h' σ' ou od → cn' + pC σ' R' ≤ cn + pC σ R + 1354 → sn' + pS σ' R' ≤ sn + pS σ R + 13672 → AW G mL_law 100 694440 7012785 ax_fin 1391 [(0, .ref G.2.2.2.2.1), (1, .ref (ad (0, 0))), (2, .ref (A 0)), (3, .ref ou), (4, .ref od), (5, .int (nI i))] [] (rw_O (A, ad, S') R' h') cn' sn' := by
      intro S' R' h' σ' cn' sn' hL' h1 h2
      refine ax_iinc dL_law_1391 rfl (v := nI (i + 6)) (nI_add i 6) (by decide) ?_
      refine ax_goto (tgt := 28) dL_law_1394 (by decide) ?_
      refine ax_sub (lv' := [(0, .ref G.2.2.2.2.1), (1, .ref (ad (0, 0))), (2, .ref (A 0)), (3, .ref ou), (4, .ref od), (5, .int (nI (i + 6)))]) (fun _ z => z) ?_
      exact ih (i + 6) cn' sn' S' R' h' σ' hL' (by omega) (by omega) (by omega) (by omega)
    rcases lw_pick (G.2.2.2.2.2.2 (nI i).toNatClampNeg &&& 31) with e | e | e | e | e | e | e | e | e | e | e | e | e | e | e | e | e | e | e | e | e | e | e
    · refine ax_tabOut (tgt := 1391) dL_law_45 e (by decide) ?_
      exact nxt S R h σ cn sn hL (by omega) (by omega)
    · refine ax_tabIn (off := 103) (tgt := 148) dL_law_45 (by rw [e]; decide) (by rw [e]; decide) (by rw [e]; rfl) (by decide) ?_
      refine lc_setRange 20 hL hi hN (by omega) (by omega) (fun S' R' h' hL' => ?_)
      have hm := am_1 (cc := 1 + 0) (cs := 6 + 0) hL.2.2.2.2.1 hL'.2.2.2.2.1 (s2_setRange σ _ _) (by decide) (by decide)
      exact nxt S' R' h' _ _ _ hL' (by omega) (by omega)
    · refine ax_tabIn (off := 178) (tgt := 223) dL_law_45 (by rw [e]; decide) (by rw [e]; decide) (by rw [e]; rfl) (by decide) ?_
      refine lc_addType 20 hL hi hN (by omega) (by omega) (fun S' R' h' hL' => ?_)
      have hm := am_1 (cc := 1 + 0) (cs := 6 + 0) hL.2.2.2.2.1 hL'.2.2.2.2.1 (s2_addType σ) (by decide) (by decide)
      exact nxt S' R' h' _ _ _ hL' (by omega) (by omega)
    · refine ax_tabIn (off := 222) (tgt := 267) dL_law_45 (by rw [e]; decide) (by rw [e]; decide) (by rw [e]; rfl) (by decide) ?_
      refine lc_addCon 20 hL hi hN (by omega) (by omega) (fun S' R' h' hL' => ?_)
      have hm := am_1 (cc := 1 + 1) (cs := 6 + 3) hL.2.2.2.2.1 hL'.2.2.2.2.1 (s2_addCon σ _ _ _ _ _) (by decide) (by decide)
      exact nxt S' R' h' _ _ _ hL' (by omega) (by omega)
    · refine ax_tabIn (off := 326) (tgt := 371) dL_law_45 (by rw [e]; decide) (by rw [e]; decide) (by rw [e]; rfl) (by decide) ?_
      refine lc_typeCount 20 hL (by omega) (by omega) (fun S' R' h' hL' => ?_)
      have hm := am_1 (cc := 1 + 0) (cs := 6 + 0) hL.2.2.2.2.1 hL'.2.2.2.2.1 (Or.inr ⟨rfl, rfl⟩) (by decide) (by decide)
      exact nxt S' R' h' _ _ _ hL' (by omega) (by omega)
    · refine ax_tabIn (off := 339) (tgt := 384) dL_law_45 (by rw [e]; decide) (by rw [e]; decide) (by rw [e]; rfl) (by decide) ?_
      have hb : 1 + rm_C R σ.1 ≤ pC σ R + 1354 ∧ 6 + rm_S R σ.1 ≤ pS σ R + 13672 := am_4b true hL.2.2.2.2.1
      refine lc_horizon 20 hL (by omega) (by omega) (fun S' R' h' hL' a5 => ?_)
      have hm := (show 1 + rm_C R σ.1 + pC σ R' ≤ pC σ R + 1354 ∧ 6 + rm_S R σ.1 + pS σ R' ≤ pS σ R + 13672 from am_4 (w := true) (hk σ.1 hL.2.2.2.2.1.1) hL.2.2.2.2.1 hL'.2.2.2.2.1 rfl (fun z => by cases z) (fun _ => a5))
      exact nxt S' R' h' _ _ _ hL' (by omega) (by omega)
    · refine ax_tabIn (off := 352) (tgt := 397) dL_law_45 (by rw [e]; decide) (by rw [e]; decide) (by rw [e]; rfl) (by decide) ?_
      have hb := am_4b (po_wm σ (G.2.2.2.2.2.2 (i + 1)) (G.2.2.2.2.2.2 (i + 2))) hL.2.2.2.2.1
      refine lc_count 20 hL hi hN (by omega) (by omega) (fun S' R' h' hL' a5 => ?_)
      have hm := am_4 (w := (po_wm σ (G.2.2.2.2.2.2 (i + 1)) (G.2.2.2.2.2.2 (i + 2)))) (hk σ.1 hL.2.2.2.2.1.1) hL.2.2.2.2.1 hL'.2.2.2.2.1 rfl (fun _ => rfl) a5
      exact nxt S' R' h' _ _ _ hL' (by omega) (by omega)
    · refine ax_tabIn (off := 420) (tgt := 465) dL_law_45 (by rw [e]; decide) (by rw [e]; decide) (by rw [e]; rfl) (by decide) ?_
      have hb := am_4b (po_wm σ (G.2.2.2.2.2.2 (i + 1)) (G.2.2.2.2.2.2 (i + 2))) hL.2.2.2.2.1
      refine lc_total 20 hL hi hN (by omega) (by omega) (fun S' R' h' hL' a5 => ?_)
      have hm := am_4 (w := (po_wm σ (G.2.2.2.2.2.2 (i + 1)) (G.2.2.2.2.2.2 (i + 2)))) (hk σ.1 hL.2.2.2.2.1.1) hL.2.2.2.2.1 hL'.2.2.2.2.1 rfl (fun _ => rfl) a5
      exact nxt S' R' h' _ _ _ hL' (by omega) (by omega)
    · refine ax_tabIn (off := 488) (tgt := 533) dL_law_45 (by rw [e]; decide) (by rw [e]; decide) (by rw [e]; rfl) (by decide) ?_
      have hb := am_4b (po_wa σ (G.2.2.2.2.2.2 (i + 1)) (G.2.2.2.2.2.2 (i + 2)) (G.2.2.2.2.2.2 (i + 3))) hL.2.2.2.2.1
      refine lc_against 20 hL hi hN (by omega) (by omega) (fun S' R' h' hL' a5 => ?_)
      have hm := am_4 (w := (po_wa σ (G.2.2.2.2.2.2 (i + 1)) (G.2.2.2.2.2.2 (i + 2)) (G.2.2.2.2.2.2 (i + 3)))) (hk σ.1 hL.2.2.2.2.1.1) hL.2.2.2.2.1 hL'.2.2.2.2.1 rfl (fun _ => rfl) a5
      exact nxt S' R' h' _ _ _ hL' (by omega) (by omega)
    · refine ax_tabIn (off := 568) (tgt := 613) dL_law_45 (by rw [e]; decide) (by rw [e]; decide) (by rw [e]; rfl) (by decide) ?_
      have hb := am_4b (po_ws σ (G.2.2.2.2.2.2 (i + 1)) (G.2.2.2.2.2.2 (i + 2))) hL.2.2.2.2.1
      refine lc_select 20 hL hi hN (by omega) (by omega) (fun S' R' h' hL' a5 => ?_)
      have hm := am_4 (w := (po_ws σ (G.2.2.2.2.2.2 (i + 1)) (G.2.2.2.2.2.2 (i + 2)))) (hk σ.1 hL.2.2.2.2.1.1) hL.2.2.2.2.1 hL'.2.2.2.2.1 (s2_select σ _ _).1 (s2_select σ _ _).2 a5
      exact nxt S' R' h' _ _ _ hL' (by omega) (by omega)
    · refine ax_tabIn (off := 636) (tgt := 681) dL_law_45 (by rw [e]; decide) (by rw [e]; decide) (by rw [e]; rfl) (by decide) ?_
      have hb := am_4b (po_wm σ (G.2.2.2.2.2.2 (i + 1)) (G.2.2.2.2.2.2 (i + 2))) hL.2.2.2.2.1
      refine lc_draw 20 hL hi hN (by omega) (by omega) (fun S' R' h' hL' a5 => ?_)
      have hm := am_4 (w := (po_wm σ (G.2.2.2.2.2.2 (i + 1)) (G.2.2.2.2.2.2 (i + 2)))) (hk σ.1 hL.2.2.2.2.1.1) hL.2.2.2.2.1 hL'.2.2.2.2.1 (s2_draw σ _ _ _).1 (s2_draw σ _ _ _).2 a5
      exact nxt S' R' h' _ _ _ hL' (by omega) (by omega)
    · refine ax_tabIn (off := 748) (tgt := 793) dL_law_45 (by rw [e]; decide) (by rw [e]; decide) (by rw [e]; rfl) (by decide) ?_
      refine lc_tell 20 hL hi hN (by omega) (by omega) (fun S' R' h' hL' => ?_)
      have hm := am_1 (cc := 1 + 0) (cs := 6 + 0) hL.2.2.2.2.1 hL'.2.2.2.2.1 (Or.inr (s2_tell σ _)) (by decide) (by decide)
      exact nxt S' R' h' _ _ _ hL' (by omega) (by omega)
    · refine ax_tabIn (off := 804) (tgt := 849) dL_law_45 (by rw [e]; decide) (by rw [e]; decide) (by rw [e]; rfl) (by decide) ?_
      have hb := am_4b (po_wr σ (G.2.2.2.2.2.2 (i + 1))) hL.2.2.2.2.1
      refine lc_read 20 hL hi hN (by omega) (by omega) (fun S' R' h' hL' a5 => ?_)
      have hm := am_4 (w := (po_wr σ (G.2.2.2.2.2.2 (i + 1)))) (hk σ.1 hL.2.2.2.2.1.1) hL.2.2.2.2.1 hL'.2.2.2.2.1 (s2_read σ _).1 (s2_read σ _).2 a5
      exact nxt S' R' h' _ _ _ hL' (by omega) (by omega)
    · refine ax_tabIn (off := 860) (tgt := 905) dL_law_45 (by rw [e]; decide) (by rw [e]; decide) (by rw [e]; rfl) (by decide) ?_
      refine lc_length 20 hL hi hN (by omega) (by omega) (fun S' R' h' hL' => ?_)
      have hm := am_1 (cc := 1 + 0) (cs := 6 + 0) hL.2.2.2.2.1 hL'.2.2.2.2.1 (Or.inr (by rw [s2_length]; exact ⟨rfl, rfl⟩)) (by decide) (by decide)
      exact nxt S' R' h' _ _ _ hL' (by omega) (by omega)
    · refine ax_tabIn (off := 904) (tgt := 949) dL_law_45 (by rw [e]; decide) (by rw [e]; decide) (by rw [e]; rfl) (by decide) ?_
      refine lc_code 20 hL hi hN (by omega) (by omega) (fun S' R' h' hL' => ?_)
      have hm := am_1 (cc := 1 + 0) (cs := 6 + 0) hL.2.2.2.2.1 hL'.2.2.2.2.1 (Or.inr (by rw [s2_code]; exact ⟨rfl, rfl⟩)) (by decide) (by decide)
      exact nxt S' R' h' _ _ _ hL' (by omega) (by omega)
    · refine ax_tabIn (off := 960) (tgt := 1005) dL_law_45 (by rw [e]; decide) (by rw [e]; decide) (by rw [e]; rfl) (by decide) ?_
      refine lc_number 20 hL hi hN (by omega) (by omega) (fun S' R' h' hL' => ?_)
      have hm := am_1 (cc := 1 + 0) (cs := 6 + 0) hL.2.2.2.2.1 hL'.2.2.2.2.1 (Or.inr (by rw [s2_number]; exact ⟨rfl, rfl⟩)) (by decide) (by decide)
      exact nxt S' R' h' _ _ _ hL' (by omega) (by omega)
    · refine ax_tabIn (off := 1004) (tgt := 1049) dL_law_45 (by rw [e]; decide) (by rw [e]; decide) (by rw [e]; rfl) (by decide) ?_
      refine lc_height 20 hL hi hN (by omega) (by omega) (fun S' R' h' hL' => ?_)
      have hm := am_1 (cc := 1 + 0) (cs := 6 + 0) hL.2.2.2.2.1 hL'.2.2.2.2.1 (Or.inr (by rw [s2_height]; exact ⟨rfl, rfl⟩)) (by decide) (by decide)
      exact nxt S' R' h' _ _ _ hL' (by omega) (by omega)
    · refine ax_tabIn (off := 1048) (tgt := 1093) dL_law_45 (by rw [e]; decide) (by rw [e]; decide) (by rw [e]; rfl) (by decide) ?_
      refine lc_mean 20 hL (by omega) (by omega) (fun S' R' h' hL' => ?_)
      have hm := am_1 (cc := 1 + 0) (cs := 6 + 0) hL.2.2.2.2.1 hL'.2.2.2.2.1 (Or.inr ⟨rfl, rfl⟩) (by decide) (by decide)
      exact nxt S' R' h' _ _ _ hL' (by omega) (by omega)
    · refine ax_tabIn (off := 1113) (tgt := 1158) dL_law_45 (by rw [e]; decide) (by rw [e]; decide) (by rw [e]; rfl) (by decide) ?_
      refine lc_holds 20 hL hi hN (by omega) (by omega) (fun S' R' h' hL' => ?_)
      have hm := am_1 (cc := 1 + 0) (cs := 6 + 0) hL.2.2.2.2.1 hL'.2.2.2.2.1 (Or.inr (by rw [s2_holds]; exact ⟨rfl, rfl⟩)) (by decide) (by decide)
      exact nxt S' R' h' _ _ _ hL' (by omega) (by omega)
    · refine ax_tabIn (off := 1176) (tgt := 1221) dL_law_45 (by rw [e]; decide) (by rw [e]; decide) (by rw [e]; rfl) (by decide) ?_
      have hb := am_3 (hk σ.1 hL.2.2.2.2.1.1) hL.2.2.2.2.1 hL.2.2.2.2.1
      refine lc_redCount 20 hL hi hN (by omega) (by omega) (fun S' R' h' hL' => ?_)
      have hm := am_3 (hk σ.1 hL.2.2.2.2.1.1) hL.2.2.2.2.1 (show RI _ σ R' h' from s2_redCount σ ▸ hL'.2.2.2.2.1)
      rw [s2_redCount] at hL'
      exact nxt S' R' h' _ _ _ hL' (by omega) (by omega)
    · refine ax_tabIn (off := 1220) (tgt := 1265) dL_law_45 (by rw [e]; decide) (by rw [e]; decide) (by rw [e]; rfl) (by decide) ?_
      have hb := am_3 (hk σ.1 hL.2.2.2.2.1.1) hL.2.2.2.2.1 hL.2.2.2.2.1
      refine lc_reduction 20 hL hi hN (by omega) (by omega) (fun S' R' h' hL' => ?_)
      have hm := am_3 (hk σ.1 hL.2.2.2.2.1.1) hL.2.2.2.2.1 (show RI _ σ R' h' from s2_reduction σ _ ▸ hL'.2.2.2.2.1)
      rw [s2_reduction] at hL'
      exact nxt S' R' h' _ _ _ hL' (by omega) (by omega)
    · refine ax_tabIn (off := 1276) (tgt := 1321) dL_law_45 (by rw [e]; decide) (by rw [e]; decide) (by rw [e]; rfl) (by decide) ?_
      have hb := am_5b (G.2.2.2.2.2.2 (i + 1)) hL.2.2.2.2.1
      refine lc_reduce 20 hL hi hN (by omega) (by omega) (fun S' R' h' hL' => ?_)
      have hm := am_5 (hk σ.1 hL.2.2.2.2.1.1) (G.2.2.2.2.2.2 (i + 1)) hL.2.2.2.2.1 hL'.2.2.2.2.1
      exact nxt S' R' h' _ _ _ hL' (by omega) (by omega)
    · refine ax_tabIn (off := 1332) (tgt := 1377) dL_law_45 (by rw [e]; decide) (by rw [e]; decide) (by rw [e]; rfl) (by decide) ?_
      refine lc_digest 20 hL (by omega) (by omega) (fun S' R' h' hL' => ?_)
      have hm := am_1 (cc := 1 + 0) (cs := 6 + 0) hL.2.2.2.2.1 hL'.2.2.2.2.1 (Or.inr ⟨rfl, rfl⟩) (by decide) (by decide)
      exact nxt S' R' h' _ _ _ hL' (by omega) (by omega)

set_option maxRecDepth 100000 in
set_option maxHeartbeats 4000000 in
theorem lw_run (hk : ∀ g, sp_wg g → rm_ok g) (hN : G.2.2.2.2.2.1 ≤ 3072) : AW G mL_law 100 694440 7012785 ax_fin 0 [(0, .ref G.2.2.2.2.1)] [] (fun _ => none) 0 0 := by
  refine ax_new dL_law_0 mkL_8 (by decide) (by decide) (fun b hb => ?_)
  refine ax_dup dL_law_3 rfl ?_
  refine ax_eqh (show va_up (fun _ => none) b _ = ax_w (fun _ => none) [(b, .inr (6, [.null, .null, .null, .null, .null, .null]))] from ax_w_push (l := []) rfl) ?_
  refine ax_callI (av := []) (rest := [.ref b]) (mc' := 954) (ms' := 8864) dL_law_4 rfl lkL_83 rfl (Nat.le_of_ble_eq_true rfl) (Nat.le_of_ble_eq_true rfl) (by decide) (by decide) (new6 97 (fun _ => none) b rfl (Q := fun r h9 => r = .inl none ∧ ∃ (ad : cs_K → Nat) (h' : ax_H), cs_inj ad ∧ ad (0, 0) = b ∧ h9 = cs_O ad nS h') (fun ad h' h1 h2 _ => ⟨rfl, ad, h', h1, h2, rfl⟩)) (fun E9 h9 q9 => by cases q9.1) (fun v9 h9 q9 => ?_)
  obtain ⟨e9, ad, h', hinj, rfl, rfl⟩ := q9
  cases e9
  show AW G mL_law 100 694440 7012785 ax_fin 7 [(0, .ref G.2.2.2.2.1)] [.ref (ad (0, 0))] (cs_O ad nS h') 955 8870
  refine ax_astore_n dL_law_7 (by decide) ?_
  refine ax_sub (lv' := [(0, .ref G.2.2.2.2.1), (1, .ref (ad (0, 0)))]) (fun _ z => z) ?_
  refine ax_new dL_law_8 mkL_84 (by decide) (by decide) (fun b hb => ?_)
  refine ax_dup dL_law_11 rfl ?_
  refine ax_eqh (show va_up (cs_O ad nS h') b _ = ax_w (cs_O ad nS h') [(b, .inr (7, [.int 0, .int 0, .int 0, .int 0, .int 0, .null, .null, .null, .int 0, .null, .int 0, .int 0, .int 0, .int 0, .int 0, .null, .null, .null, .null, .null, .int 0, .int 0, .null, .int 0, .null]))] from ax_w_push (l := []) hb) ?_
  refine ax_callI (av := []) (rest := [.ref b]) (mc' := 11) (ms' := 3414) dL_law_12 rfl lkL_86 rfl (Nat.le_of_ble_eq_true rfl) (Nat.le_of_ble_eq_true rfl) (by decide) (by decide) (new7 99 ad nS h' b hb (Q := fun r h9 => r = .inl none ∧ ∃ (A : Nat → Nat), rw_nd (A, ad, nS) ∧ A 0 = b ∧ (∀ i, i < 12 → cs_O ad nS h' (A i) = none) ∧ RI (A, ad, nS) nσ nR h' ∧ h9 = rw_O (A, ad, nS) nR h') (fun A h1 h2 h3 h4 => ⟨rfl, A, h1, h2, h3, h4, rfl⟩)) (fun E9 h9 q9 => by cases q9.1) (fun v9 h9 q9 => ?_)
  obtain ⟨e9, A, hnd, rfl, hfr, hRI, rfl⟩ := q9
  cases e9
  show AW G mL_law 100 694440 7012785 ax_fin 15 [(0, .ref G.2.2.2.2.1), (1, .ref (ad (0, 0)))] [.ref (A 0)] (rw_O (A, ad, nS) nR h') 967 12309
  refine ax_astore_n dL_law_15 (by decide) ?_
  refine ax_sub (lv' := [(0, .ref G.2.2.2.2.1), (1, .ref (ad (0, 0))), (2, .ref (A 0))]) (fun _ z => z) ?_
  refine ax_iconst (v := 1) dL_law_16 (by decide) ?_
  refine ax_newa_long dL_law_17 ax_aJ (by decide) (N := 1) (by decide) (by decide) (by decide) (by decide) (fun ou hou => ?_)
  obtain ⟨fo, ho⟩ := rw_new hnd hou
  refine ax_eqh (rw_up fo) ?_
  refine ax_astore_n dL_law_19 (by decide) ?_
  refine ax_sub (lv' := [(0, .ref G.2.2.2.2.1), (1, .ref (ad (0, 0))), (2, .ref (A 0)), (3, .ref ou)]) (fun _ z => z) ?_
  refine ax_iconst (v := 1) dL_law_20 (by decide) ?_
  refine ax_newa_double dL_law_21 ax_aD (by decide) (N := 1) (by decide) (by decide) (by decide) (by decide) (fun od hod => ?_)
  obtain ⟨fd, hd⟩ := rw_new hnd hod
  have hne : ou ≠ od := fun e => by rw [e, ax_up_s] at hd; cases hd
  refine ax_eqh (rw_up fd) ?_
  refine ax_astore dL_law_23 (by decide) ?_
  refine ax_iconst (v := 0) dL_law_25 (by decide) ?_
  refine ax_istore dL_law_26 (by decide) ?_
  refine ax_sub (lv' := [(0, .ref G.2.2.2.2.1), (1, .ref (ad (0, 0))), (2, .ref (A 0)), (3, .ref ou), (4, .ref od), (5, .int (nI 0))]) (fun _ z => z) ?_
  have n1 : ∀ n f, h' ou ≠ some (.inl (0, n, .inl f)) := fun n f e => by rw [ho] at e; cases e
  have n2 : ∀ n f, (va_up h' ou (some (.inl (1, 1, .inr (.inl (fun _ => 0)))))) od ≠ some (.inl (0, n, .inl f)) := fun n f e => by rw [hd] at e; cases e
  have l3 : ∀ i, i < 12 → ∀ k ∈ cs_keys, ad k ≠ A i := fun i hi k hk e => by
    have h1 := hfr i hi
    rw [← e, cs_get hinj hk] at h1
    cases h1
  exact lw_loop hk hN 512 0 969 12311 nS nR _ nσ ⟨hnd, hinj, l3, CI_new, RI_ou n2 (RI_ou n1 hRI), ⟨_, by rw [ax_up_n hne]; exact ax_up_s⟩, fo, ⟨_, ax_up_s⟩, fd⟩ (Nat.zero_le _) (by omega) (by decide) (by decide)
end LAW4
/-- the law's run, said without the machine -/
def ax_law : Prop := ∀ G : ax_G, G.2.2.2.2.2.1 ≤ 3072 → AW G mL_law 100 694440 7012785 ax_fin 0 [(0, .ref G.2.2.2.2.1)] [] (fun _ => none) 0 0
theorem lw_of (hk : ∀ g, sp_wg g → rm_ok g) : ax_law := fun _ hN => lw_run hk hN
