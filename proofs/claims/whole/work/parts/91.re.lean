/-! ===== the reference: reduce ===== -/
theorem sp_red_IA2 {T : List sp_E} (hw : sp_wT T) (hs : sp_srt T) {v : Nat} {e : sp_E} (he : T[v]? = some e) : sp_IA T e.1 (sp_rk T v) (sp_red T v) := by
  have hvl : v < T.length := (List.getElem?_eq_some_iff.mp he).1
  have hxo : sp_xo T v = e.2.2 := by unfold sp_xo; rw [he]
  have htp : sp_tp T v = e.1 := by unfold sp_tp; rw [he]
  have hrkv : sp_rk T v = sp_cnt (T.take v) e.1 := by unfold sp_rk; rw [he]
  obtain ⟨w1, w2, w3, -⟩ := hw.2 v e he
  have hIA0 : sp_IA T e.1 (sp_upto T e.1 (sp_size e.2.2)) [] := ⟨List.nodup_nil, fun x z => absurd z List.not_mem_nil⟩
  have hIA1 := sp_prs_IA hw hs (t := e.1) (z := sp_size e.2.2) 8 v e [] he (by unfold sp_sz; omega) hIA0
  have hlo : sp_upto T e.1 (sp_size e.2.2) ≤ sp_rk T v := by
    rw [hrkv]; exact sp_upto_cut hs he (by unfold sp_sz; omega)
  have hlen : sp_rk T v < (sp_of T e.1).length := by
    have := (List.getElem?_eq_some_iff.mp (sp_rk_in hvl)).1
    rw [htp] at this
    exact this
  have key : ∀ (i r : Nat) (acc : List Nat), r + i = sp_rk T v → sp_IA T e.1 r acc → sp_IA T e.1 (sp_rk T v) (acc ++ (((sp_of T e.1).take (sp_rk T v)).drop r).filter (fun w => decide (sp_sh (sp_cd T v) = sp_sh (sp_cd T w) ∧ sp_ham (sp_cd T v) (sp_cd T w) = 1))) := by
    intro i
    induction i with
    | zero =>
      intro r acc hr hIA
      rw [List.drop_eq_nil_of_le (by rw [List.length_take]; omega), List.filter_nil, List.append_nil]
      exact sp_IA_up hIA (by omega)
    | succ i ih =>
      intro r acc hr hIA
      have hrl2 : r < (sp_of T e.1).length := by omega
      have hwr : (sp_of T e.1)[r]? = some (sp_of T e.1)[r] := List.getElem?_eq_getElem hrl2
      obtain ⟨z1, z2, z3⟩ := sp_rk_of hwr
      have hd1 : ((sp_of T e.1).take (sp_rk T v)).drop r = (sp_of T e.1)[r] :: ((sp_of T e.1).take (sp_rk T v)).drop (r + 1) := by
        rw [List.drop_eq_getElem_cons (by rw [List.length_take]; omega), List.getElem_take]
      rw [hd1]
      by_cases hc : sp_sh (sp_cd T v) = sp_sh (sp_cd T (sp_of T e.1)[r]) ∧ sp_ham (sp_cd T v) (sp_cd T (sp_of T e.1)[r]) = 1
      · rw [List.filter_cons_of_pos (by simpa using hc)]
        have hnot : (sp_of T e.1)[r] ∉ acc := fun hm => by
          have := (hIA.2 _ hm).2.2
          omega
        have := ih (r + 1) (acc ++ [(sp_of T e.1)[r]]) (by omega) (sp_IA_snoc (sp_IA_up hIA (by omega)) z1 z2 (by omega) hnot)
        rwa [List.append_assoc, List.singleton_append] at this
      · rw [List.filter_cons_of_neg (by simpa using hc)]
        exact ih (r + 1) acc (by omega) (sp_IA_up hIA (by omega))
  have := key (sp_rk T v - sp_upto T e.1 (sp_size e.2.2)) (sp_upto T e.1 (sp_size e.2.2)) _ (by omega) hIA1
  show sp_IA T e.1 (sp_rk T v) (sp_prs T (sp_tp T v) 8 v [] ++ sp_dec T v)
  unfold sp_dec
  rw [htp, hxo, show 1 + sp_size e.2.2 - 1 = sp_size e.2.2 by omega]
  exact this
/-- what a reduce costs: findReductions of each value that is come to -/
def go_C (T : List sp_E) (p : Nat) : Nat → Nat → Nat
  | 0, _ => 0
  | f + 1, v => if sp_cond p (sp_xo T v) then 0 else fr_C T v + (match (sp_red T v).find? (po_unfit T p) with
    | none => 0
    | some w => go_C T p f w)
def go_S (T : List sp_E) (p : Nat) : Nat → Nat → Nat
  | 0, _ => 0
  | f + 1, v => if sp_cond p (sp_xo T v) then 0 else fr_S T v + (match (sp_red T v).find? (po_unfit T p) with
    | none => 0
    | some w => go_S T p f w)
def re_f (T : List sp_E) (p : Nat) (l : List Nat) : Int32 := match l.find? (po_unfit T p) with
  | none => -1
  | some w => nI (sp_rk T w)
def lk_f2 (R R' : rw_S) : Prop := lk_fr R.1 R'.1 ∧ R'.2 = R.2
theorem lk_f2_rfl (R : rw_S) : lk_f2 R R := ⟨fun _ _ _ => rfl, rfl⟩
theorem lk_f2_tr {R1 R2 R3 : rw_S} (a : lk_f2 R1 R2) (b : lk_f2 R2 R3) : lk_f2 R1 R3 := ⟨fun i x y => (b.1 i x y).trans (a.1 i x y), b.2.trans a.2⟩
theorem lk_f2_fx {R R' : rw_S} (a : lk_f2 R R') : rw_fx R R' := ⟨fun i _ y z _ => a.1 i y z, fun i _ _ => by rw [a.2], by rw [a.2]⟩
section RE
variable {G : ax_G} {A : rw_Ad}
theorem re_down (hA : rw_nd A) {g : sp_G} (hw : sp_wg g) (d mc ms : Nat) (h : ax_H) {cn sn p mn : Nat} (hp5 : p ≤ 5) (hcn : cn ≤ mc) (hsn : sn ≤ ms) {T : List sp_E} (hwT : sp_wT T) (hty : sp_ty g T) {t : Nat} (ht : t < 4) {Ws : List Nat} (hWl : Ws.length ≤ 300) (hWs : ∀ w ∈ Ws, w < T.length ∧ sp_tp T w = t) (R0 : rw_S) (hI : fr_I A g T t R0 h) (hr : rr_L (Ws.map (sp_rk T)) R0) {Q : ax_P} (kk : ∀ R', lk_f2 R0 R' → AW G mX7_reduce (d + 48) mc ms Q 63 [(0, .ref (A.1 0)), (1, .int (nI p)), (2, .int (nI mn)), (3, .int 1), (4, .int (re_f T p Ws)), (5, .int (-1))] [] (rw_O A R' h) cn sn) : ∀ (j : Nat) (R : rw_S), j ≤ Ws.length → lk_f2 R0 R → AW G mX7_reduce (d + 48) mc ms Q 63 [(0, .ref (A.1 0)), (1, .int (nI p)), (2, .int (nI mn)), (3, .int 1), (4, .int (re_f T p (Ws.drop j))), (5, .int (nI j - 1))] [] (rw_O A R h) cn sn := by
  intro j
  induction j with
  | zero => intro R _ hf; exact kk R hf
  | succ k ih =>
    intro R hj hf
    have hkl : k < Ws.length := by omega
    have hm := hWs _ (List.getElem_mem hkl)
    have he : T[Ws[k]]? = some T[Ws[k]] := List.getElem?_eq_getElem hm.1
    have hfx := lk_f2_fx hf
    have hIR : fr_I A g T t R h := ⟨rw_fx_g hfx hI.1, rw_fx_T hfx hI.2.1, (hf.1 12 (by decide) (by decide)).trans hI.2.2.1, (hf.1 10 (by decide) (by decide)).trans hI.2.2.2⟩
    have hin := sp_rk_in hm.1
    rw [hm.2] at hin
    obtain ⟨e, f1, f2, f3, f4, f5, f6, f7, f8, -⟩ := rw_T_at hIR.2.1 hwT hin
    have hgk : (Ws.map (sp_rk T))[k]? = some (sp_rk T Ws[k]) := by rw [List.getElem?_map, List.getElem?_eq_getElem hkl]; rfl
    have hk11 : R.2.1 11 k = nI (sp_rk T Ws[k]) := by rw [hf.2]; exact (hr.2.2 k _ hgk).1
    have hr3 : sp_rk T Ws[k] < 300 := (hr.2.2 k _ hgk).2
    have hxo : sp_xo T Ws[k] = e.2.2 := by unfold sp_xo; rw [f1]
    have hdr : Ws.drop k = Ws[k] :: Ws.drop (k + 1) := List.drop_eq_getElem_cons hkl
    have hpr : nI (k + 1) - 1 = nI k := nI_pred k
    rw [hpr]
    have htr : AW G mX7_isTrueOf (d + 46 + 1) 0 0 (fun r h1 => r = .inl (some (.int (if sp_cond p e.2.2 then 1 else 0))) ∧ ∃ R', h1 = rw_O A R' h ∧ lk_f2 R R') 0 [(0, .ref (A.1 0)), (1, .int (nI Ws[k])), (2, .int (nI p))] [] (rw_O A R h) 0 0 := r_trueOf hA hw (d + 46) (by omega) R h hIR.1 hIR.2.1 hwT hty f1 hp5 (fun s' z => ⟨rfl, (s', R.2), rfl, z, rfl⟩)
    cases hc : sp_cond p e.2.2 with
    | true =>
      rw [hc] at htr
      refine rx_fit hA d mc ms R h ht hr3 (by omega) hcn hsn hIR.2.2.2 hk11 f8 htr (fun R' w1 => ?_)
      have := ih R' (by omega) (lk_f2_tr hf w1)
      have e1 : re_f T p (Ws.drop k) = re_f T p (Ws.drop (k + 1)) := by
        unfold re_f
        rw [hdr, List.find?_cons_of_neg (by unfold po_unfit; rw [hxo, hc]; decide)]
      rw [e1] at this
      exact this
    | false =>
      rw [hc] at htr
      refine rx_unf hA d mc ms R h ht hr3 (by omega) hcn hsn hIR.2.2.2 hk11 f8 htr (fun R' w1 => by rw [w1.2]; exact hk11) (fun R' w1 => ?_)
      have := ih R' (by omega) (lk_f2_tr hf w1)
      have e1 : re_f T p (Ws.drop k) = nI (sp_rk T Ws[k]) := by
        unfold re_f
        rw [hdr, List.find?_cons_of_pos (by unfold po_unfit; rw [hxo, hc]; decide)]
      rw [e1] at this
      exact this
theorem re_go (hA : rw_nd A) (d mc ms : Nat) {σ : sp_St} (hG : sp_gd (po_T σ) σ.1.1) {p : Nat} (hp5 : p ≤ 5) {Q : ax_P} : ∀ (f v mn cn sn : Nat) (R : rw_S) (h : ax_H), RI A (σ.1, σ.2.1, some v) R h → po_unfit (po_T σ) p v = true → sp_rk (po_T σ) v < f → R.1 0 = 0 → cn + go_C (po_T σ) p f v ≤ mc → sn + go_S (po_T σ) p f v ≤ ms → (∀ R' h', hx_le h h' → RI A (σ.1, σ.2.1, some (po_go (po_T σ) p f v).2) R' h' → R'.1 0 = 0 → Q (.inl (some (.int (nI (mn + (po_go (po_T σ) p f v).1))))) (rw_O A R' h')) → AW G mX7_reduce (d + 48) mc ms Q 44 [(0, .ref (A.1 0)), (1, .int (nI p)), (2, .int (nI mn)), (3, .int 1)] [] (rw_O A R h) cn sn := by
  intro f
  induction f with
  | zero => intro v mn cn sn R h _ _ hf; exact absurd hf (Nat.not_lt_zero _)
  | succ f ih =>
    intro v mn cn sn R h hR hun hrk h0 hcn hsn hq
    have hwT : sp_wT (po_T σ) := (tb_ok hR.1).1
    have hs2 : sp_srt (po_T σ) := (tb_ok hR.1).2.1
    have hty : sp_ty σ.1 (po_T σ) := sp_tab_ty hR.1
    have hvl : v < (po_T σ).length := hR.2.2.2.2.1
    have he : (po_T σ)[v]? = some (po_T σ)[v] := List.getElem?_eq_getElem hvl
    obtain ⟨e, he⟩ : ∃ e, (po_T σ)[v]? = some e := ⟨_, he⟩
    have htp : sp_tp (po_T σ) v = e.1 := by unfold sp_tp; rw [he]
    have ht4 : e.1 < 4 := (hwT.2 v e he).1
    have hc : ¬ sp_cond p (sp_xo (po_T σ) v) = true := by
      unfold po_unfit at hun
      intro z
      rw [z] at hun; cases hun
    have hIA := sp_red_IA2 hwT hs2 he
    have hIl := sp_IA_len hIA
    have hrk3 : sp_rk (po_T σ) v ≤ 300 := by
      have h1 := sp_rk_upto hs2 he (Nat.le_refl _)
      have h2 : sp_upto (po_T σ) e.1 (sp_sz e) ≤ 300 := Nat.le_trans (List.countP_le_length) hwT.1
      omega
    have hred := hG.2 v hvl
    have eC : go_C (po_T σ) p (f + 1) v = fr_C (po_T σ) v + (match (sp_red (po_T σ) v).find? (po_unfit (po_T σ) p) with
      | none => 0
      | some w => go_C (po_T σ) p f w) := if_neg hc
    have eS : go_S (po_T σ) p (f + 1) v = fr_S (po_T σ) v + (match (sp_red (po_T σ) v).find? (po_unfit (po_T σ) p) with
      | none => 0
      | some w => go_S (po_T σ) p f w) := if_neg hc
    have eG : po_go (po_T σ) p (f + 1) v = (match (sp_red (po_T σ) v).find? (po_unfit (po_T σ) p) with
      | none => (0, v)
      | some w => ((po_go (po_T σ) p f w).1 + 1, (po_go (po_T σ) p f w).2)) := if_neg hc
    rw [eC] at hcn
    rw [eS] at hsn
    rw [eG] at hq
    have hfr := r_fred (G := G) hA (d + 37) R h hR rfl hG.1 (Q := fun r h1 => r = .inl none ∧ ∃ R' h', h1 = rw_O A R' h' ∧ rr_fr R R' ∧ hx_le h h' ∧ rr_L (rf_list (po_T σ) σ.1.1 v) R') (fun R' h' a b c => ⟨rfl, R', h', rfl, a, b, c⟩)
    refine rx_b hA d mc ms R h (nc := fr_C (po_T σ) v) (ns := fr_S (po_T σ) v) (n := (sp_red (po_T σ) v).length) (by omega) (by omega) (P1 := fun R' h' => rr_fr R R' ∧ hx_le h h' ∧ rr_L (rf_list (po_T σ) σ.1.1 v) R') (fun R' h' w1 => by have := w1.2.2.1; rw [hred, List.length_map] at this; exact this) hfr (fun R1 h1 w1 => ?_)
    obtain ⟨w1, w2, w3⟩ := w1
    rw [hred] at w3
    have hR1 : RI A (σ.1, σ.2.1, some v) R1 h1 := RI_fx (rr_fx w1) (RI_le w2 hR)
    obtain ⟨e2, b2, f2, o1, o2, o3, o4, o5, o6, o7, -⟩ := rs_ok hR1 rfl
    have o4 : (po_T σ)[v]? = some e2 := o4
    rw [he] at o4
    cases o4
    have hI1 : fr_I A σ.1 (po_T σ) e.1 R1 h1 := ⟨hR1.2.1, o1, o2, o7⟩
    have hst := re_down (G := G) hA hR.1 d mc ms h1 (cn := cn + fr_C (po_T σ) v) (sn := sn + fr_S (po_T σ) v) (p := p) (mn := mn) hp5 (by omega) (by omega) hwT hty ht4 (Ws := sp_red (po_T σ) v) (by omega) (fun w hw => ⟨(hIA.2 w hw).1, (hIA.2 w hw).2.1⟩) R1 hI1 w3 (Q := Q) (fun R2 k1 => ?_) (sp_red (po_T σ) v).length R1 (Nat.le_refl _) (lk_f2_rfl R1)
    · rw [List.drop_length] at hst
      exact hst
    · have hR2 : RI A (σ.1, σ.2.1, some v) R2 h1 := RI_fx (lk_f2_fx k1) hR1
      have h02 : R2.1 0 = 0 := (k1.1 0 (by decide) (by decide)).trans ((w1.1 0 (by decide)).trans h0)
      cases hfd : (sp_red (po_T σ) v).find? (po_unfit (po_T σ) p) with
      | none =>
        rw [hfd] at hq
        have e1 : re_f (po_T σ) p (sp_red (po_T σ) v) = -1 := by unfold re_f; rw [hfd]
        rw [e1]
        exact rx_e0 hA d mc ms R2 h1 (hq R2 h1 w2 hR2 h02)
      | some w =>
        rw [hfd] at hq hcn hsn
        have e1 : re_f (po_T σ) p (sp_red (po_T σ) v) = nI (sp_rk (po_T σ) w) := by unfold re_f; rw [hfd]
        rw [e1]
        have hwm := List.mem_of_find?_eq_some hfd
        have hwu := List.find?_some hfd
        obtain ⟨q1, q2, q3⟩ := hIA.2 w hwm
        refine rx_e1 hA d mc ms R2 h1 (by omega) ?_
        have h12 : R2.1 12 = 1 := hR2.2.2.2.2.2.2.2
        have h10 : R2.1 10 = nI (sp_tp (po_T σ) w) := by
          rw [q2, ← htp]; exact hR2.2.2.2.2.2.1
        have hRw : RI A (σ.1, σ.2.1, some w) (rw_setS R2 11 (nI (sp_rk (po_T σ) w))) h1 := by
          obtain ⟨r1, r2, r3, r4, r5⟩ := hR2
          exact ⟨r1, r2, r3, r4, q1, h10, rfl, h12⟩
        refine ih w (mn + 1) _ _ _ h1 hRw hwu (by omega) h02 ?_ ?_ (fun R3 h3 m1 m2 m3 => ?_)
        · have : cn + (fr_C (po_T σ) v + go_C (po_T σ) p f w) ≤ mc := hcn
          omega
        · have : sn + (fr_S (po_T σ) v + go_S (po_T σ) p f w) ≤ ms := hsn
          omega
        · have := hq R3 h3 (hx_tr w2 m1) m2 m3
          rw [show mn + 1 + (po_go (po_T σ) p f w).1 = mn + ((po_go (po_T σ) p f w).1 + 1) by omega]
          exact this
end RE
