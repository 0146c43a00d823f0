/-! ===== the reference: findReductions, the parts ===== -/
/-- no two entries of a type spell one code -/
def sp_un (T : List sp_E) : Prop := ∀ v w, v < T.length → w < T.length → sp_tp T v = sp_tp T w → sp_cd T v = sp_cd T w → v = w
theorem fi_un {T : List sp_E} (hU : sp_un T) {w : Nat} (hw : w < T.length) : fi_res T (sp_tp T w) (sp_cd T w) = nI (sp_rk T w) := by
  unfold fi_res
  cases hf : (sp_of T (sp_tp T w)).find? (fun x => decide (sp_cd T x = sp_cd T w)) with
  | none =>
    have := List.find?_eq_none.mp hf w (List.mem_of_getElem? (sp_rk_in hw))
    simp at this
  | some x =>
    have h1 := List.find?_some hf
    have h2 := List.mem_of_find?_eq_some hf
    obtain ⟨i, hi⟩ := List.getElem?_of_mem h2
    obtain ⟨h3, h4, -⟩ := sp_rk_of hi
    have : x = w := hU x w h3 hw h4 (by simpa using h1)
    rw [this]
/-- the cells and slots that the parts cost -/
def pr_C (T : List sp_E) (t : Nat) : Nat → Nat → Nat
  | 0, _ => 0
  | f + 1, v => ((sp_xo T v).map (fun x => match x with
    | .inl _ => 0
    | .inr q => (if sp_tp T q.1 = t then 1 else 0) + pr_C T t f q.1)).sum
def pr_S (T : List sp_E) (t : Nat) : Nat → Nat → Nat
  | 0, _ => 0
  | f + 1, v => ((sp_xo T v).map (fun x => match x with
    | .inl _ => 0
    | .inr q => (if sp_tp T q.1 = t then (sp_cd T q.1).length else 0) + pr_S T t f q.1)).sum
/-- the state that findReductions needs -/
def fr_I (A : rw_Ad) (g : sp_G) (T : List sp_E) (t : Nat) (R : rw_S) (h : ax_H) : Prop := rw_gr R g ∧ rw_T A R h T ∧ R.1 12 = 1 ∧ R.1 10 = nI t
theorem fr_I_mv {A : rw_Ad} {g : sp_G} {T : List sp_E} {t : Nat} {R R' : rw_S} {h h' : ax_H} (hI : fr_I A g T t R h) (hr : rr_fr R R') (hl : hx_le h h') : fr_I A g T t R' h' := ⟨rw_fx_g (rr_fx hr) hI.1, rw_T_le hl (rw_fx_T (rr_fx hr) hI.2.1), (hr.1 12 (by decide)).trans hI.2.2.1, (hr.1 10 (by decide)).trans hI.2.2.2⟩
theorem rk_mem {T : List sp_E} {t B w : Nat} {acc : List Nat} (h : sp_IA T t B acc) (hw : w < T.length) (ht : sp_tp T w = t) : sp_rk T w ∈ acc.map (sp_rk T) ↔ w ∈ acc := by
  constructor
  · intro z
    obtain ⟨x, x1, x2⟩ := List.mem_map.mp z
    have := h.2 x x1
    rw [← sp_rk_inj this.1 hw (this.2.1.trans ht.symm) x2]; exact x1
  · exact fun z => List.mem_map.mpr ⟨w, z, rfl⟩
/-- one part more -/
def pr_st (T : List sp_E) (t : Nat) (acc : List Nat) (w : Nat) : List Nat := if sp_tp T w = t ∧ w ∉ acc then acc ++ [w] else acc
section FRL
variable {G : ax_G} {A : rw_Ad}
theorem fr_had (hA : rw_nd A) (d : Nat) (R : rw_S) (h : ax_H) {T : List sp_E} {t B w : Nat} {acc : List Nat} (hB : B ≤ 300) (hIA : sp_IA T t B acc) (hw : w < T.length) (ht : sp_tp T w = t) (hr3 : sp_rk T w < 300) (hr : rr_L (acc.map (sp_rk T)) R) : AW G mX7_add d 0 0 (fun r h1 => r = .inl none ∧ ∃ R', h1 = rw_O A R' h ∧ rr_fr R R' ∧ rr_L ((pr_st T t acc w).map (sp_rk T)) R') 0 [(0, .ref (A.1 0)), (1, .int (nI (sp_rk T w)))] [] (rw_O A R h) 0 0 := by
  have hl := sp_IA_len hIA
  refine r_add hA d R h hr (by rw [List.length_map]; omega) hr3 (fun z => ⟨rfl, R, rfl, rr_fr_rfl R, ?_⟩) (fun z R' w1 w2 => ⟨rfl, R', rfl, w1, ?_⟩)
  · have := (rk_mem hIA hw ht).mp z
    unfold pr_st
    rw [if_neg (fun k => k.2 this)]; exact hr
  · have : w ∉ acc := fun k => z ((rk_mem hIA hw ht).mpr k)
    unfold pr_st
    rw [if_pos ⟨ht, this⟩, List.map_append]; exact w2
theorem fr_in (hA : rw_nd A) {g : sp_G} (hw : sp_wg g) (d mc ms : Nat) {T : List sp_E} (hwT : sp_wT T) (hty : sp_ty g T) (hs : sp_srt T) (hU : sp_un T) {t z : Nat} (ht : t < 4) {ca : Nat} {L : List Nat} (hN : L.length ≤ 40) {Q : ax_P} : ∀ (n w : Nat) (e : sp_E), T[w]? = some e → sp_sz e ≤ n → sp_sz e ≤ z + 1 → ∀ (a cn sn : Nat) (rest acc : List Nat) (R : rw_S) (h : ax_H), L.drop a = (e.2.2.map (sp_pc T)).flatten ++ rest → rw_row A h ca L → fr_I A g T t R h → sp_IA T t (sp_upto T t z) acc → rr_L (acc.map (sp_rk T)) R → cn + pr_C T t n w ≤ mc → sn + pr_S T t n w ≤ ms → (∀ R' h', rr_fr R R' → hx_le h h' → rr_L ((sp_prs T t n w acc).map (sp_rk T)) R' → AW G mX7_findReductions (d + 10) mc ms Q 17 [(0, .ref (A.1 0)), (1, .ref ca), (2, .int (nI (a + (e.2.2.map (sp_pc T)).flatten.length)))] [] (rw_O A R' h') (cn + pr_C T t n w) (sn + pr_S T t n w)) → AW G mX7_findReductions (d + 10) mc ms Q 17 [(0, .ref (A.1 0)), (1, .ref ca), (2, .int (nI a))] [] (rw_O A R h) cn sn := by
  have hB : sp_upto T t z ≤ 300 := Nat.le_trans (List.countP_le_length) hwT.1
  intro n
  induction n with
  | zero =>
    intro w e he hz
    unfold sp_sz at hz
    omega
  | succ n ih =>
    intro w e he hz hz1 a cn sn rest acc R h hL hrow hI hIA hr hcn hsn kk
    have hxo : sp_xo T w = e.2.2 := by unfold sp_xo; rw [he]
    have hCe : pr_C T t (n + 1) w = (e.2.2.map (fun x => match x with
      | .inl _ => 0
      | .inr q => (if sp_tp T q.1 = t then 1 else 0) + pr_C T t n q.1)).sum := by show ((sp_xo T w).map _).sum = _; rw [hxo]
    have hSe : pr_S T t (n + 1) w = (e.2.2.map (fun x => match x with
      | .inl _ => 0
      | .inr q => (if sp_tp T q.1 = t then (sp_cd T q.1).length else 0) + pr_S T t n q.1)).sum := by show ((sp_xo T w).map _).sum = _; rw [hxo]
    have hPe : sp_prs T t (n + 1) w acc = e.2.2.foldl (fun acc x => match x with
      | .inl _ => acc
      | .inr q => sp_prs T t n q.1 (pr_st T t acc q.1)) acc := by show (sp_xo T w).foldl _ acc = _; rw [hxo]; rfl
    rw [hCe] at hcn kk
    rw [hSe] at hsn kk
    rw [hPe] at kk
    have hx : ∀ x ∈ e.2.2, (∀ m, x = .inl m → m ≤ 5) ∧ ∀ q, x = .inr q → ∃ e', T[q.1]? = some e' ∧ sp_sz e' ≤ n ∧ sp_sz e' ≤ z := fun x hx => ⟨fun m hm => (hwT.2 w e he).2.2.2.2.2.2.1 m (hm ▸ hx), fun q hq => by
      obtain ⟨e', -, h2, -, h4⟩ := sp_part_lt hwT he (hq ▸ hx)
      exact ⟨e', h2, by omega, by omega⟩⟩
    clear hCe hSe hPe hxo he
    revert hx
    generalize e.2.2 = xs at *
    clear hz hz1
    induction xs generalizing a cn sn acc R h with
    | nil =>
      intro _
      exact kk R h (rr_fr_rfl R) (hx_rfl h) hr
    | cons x xs ihx =>
      intro hx
      obtain ⟨f, hft, hff⟩ := id hrow
      rw [List.map_cons, List.flatten_cons, List.append_assoc] at hL
      rw [List.map_cons, List.sum_cons] at hcn hsn
      rw [List.map_cons, List.map_cons, List.map_cons, List.sum_cons, List.sum_cons, List.flatten_cons, List.length_append, List.foldl_cons] at kk
      have hxs : ∀ y ∈ xs, (∀ m, y = .inl m → m ≤ 5) ∧ ∀ q, y = .inr q → ∃ e', T[q.1]? = some e' ∧ sp_sz e' ≤ n ∧ sp_sz e' ≤ z := fun y hy => hx y (List.mem_cons_of_mem _ hy)
      cases x with
      | inl m =>
        dsimp only at hcn hsn kk
        have hm5 := (hx _ List.mem_cons_self).1 m rfl
        have hLa : L[a]? = some m := by
          have := congrArg (fun l => l[0]?) hL
          simpa [sp_pc] using this
        have hal : a < L.length := (List.getElem?_eq_some_iff.mp hLa).1
        refine fr_int hA d mc ms R h hft hN hal (hff a m hLa) hm5 ?_
        refine ihx (a + 1) cn sn acc R h hrow hI hIA hr ?_ ?_ ?_ ?_ hxs
        · rw [← List.drop_drop, hL]; rfl
        · rw [Nat.zero_add] at hcn; exact hcn
        · rw [Nat.zero_add] at hsn; exact hsn
        · intro R' h' k1 k2 k3
          have := kk R' h' k1 k2 k3
          rw [Nat.zero_add, Nat.zero_add] at this
          rw [show a + 1 + ((xs.map (sp_pc T)).flatten).length = a + ((sp_pc T (.inl m)).length + ((xs.map (sp_pc T)).flatten).length) by show _ = a + (1 + _); omega]
          exact this
      | inr q =>
        dsimp only at hcn hsn kk
        obtain ⟨e', he', hsz, hszz⟩ := (hx _ List.mem_cons_self).2 q rfl
        have hql := (List.getElem?_eq_some_iff.mp he').1
        have hcde := sp_cd_eq hwT he'
        have hpc : sp_pc T (.inr q) = sp_cd T q.1 := rfl
        obtain ⟨i1, i2, i3⟩ := cd_it hw hwT hty he'
        have hLa : L[a]? = some (100 + e'.2.1) := by
          have := congrArg (fun l => l[0]?) hL
          rw [hpc, hcde] at this
          simpa using this
        have hal : a < L.length := (List.getElem?_eq_some_iff.mp hLa).1
        obtain ⟨cq, c1, c2, -⟩ := hty e' (List.mem_of_getElem? he')
        have hc6 : e'.2.1 < 6 := by
          have := (List.getElem?_eq_some_iff.mp c1).1
          have := hw.2.2.2.1
          omega
        have hown : R.2.1 1 e'.2.1 = nI e'.1 := by rw [← c2]; exact (hI.1.2.2.2.2 _ _ c1).1
        have htp : sp_tp T q.1 = e'.1 := by unfold sp_tp; rw [he']
        have he4 : e'.1 < 4 := (hwT.2 _ _ he').1
        have hlen : (sp_cd T q.1).length = 1 + ((e'.2.2.map (sp_pc T)).flatten).length := by rw [hcde, List.length_cons]; omega
        -- the rest: inside q, then behind it
        have hgo : ∀ (acc' : List Nat) (cn' sn' : Nat) (R1 : rw_S) (h1 : ax_H), rr_fr R R1 → hx_le h h1 → acc' = pr_st T t acc q.1 → rr_L (acc'.map (sp_rk T)) R1 → cn' = cn + (if sp_tp T q.1 = t then 1 else 0) → sn' = sn + (if sp_tp T q.1 = t then (sp_cd T q.1).length else 0) → AW G mX7_findReductions (d + 10) mc ms Q 17 [(0, .ref (A.1 0)), (1, .ref ca), (2, .int (nI (a + 1)))] [] (rw_O A R1 h1) cn' sn' := by
          intro acc' cn' sn' R1 h1 g1 g2 g3 g4 g5 g6
          have hIA' : sp_IA T t (sp_upto T t z) acc' := by
            rw [g3]
            unfold pr_st
            split
            · rename_i hc
              exact sp_IA_snoc hIA hql hc.1 (by rw [← hc.1, htp]; exact sp_rk_upto hs he' hszz) hc.2
            · exact hIA
          subst g5 g6
          refine ih q.1 e' he' hsz (by omega) (a + 1) _ _ ((xs.map (sp_pc T)).flatten ++ rest) acc' R1 h1 ?_ (rw_row_le g2 hrow) (fr_I_mv hI g1 g2) hIA' g4 (by omega) (by omega) (fun R2 h2 k1 k2 k3 => ?_)
          · rw [← List.drop_drop, hL, hpc, hcde]; rfl
          · rw [show a + 1 + ((e'.2.2.map (sp_pc T)).flatten).length = a + (sp_cd T q.1).length by rw [hlen]; omega]
            refine ihx (a + (sp_cd T q.1).length) _ _ (sp_prs T t n q.1 acc') R2 h2 (rw_row_le (hx_tr g2 k2) hrow) (fr_I_mv hI (rr_fr_tr g1 k1) (hx_tr g2 k2)) (sp_prs_IA hwT hs n q.1 e' acc' he' (by omega) hIA') k3 ?_ (by omega) (by omega) (fun R3 h3 m1 m2 m3 => ?_) hxs
            · rw [← List.drop_drop, hL, hpc, List.drop_left]
            · rw [g3] at m3
              have := kk R3 h3 (rr_fr_tr (rr_fr_tr g1 k1) m1) (hx_tr (hx_tr g2 k2) m2) m3
              rw [hpc] at this
              rw [Nat.add_assoc a, Nat.add_assoc cn, Nat.add_assoc sn, Nat.add_assoc cn, Nat.add_assoc sn]
              exact this
        by_cases hte : e'.1 = t
        · have hPN : a + (sp_cd T q.1).length ≤ L.length := by
            have := congrArg List.length hL
            rw [List.length_drop, List.length_append, hpc] at this
            omega
          have e1 : (if sp_tp T q.1 = t then 1 else 0) = 1 := if_pos (htp.trans hte)
          have e2 : (if sp_tp T q.1 = t then (sp_cd T q.1).length else 0) = (sp_cd T q.1).length := if_pos (htp.trans hte)
          rw [e1, e2] at hgo
          have hcn' : cn + 1 ≤ mc := by rw [e1] at hcn; omega
          have hsn' : sn + (sp_cd T q.1).length ≤ ms := by rw [e2] at hsn; omega
          refine fr_own hA d mc ms R h hft hN hal (hff a _ hLa) hc6 (hown.trans (by rw [hte])) hI.2.2.2 ht ?_
          refine fr_cpy hA d mc ms R h hft hN (P := sp_cd T q.1) hPN (fun i x hi => ?_) (r_end hA hw R hI.1 h (L := L) ⟨Nat.le_refl _, by omega, hff⟩ (rw_rd hft) 8 e'.1 a (sp_cd T q.1) _ i3 hL (d + 9) (by omega)) (by omega) (by omega) (fun x h1 k1 k2 => ?_)
          · refine hff (a + i) x ?_
            have := congrArg (fun l => l[i]?) hL
            rw [hpc] at this
            rw [List.getElem?_drop, List.getElem?_append_left (List.getElem?_eq_some_iff.mp hi).1] at this
            exact this.trans hi
          · obtain ⟨fx, hxt, hxf⟩ := id k2
            have hI1 := fr_I_mv hI (rr_fr_rfl R) k1
            have hfi := r_find (G := G) hA (d + 7) R h1 (L := sp_cd T q.1) ⟨Nat.le_refl _, by omega, hxf⟩ (fun b hb => by have := cd_ent hw hwT hty _ _ _ he' (Nat.lt_succ_self _) b hb; omega) (rw_rd hxt) hI1.2.2.1 hI1.2.1 hwT (fun v e0 h0 b hb => by have := cd_ent hw hwT hty _ _ _ h0 (Nat.lt_succ_self _) b hb; omega) ht
            have hu := fi_un hU hql
            rw [htp, hte] at hu
            rw [hu] at hfi
            have hrk3 : sp_rk T q.1 < 300 := Nat.lt_of_lt_of_le (sp_rk_upto hs he' hszz) (Nat.le_trans (List.countP_le_length) hwT.1)
            refine fr_add hA d mc ms R h1 (rw_at_le k1 hft) hN hxt (by omega) hI.2.2.2 (by omega) (by omega) hfi (fr_had hA (d + 9) R h1 hB hIA hql (htp.trans hte) hrk3 hr) (fun R' w1 => ?_)
            exact hgo _ _ _ R' h1 w1.1 k1 rfl w1.2 rfl rfl
        · have hne : ¬ sp_tp T q.1 = t := fun k => hte (htp.symm.trans k)
          refine fr_oth hA d mc ms R h hft hN hal (hff a _ hLa) hc6 hown hI.2.2.2 hte he4 ht ?_
          refine hgo acc cn sn R h (rr_fr_rfl R) (hx_rfl h) ?_ hr ?_ ?_
          · unfold pr_st; rw [if_neg (fun k => hne k.1)]
          · rw [if_neg hne]; rfl
          · rw [if_neg hne]; rfl
end FRL
