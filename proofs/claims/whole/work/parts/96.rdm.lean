/-! ===== the reference's reductions are the class's: the two lists ===== -/
theorem sh_small {x : Nat} (h : x < 100) (r : List Nat) : sp_sh (x :: r) = 0 :: sp_sh r := by
  have : ¬ 100 ≤ x := by omega
  simp [sp_sh, this]
theorem sh_set {L : List Nat} {b x m : Nat} (h : L[b]? = some x) (hx : x < 100) (hm : m < 100) : sp_sh (L.set b m) = sp_sh L := by
  obtain ⟨s1, s2⟩ := set_split h m
  rw [s2]
  conv => rhs; rw [s1]
  rw [sp_sh_app, sp_sh_app, sh_small hx, sh_small hm]
theorem ham_self (L : List Nat) : sp_ham L L = 0 := by
  induction L with
  | nil => rfl
  | cons a L ih =>
    unfold sp_ham at ih ⊢
    rw [List.zip_cons_cons, List.countP_cons, ih]
    simp
theorem ham_cons (a b : Nat) (L M : List Nat) : sp_ham (a :: L) (b :: M) = sp_ham L M + (if a = b then 0 else 1) := by
  unfold sp_ham
  rw [List.zip_cons_cons, List.countP_cons]
  by_cases h : a = b <;> simp [h]
theorem ham_set {L : List Nat} {b x m : Nat} (h : L[b]? = some x) (hm : x ≠ m) : sp_ham L (L.set b m) = 1 := by
  obtain ⟨s1, s2⟩ := set_split h m
  rw [s2]
  conv => lhs; arg 1; rw [s1]
  rw [sp_ham_app rfl, ham_self, ham_cons, ham_self, if_neg hm]
theorem ham_zero : ∀ (L M : List Nat), L.length = M.length → sp_ham L M = 0 → L = M := by
  intro L
  induction L with
  | nil =>
    intro M hl _
    cases M with
    | nil => rfl
    | cons b M => simp at hl
  | cons a L ih =>
    intro M hl h
    cases M with
    | nil => simp at hl
    | cons b M =>
      rw [ham_cons] at h
      have hab : a = b := Decidable.byContradiction (fun z => by rw [if_neg z] at h; omega)
      rw [hab, ih M (by simpa using hl) (by omega)]
theorem ham_one : ∀ (L M : List Nat), L.length = M.length → sp_ham L M = 1 → ∃ (pre : List Nat) (x m : Nat) (r : List Nat), L = pre ++ x :: r ∧ M = pre ++ m :: r ∧ x ≠ m := by
  intro L
  induction L with
  | nil =>
    intro M hl h
    unfold sp_ham at h
    simp at h
  | cons a L ih =>
    intro M hl h
    cases M with
    | nil => simp at hl
    | cons b M =>
      rw [ham_cons] at h
      by_cases hab : a = b
      · rw [if_pos hab] at h
        obtain ⟨pre, x, m, r, h1, h2, h3⟩ := ih M (by simpa using hl) (by omega)
        exact ⟨a :: pre, x, m, r, by rw [h1]; rfl, by rw [h2, hab]; rfl, h3⟩
      · rw [if_neg hab] at h
        have := ham_zero L M (by simpa using hl) (by omega)
        exact ⟨[], a, b, L, rfl, by rw [this]; rfl, hab⟩
theorem fi_num_iff {T : List sp_E} (hU : sp_un T) {t : Nat} {M : List Nat} {r : Nat} : fi_num T t M = some r ↔ ∃ w, w < T.length ∧ sp_tp T w = t ∧ sp_cd T w = M ∧ sp_rk T w = r := by
  unfold fi_num
  constructor
  · intro h
    cases hf : (sp_of T t).find? (fun w => decide (sp_cd T w = M)) with
    | none => rw [hf] at h; cases h
    | some x =>
      rw [hf] at h
      obtain ⟨i, hi⟩ := List.getElem?_of_mem (List.mem_of_find?_eq_some hf)
      obtain ⟨h3, h4, -⟩ := sp_rk_of hi
      have h1 := List.find?_some hf
      exact ⟨x, h3, h4, by simpa using h1, by simpa using h⟩
  · rintro ⟨w, w1, w2, w3, w4⟩
    cases hf : (sp_of T t).find? (fun w => decide (sp_cd T w = M)) with
    | none =>
      have := List.find?_eq_none.mp hf w (by rw [← w2]; exact List.mem_of_getElem? (sp_rk_in w1))
      rw [w3] at this
      simp at this
    | some x =>
      obtain ⟨i, hi⟩ := List.getElem?_of_mem (List.mem_of_find?_eq_some hf)
      obtain ⟨h3, h4, -⟩ := sp_rk_of hi
      have h1 := List.find?_some hf
      have h1 : sp_cd T x = M := by simpa using h1
      have : x = w := hU x w h3 w1 (h4.trans w2.symm) (h1.trans w3.symm)
      rw [this, ← w4]; rfl
theorem of_td {T : List sp_E} {t a b w : Nat} : w ∈ ((sp_of T t).take a).drop b ↔ w < T.length ∧ sp_tp T w = t ∧ b ≤ sp_rk T w ∧ sp_rk T w < a := by
  constructor
  · intro h
    obtain ⟨i, hi⟩ := List.getElem?_of_mem h
    rw [List.getElem?_drop, List.getElem?_take] at hi
    split at hi
    · obtain ⟨h1, h2, h3⟩ := sp_rk_of hi
      exact ⟨h1, h2, by omega, by omega⟩
    · cases hi
  · rintro ⟨h1, h2, h3, h4⟩
    have := sp_rk_in h1
    rw [h2] at this
    refine List.mem_of_getElem? (i := sp_rk T w - b) ?_
    rw [List.getElem?_drop, List.getElem?_take, show b + (sp_rk T w - b) = sp_rk T w by omega, if_pos h4]
    exact this
theorem rd_eq {g : sp_G} (hw : sp_wg g) {T : List sp_E} (hwT : sp_wT T) (hty : sp_ty g T) (hs : sp_srt T) (hod : sp_od T) (hU : sp_un T) {v : Nat} (hv : v < T.length) : rf_list T g.1 v = (sp_red T v).map (sp_rk T) := by
  obtain ⟨e, he⟩ : ∃ e, T[v]? = some e := ⟨_, List.getElem?_eq_getElem hv⟩
  have htp : sp_tp T v = e.1 := by unfold sp_tp; rw [he]
  have hxo : sp_xo T v = e.2.2 := by unfold sp_xo; rw [he]
  have hsz : 1 + sp_size (sp_xo T v) - 1 = sp_sz e - 1 := by rw [hxo]; rfl
  have hs1 : 1 ≤ sp_sz e := by unfold sp_sz; omega
  have hIA := sp_prs_IA hwT hs (t := sp_tp T v) (z := sp_sz e - 1) 8 v e [] he (by omega) ⟨List.nodup_nil, fun x hx => absurd hx List.not_mem_nil⟩
  obtain ⟨ci1, ci2, ci3⟩ := cd_it hw hwT hty he
  -- an entry of v's shape
  have hshape : ∀ w, w < T.length → sp_tp T w = sp_tp T v → sp_sh (sp_cd T w) = sp_sh (sp_cd T v) → sp_upto T (sp_tp T v) (sp_sz e - 1) ≤ sp_rk T w := by
    intro w hwl hwt hsh
    obtain ⟨f, hf⟩ : ∃ f, T[w]? = some f := ⟨_, List.getElem?_eq_getElem hwl⟩
    obtain ⟨-, b2, -⟩ := cd_it hw hwT hty hf
    have hz : sp_sz f = sp_sz e := by rw [← b2, ← ci2, ← ci_sh, hsh, ci_sh]
    have htw : sp_tp T w = f.1 := by unfold sp_tp; rw [hf]
    have hrk : sp_rk T w = sp_cnt (T.take w) f.1 := by unfold sp_rk; rw [hf]
    rw [hrk, ← hwt, htw]
    exact sp_upto_cut hs hf (by omega)
  have hX : ((cn_l (sp_cd T v) g.1 ((sp_cd T v).length - 1) 1).filterMap (fi_num T (sp_tp T v))) = (sp_dec T v).map (sp_rk T) := by
    refine srt_ext _ _ ?_ ?_ (fun r => ?_)
    · rw [List.pairwise_filterMap]
      refine List.Pairwise.imp_of_mem ?_ (cn_pw _ _)
      intro M M' hM hM' hlt r hr r' hr'
      obtain ⟨b, x, m, h1, h2, h3, h4, h5, h6, rfl⟩ := (cn_mem _ _ M).mp hM
      obtain ⟨b', x', m', k1, k2, k3, k4, k5, k6, rfl⟩ := (cn_mem _ _ M').mp hM'
      obtain ⟨w, w1, w2, w3, w4⟩ := (fi_num_iff hU).mp hr
      obtain ⟨w', w1', w2', w3', w4'⟩ := (fi_num_iff hU).mp hr'
      rw [← w4, ← w4']
      have hsh : sp_sh (sp_cd T w) = sp_sh (sp_cd T w') := by rw [w3, w3', sh_set h3 h4 (by omega), sh_set k3 k4 (by omega)]
      refine (sp_rk_lt w1 w1' (w2.trans w2'.symm)).mp ((sp_ord2 hw hwT hty hod w1 w1' (w2.trans w2'.symm) hsh).1.mpr ?_)
      rw [w3, w3']; exact hlt
    · rw [List.pairwise_map]
      have hsub : (sp_dec T v).Sublist (sp_of T (sp_tp T v)) := List.Sublist.trans List.filter_sublist (List.Sublist.trans (List.drop_sublist _ _) (List.take_sublist _ _))
      refine List.Pairwise.imp_of_mem ?_ (List.Pairwise.sublist hsub (sp_of_pw T _))
      intro a b ha hb hab
      obtain ⟨i, hi⟩ := List.getElem?_of_mem (hsub.subset ha)
      obtain ⟨j, hj⟩ := List.getElem?_of_mem (hsub.subset hb)
      obtain ⟨a1, a2, -⟩ := sp_rk_of hi
      obtain ⟨b1, b2, -⟩ := sp_rk_of hj
      exact (sp_rk_lt a1 b1 (a2.trans b2.symm)).mp hab
    · rw [List.mem_filterMap, List.mem_map]
      unfold sp_dec
      rw [hsz]
      constructor
      · rintro ⟨M, hM, hr⟩
        obtain ⟨b, x, m, h1, h2, h3, h4, h5, h6, rfl⟩ := (cn_mem _ _ M).mp hM
        obtain ⟨w, w1, w2, w3, w4⟩ := (fi_num_iff hU).mp hr
        have hsh : sp_sh (sp_cd T w) = sp_sh (sp_cd T v) := by rw [w3, sh_set h3 h4 (by omega)]
        refine ⟨w, List.mem_filter.mpr ⟨of_td.mpr ⟨w1, w2, hshape w w1 w2 hsh, ?_⟩, ?_⟩, w4⟩
        · refine (sp_rk_lt w1 hv w2).mp ((sp_ord2 hw hwT hty hod w1 hv w2 hsh).1.mpr ?_)
          rw [w3, (set_split h3 m).2]
          conv => arg 2; rw [(set_split h3 m).1]
          exact ⟨_, m, x, _, _, rfl, rfl, h6⟩
        · have : sp_sh (sp_cd T v) = sp_sh (sp_cd T w) ∧ sp_ham (sp_cd T v) (sp_cd T w) = 1 := ⟨hsh.symm, by rw [w3]; exact ham_set h3 (by omega)⟩
          simpa using this
      · rintro ⟨w, hwm, hwr⟩
        obtain ⟨hw1, hw2⟩ := List.mem_filter.mp hwm
        obtain ⟨w1, w2, w3, w4⟩ := of_td.mp hw1
        have hw2 : sp_sh (sp_cd T v) = sp_sh (sp_cd T w) ∧ sp_ham (sp_cd T v) (sp_cd T w) = 1 := by simpa using hw2
        obtain ⟨pre, x, m, r0, e1, e2, e3⟩ := ham_one _ _ (sp_sh_len hw2.1) hw2.2
        have hlt : cd_lt (sp_cd T w) (sp_cd T v) := (sp_ord2 hw hwT hty hod w1 hv w2 hw2.1.symm).1.mp ((sp_rk_lt w1 hv w2).mpr w4)
        have hmx : m < x := by
          rcases Nat.lt_trichotomy m x with z | z | z
          · exact z
          · exact absurd z.symm e3
          · exact (cd_lt_asym hlt ⟨pre, x, m, r0, r0, e1, e2, z⟩).elim
        have hsm : ∀ z : Nat, sp_sh (z :: r0) = (if 100 ≤ z then z else 0) :: sp_sh r0 := fun z => rfl
        have hx100 : x < 100 := by
          have h := hw2.1
          rw [e1, e2, sp_sh_app, sp_sh_app] at h
          have h := List.append_cancel_left h
          rw [hsm, hsm] at h
          injection h with h _
          by_cases hx : 100 ≤ x
          · rw [if_pos hx] at h
            split at h <;> omega
          · omega
        have hgb : (sp_cd T v)[pre.length]? = some x := by rw [e1]; simp
        have hpre : 1 ≤ pre.length := by
          cases pre with
          | nil =>
            rw [sp_cd_eq hwT he] at e1
            injection e1 with k _
            omega
          | cons c p => simp
        have hbl := (List.getElem?_eq_some_iff.mp hgb).1
        have hset : (sp_cd T v).set pre.length m = sp_cd T w := by
          rw [e1, e2]
          simp [List.set_append]
        have hlo : g.1 ≤ m := by
          obtain ⟨f, hf⟩ : ∃ f, T[w]? = some f := ⟨_, List.getElem?_eq_getElem w1⟩
          have := cd_rng hwT hty _ w f hf (Nat.lt_succ_self _) m (by rw [e2]; simp)
          omega
        exact ⟨sp_cd T w, (cn_mem _ _ _).mpr ⟨pre.length, x, m, hpre, by omega, hgb, hx100, hlo, hmx, hset.symm⟩, (fi_num_iff hU).mpr ⟨w, w1, w2, rfl, hwr⟩⟩
  have hXpw : ((cn_l (sp_cd T v) g.1 ((sp_cd T v).length - 1) 1).filterMap (fi_num T (sp_tp T v))).Nodup := by
    rw [hX]
    have := sp_red_IA2 hwT hs he
    have h2 : ((sp_red T v).map (sp_rk T)).Nodup := this.1
    have h3 : sp_red T v = sp_prs T (sp_tp T v) 8 v [] ++ sp_dec T v := rfl
    rw [h3, List.map_append, List.nodup_append] at h2
    exact h2.2.1
  unfold rf_list
  rw [rf_2_f, rf_fold (fi_num T (sp_tp T v))]
  · rw [hX]
    show _ = (sp_prs T (sp_tp T v) 8 v [] ++ sp_dec T v).map (sp_rk T)
    rw [List.map_append]
  · rw [hX, ← List.map_append]
    exact (sp_red_IA2 hwT hs he).1
theorem tb_gd {g : sp_G} (hw : sp_wg g) : sp_gd (sp_tab g).1 g.1 := ⟨tb_un hw, fun _ hv => rd_eq hw (tb_ok hw).1 (sp_tab_ty hw) (tb_ok hw).2.1 (tb_od hw) (tb_un hw) hv⟩
