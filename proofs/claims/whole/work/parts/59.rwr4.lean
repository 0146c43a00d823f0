/-! ===== the reference: write, its loops ===== -/
section RWR4
variable {G : ax_G} {A : rw_Ad}
/-- where writing stands: the table T, what is still to come -/
def w_I (A : rw_Ad) (g : sp_G) (T0 : List sp_E) (s : Nat) (R0 : rw_S) (h0 : ax_H) (Pf : List sp_E × Bool) (mc ms : Nat) (R : rw_S) (h : ax_H) (T : List sp_E) (cn sn : Nat) (rem : List sp_E) : Prop :=
  rw_T A R h T ∧ sp_wT T ∧ T0 <+: T ∧ hx_le h0 h ∧ rw_fr R0 R ∧ sp_pushes (T, false) rem = Pf ∧ cn + Pf.1.length ≤ mc + T.length ∧ sn + rf_slots Pf.1 ≤ ms + rf_slots T ∧ (∀ v e, T[v]? = some e → T0.length ≤ v → sp_sz e = s + 1)
theorem w_I_le {g : sp_G} {T0 : List sp_E} {s : Nat} {R0 : rw_S} {h0 : ax_H} {Pf : List sp_E × Bool} {mc ms : Nat} {R : rw_S} {h : ax_H} {T : List sp_E} {cn sn : Nat} {rem : List sp_E} (hI : w_I A g T0 s R0 h0 Pf mc ms R h T cn sn rem) : cn ≤ mc ∧ sn ≤ ms := by
  obtain ⟨i1, i2, i3, i4, i5, i6, i7, i8, i9⟩ := hI
  obtain ⟨p1, p2, p3⟩ := rf_pushes_pre rem T false i2.1
  rw [i6] at p1 p3
  have := p1.length_le
  omega

theorem w_l3 (hA : rw_nd A) {g : sp_G} (hw : sp_wg g) {T0 : List sp_E} (hs0 : sp_srt T0) (hw0 : sp_wT T0) (hty : sp_ty g T0) {c : Nat} {q : sp_C} (hc : g.2.2.2[c]? = some q) {s : Nat} (hs7 : s ≤ 7) {R0 : rw_S} (hg0 : rw_gr R0 g) {h0 : ax_H} {Pf : List sp_E × Bool} {mc ms : Nat} (d : Nat) (hd : 42 ≤ d) {X1 X2 X3 : List (List sp_X)} (hX3 : X3 = rf_xc g T0 q.2.2.2.1) (h3l : X3.length ≤ 300) {i j a1 a2 a3 ra rb : Nat} (hx3 : rw_chs A h0 a3 (X3.map (rf_cd T0))) {a b : List sp_X} (ha : rf_x1 g T0 q.2.1 a) (hb : rf_x1 g T0 q.2.2.1 b) (hra : rw_row A h0 ra (rf_cd T0 a)) (hrb : rw_row A h0 rb (rf_cd T0 b)) (hab : sp_size a + sp_size b ≤ s) {rest : List sp_E} {Q : ax_P} (hq0 : ∀ R' h', rw_T A R' h' Pf.1 → hx_le h0 h' → rw_fr R0 R' → Pf.2 = true → Q (.inl (some (.int 0))) (rw_O A R' h')) (kk : ∀ R' h' T' cn' sn', w_I A g T0 s R0 h0 Pf mc ms R' h' T' cn' sn' rest → AW G mX7_write (d + 1) mc ms Q 102 [(0, .ref (A.1 0)), (1, .int (nI c)), (2, .int (nI (s + 1))), (3, .ref a1), (4, .ref a2), (5, .ref a3), (6, .ref a1), (7, .int (nI X1.length)), (8, .int (nI i)), (9, .ref ra), (10, .int (nI (s - sp_size a))), (11, .ref a2), (12, .int (nI X2.length)), (13, .int (nI (j + 1)))] [] (rw_O A R' h') cn' sn') : ∀ (m k : Nat) (R : rw_S) (h : ax_H) (T : List sp_E) (cn sn : Nat), k + m = X3.length → w_I A g T0 s R0 h0 Pf mc ms R h T cn sn (((X3.drop k).flatMap (fun z => if sp_size a + sp_size b + sp_size z = s ∧ sp_cond q.2.2.2.2 (a ++ b ++ z) = true then [a ++ b ++ z] else [])).map (fun ys => (q.1, c, ys)) ++ rest) → AW G mX7_write (d + 1) mc ms Q 146 [(0, .ref (A.1 0)), (1, .int (nI c)), (2, .int (nI (s + 1))), (3, .ref a1), (4, .ref a2), (5, .ref a3), (6, .ref a1), (7, .int (nI X1.length)), (8, .int (nI i)), (9, .ref ra), (10, .int (nI (s - sp_size a))), (11, .ref a2), (12, .int (nI X2.length)), (13, .int (nI j)), (14, .ref rb), (15, .int (nI (s - sp_size a - sp_size b))), (16, .ref a3), (17, .int (nI X3.length)), (18, .int (nI k))] [] (rw_O A R h) cn sn := by
  have hc6 : c < 6 := Nat.lt_of_lt_of_le (List.getElem?_eq_some_iff.mp hc).1 hw.2.2.2.1
  have hqm := List.mem_of_getElem? hc
  have hwc := hw.2.2.2.2 q hqm
  have hq4 : q.1 < 4 := by have := hwc.1; have := hw.2.2.1; omega
  have ha2 := rf_x1_cd hw hw0 hty ha
  have hb2 := rf_x1_cd hw hw0 hty hb
  have hz8 : ∀ z, rf_x1 g T0 q.2.2.2.1 z → sp_size z ≤ 8 := fun z hz => by
    rcases hz with ⟨-, rfl⟩ | ⟨-, k, rfl, -⟩ | ⟨-, v, e, rfl, h1, -⟩
    · exact Nat.zero_le _
    · exact Nat.zero_le _
    · have := (hw0.2 v e h1).2.2.1
      show 1 + sp_size e.2.2 + 0 ≤ 8
      omega
  intro m
  induction m with
  | zero =>
    intro k R h T cn sn hk hI
    have hk : k = X3.length := by omega
    subst hk
    obtain ⟨b1, b2⟩ := w_I_le hI
    rw [List.drop_length, List.flatMap_nil, List.map_nil, List.nil_append] at hI
    exact w_3e hA d mc ms R h b1 b2 (k := 0) (rz := 0) h3l (kk R h T cn sn hI)
  | succ m ih =>
    intro k R h T cn sn hk hI
    have hkl : k < X3.length := by omega
    obtain ⟨b1, b2⟩ := w_I_le hI
    rw [List.drop_eq_getElem_cons hkl, List.flatMap_cons, List.map_append, List.append_assoc] at hI
    obtain ⟨i1, i2, i3, i4, i5, i6, i7, i8, i9⟩ := id hI
    obtain ⟨z, hzz⟩ : ∃ z, z = X3[k] := ⟨_, rfl⟩
    rw [← hzz] at hI i6
    have hp2 : q.2.2.2.1 < 4 ∨ q.2.2.2.1 = 9 ∨ q.2.2.2.1 = 10 := wg_pq hw q hqm 2 (by decide)
    have hz1 : rf_x1 g T0 q.2.2.2.1 z := rf_xc_1 hp2 (by rw [hzz, ← hX3]; exact List.getElem_mem hkl)
    have hz2 := rf_x1_cd hw hw0 hty hz1
    obtain ⟨cf3, c31, c32⟩ := rw_chs_le i4 hx3
    rw [List.length_map] at c31
    obtain ⟨rz, r1, r2⟩ := c32 k (rf_cd T0 z) (by rw [List.getElem?_map, List.getElem?_eq_getElem hkl, hzz]; rfl)
    obtain ⟨fz, rz1, rz2⟩ := r2
    obtain ⟨fa, ra1, ra2⟩ := rw_row_le i4 hra
    obtain ⟨fb, rb1, rb2⟩ := rw_row_le i4 hrb
    have hx5 : ∀ {L : List Nat}, (∀ x ∈ L, x ≤ 5 ∨ (100 ≤ x ∧ x ≤ 105)) → ∀ x ∈ L, x ≤ 105 := fun hL x hx => by have := hL x hx; omega
    by_cases hsz : sp_size z = s - sp_size a - sp_size b
    · have hlen : 1 + (rf_cd T0 a).length + (rf_cd T0 b).length + (rf_cd T0 z).length ≤ 40 := by
        have := ha2.2.2; have := hb2.2.2; have := hz2.2.2; omega
      obtain ⟨ty1, ty2⟩ := rf_x3 hwc ha hb hz1
      have hLx : (100 + c) :: (rf_cd T0 a ++ rf_cd T0 b ++ rf_cd T0 z) = (100 + c) :: (((a ++ b ++ z).map (sp_pc T0)).flatten ++ []) := by
        rw [List.append_nil, ← rf_cd_app, ← rf_cd_app]; rfl
      have hlook : sp_look g 41 q.1 (((100 + c) :: (rf_cd T0 a ++ rf_cd T0 b ++ rf_cd T0 z)).drop 0) = if sp_cond q.2.2.2.2 (a ++ b ++ z) then some ((1 + sp_size (a ++ b ++ z), 1 + sp_max (sp_hts (a ++ b ++ z)), sp_ints (a ++ b ++ z)), []) else none := by
        rw [List.drop_zero, hLx]
        refine lk_args hc ty1 ty2 [] (fun p hp e' he' R' => lk_cd hw0 hty 40 p.1 e' he' ?_ R')
        have := (hw0.2 p.1 e' he').2.2.1
        unfold sp_sz; omega
      refine w_3y hA d mc ms R h b1 b2 c31 ⟨rz1, rz2⟩ (by omega) (hx5 hz2.2.1) hkl h3l r1 (by rw [hz2.1]; exact hsz) (by rw [hz2.1]; omega) ?_
      refine w_fill hA d mc ms R h b1 b2 ⟨ra1, ra2⟩ (by omega) (hx5 ha2.2.1) ⟨rb1, rb2⟩ (by omega) (hx5 hb2.2.1) ⟨rz1, rz2⟩ (by omega) (hx5 hz2.2.1) hlen ?_
      rintro R1 ⟨q1, q2, q3, q4⟩
      have fr1 : rw_fr R R1 := ⟨fun i _ _ _ => by rw [q1], fun i hi => q3 i (by omega)⟩
      have hcd := ws_cd (f0 := R.2.1 10) (c := c) hlen ra2 rb2 rz2
      have hL5 : ∀ x ∈ (100 + c) :: (rf_cd T0 a ++ rf_cd T0 b ++ rf_cd T0 z), x ≤ 5 ∨ (100 ≤ x ∧ x ≤ 105) := by
        intro x hx
        rcases List.mem_cons.mp hx with e | e
        · exact Or.inr (by omega)
        · rcases List.mem_append.mp e with e | e
          · rcases List.mem_append.mp e with e | e
            · exact ha2.2.1 x e
            · exact hb2.2.1 x e
          · exact hz2.2.1 x e
      have hg1 : rw_gr R1 g := rw_fr_g (rw_fr_tr i5 fr1) hg0
      have how1 : R1.2.1 1 c = nI q.1 := (hg1.2.2.2.2 c q hc).1
      have hLl : ((100 + c) :: (rf_cd T0 a ++ rf_cd T0 b ++ rf_cd T0 z)).length = 1 + (rf_cd T0 a).length + (rf_cd T0 b).length + (rf_cd T0 z).length := by
        rw [List.length_cons, List.length_append, List.length_append]; omega
      have hlk := r_look (G := G) hA hw R1.2 h (ca := A.1 10) hcd hL5 (fun s => by rw [← q4]; exact rw_g10 hA) 41 q.1 0 R1.1 (by rw [List.drop_zero, hLl]; omega) (Nat.zero_le _) hg1 hq4 d (by omega)
      rw [hLl] at hlk
      refine w_look hA d mc ms R1 h b1 b2 (g := g) (L := (100 + c) :: (rf_cd T0 a ++ rf_cd T0 b ++ rf_cd T0 z)) hc6 (by omega) hLl.symm how1 hlk (fun s1 fr hno => ?_) (fun s1 p fr hp h21 => ?_)
      · -- not a value
        rw [hlook] at hno
        have hcf : ¬ sp_cond q.2.2.2.2 (a ++ b ++ z) = true := fun e => by rw [if_pos e] at hno; cases hno
        rw [if_neg (fun e => hcf e.2)] at i6
        refine ih (k + 1) (s1, R1.2) h T cn sn (by omega) ⟨?_, i2, i3, i4, rw_fr_tr i5 (rw_fr_tr fr1 ⟨fun i _ y z => fr i y z, fun _ _ => rfl⟩), i6, i7, i8, i9⟩
        refine ⟨(fr 14 (by decide) (by decide)).trans ((congrFun q1 14).trans i1.1), fun t ht => ?_, fun v e he => ?_⟩
        · show R1.2.1 8 t = _
          rw [q3 8 (by decide)]; exact i1.2.1 t ht
        · show (∃ b, R1.2.2 v = some b ∧ _) ∧ R1.2.1 6 v = _ ∧ R1.2.1 7 v = _ ∧ R1.2.1 9 _ = _
          rw [q2, q3 6 (by decide), q3 7 (by decide), q3 9 (by decide)]
          exact i1.2.2 v e he
      · rw [hlook] at hp
        have hct : sp_cond q.2.2.2.2 (a ++ b ++ z) = true := by
          cases hcc : sp_cond q.2.2.2.2 (a ++ b ++ z) with
          | true => rfl
          | false => rw [if_neg (by rw [hcc]; decide)] at hp; cases hp
        rw [if_pos hct] at hp
        cases hp
        have hsum : sp_size a + sp_size b + sp_size z = s := by omega
        rw [if_pos ⟨hsum, hct⟩] at i6
        have hsx : sp_size (a ++ b ++ z) = s := by rw [sp_size_app, sp_size_app]; exact hsum
        have hTk : rw_T A (s1, R1.2) h T := by
          refine ⟨(fr 14 (by decide) (by decide)).trans ((congrFun q1 14).trans i1.1), fun t ht => ?_, fun v e he => ?_⟩
          · show R1.2.1 8 t = _
            rw [q3 8 (by decide)]; exact i1.2.1 t ht
          · show (∃ b, R1.2.2 v = some b ∧ _) ∧ R1.2.1 6 v = _ ∧ R1.2.1 7 v = _ ∧ R1.2.1 9 _ = _
            rw [q2, q3 6 (by decide), q3 7 (by decide), q3 9 (by decide)]
            exact i1.2.2 v e he
        have frk : rw_fr R0 (s1, R1.2) := rw_fr_tr i5 (rw_fr_tr fr1 ⟨fun i _ y z => fr i y z, fun _ _ => rfl⟩)
        by_cases hfull : T.length = 300
        · have i6 := (sp_pushes_over T _ _ hfull).symm.trans i6
          refine w_over hA d mc ms (s1, R1.2) h b1 b2 (t := 0) (by rw [← hfull]; exact hTk.1) ?_
          rw [← i6] at hq0
          exact hq0 _ _ hTk i4 frk rfl
        · have hTl : T.length < 300 := by have := i2.1; omega
          have i6 := (sp_pushes_cons T _ _ hTl).symm.trans i6
          have hxs : sp_xs T0 g.1 g.2.1 (a ++ b ++ z) := by
            refine ⟨by rw [ty2]; exact sp_ar_le q, fun n hn => ?_, fun p hp => ?_⟩
            · obtain ⟨jj, hj⟩ := List.getElem?_of_mem hn
              exact (ty1 jj _ hj).2
            · obtain ⟨jj, hj⟩ := List.getElem?_of_mem hp
              obtain ⟨-, e', y1, -, y3⟩ := ty1 jj _ hj
              exact ⟨p.1, e', y1, y3⟩
          have hwT' : sp_wT (T ++ [(q.1, c, a ++ b ++ z)]) := sp_wT_snoc i2 i3 hTl hxs hw.2.1 hq4 (by rw [hsx]; omega)
          obtain ⟨p1, p2, p3⟩ := rf_pushes_pre _ (T ++ [(q.1, c, a ++ b ++ z)]) false hwT'.1
          rw [i6] at p1 p3
          have p1 := p1.length_le
          rw [List.length_append] at p1
          have p1 : T.length + 1 ≤ Pf.1.length := p1
          rw [rf_slots_snoc] at p3
          have hTe : (T ++ [(q.1, c, a ++ b ++ z)])[T.length]? = some (q.1, c, a ++ b ++ z) := by
            rw [List.getElem?_append_right (Nat.le_refl _), Nat.sub_self]; rfl
          have hcdn : sp_cd (T ++ [(q.1, c, a ++ b ++ z)]) T.length = (100 + c) :: (rf_cd T0 a ++ rf_cd T0 b ++ rf_cd T0 z) := by
            rw [sp_cd_eq hwT' hTe]
            show (100 + c) :: (((a ++ b ++ z).map (sp_pc (T ++ [(q.1, c, a ++ b ++ z)]))).flatten) = _
            rw [← rf_cd_app, ← rf_cd_app]
            unfold rf_cd
            congr 2
            refine List.map_congr_left (fun x hx => ?_)
            cases x with
            | inl n => rfl
            | inr p =>
              obtain ⟨w', e', y1, y2⟩ := hxs.2.2 p hx
              show sp_cd _ p.1 = sp_cd T0 p.1
              rw [y2]
              exact sp_cd_pre (List.IsPrefix.trans i3 (List.prefix_append T _)) (List.getElem?_eq_some_iff.mp y1).1
          have hcdl := sp_cd_len hwT' _ _ hTe
          rw [hcdn, hLl] at hcdl
          have hcnt : sp_cnt T q.1 < 300 := by have := sp_cnt_le T q.1; omega
          refine w_push hA d mc ms (s1, R1.2) h b1 b2 (n := T.length) (ht := 1 + sp_max (sp_hts (a ++ b ++ z))) (cnt := sp_cnt T q.1) (L := (100 + c) :: (rf_cd T0 a ++ rf_cd T0 b ++ rf_cd T0 z)) hc6 (by omega) hLl.symm (fun i x hi => by rw [show (s1, R1.2).2.1 10 = _ from q4]; exact hcd.2.2 i x hi) how1 hq4 hTk.1 hTl h21 (hTk.2.1 q.1 hq4) hcnt hs7 (by omega) (by omega) (fun R' h' hps => ?_)
          refine ih (k + 1) R' h' (T ++ [(q.1, c, a ++ b ++ z)]) _ _ (by omega) ⟨?_, hwT', List.IsPrefix.trans i3 (List.prefix_append T _), hx_tr i4 hps.2.2.1, rw_fr_tr frk ⟨fun i x14 _ _ => by rw [hps.1, pk_un x14], fun i hi => hps.2.2.2.1 i (by omega) (by omega) (by omega) (by omega)⟩, i6, ?_, ?_, fun v e he hv => ?_⟩
          · exact rw_T_push (e := (q.1, c, a ++ b ++ z)) hTk i2 hwT' (by rw [hcdn]; exact hps) (by show 1 + sp_size (a ++ b ++ z) = s + 1; omega)
          · rw [List.length_append]; show cn + 1 + Pf.1.length ≤ mc + (T.length + 1); omega
          · rw [rf_slots_snoc]; omega
          · by_cases hvl : v < T.length
            · rw [List.getElem?_append_left hvl] at he
              exact i9 v e he hv
            · have hv2 := (List.getElem?_eq_some_iff.mp he).1
              rw [List.length_append] at hv2
              have hv2 : v < T.length + 1 := hv2
              have hve : v = T.length := by omega
              subst hve
              rw [hTe] at he
              cases he
              show 1 + sp_size (a ++ b ++ z) = s + 1
              omega
    · have hne : ¬ sp_size a + sp_size b + sp_size z = s := by omega
      rw [if_neg (fun e => hne e.1)] at i6
      exact w_3n hA d mc ms R h b1 b2 c31 ⟨rz1, rz2⟩ (by have := hz2.2.2; have := hz8 z hz1; omega) (hx5 hz2.2.1) hkl h3l r1 (by omega) (by rw [hz2.1]; exact hsz) (by rw [hz2.1]; have := hz8 z hz1; omega) (ih (k + 1) R h T cn sn (by omega) ⟨i1, i2, i3, i4, i5, i6, i7, i8, i9⟩)

theorem w_l2 (hA : rw_nd A) {g : sp_G} (hw : sp_wg g) {T0 : List sp_E} (hs0 : sp_srt T0) (hw0 : sp_wT T0) (hty : sp_ty g T0) {c : Nat} {q : sp_C} (hc : g.2.2.2[c]? = some q) {s : Nat} (hs7 : s ≤ 7) {R0 : rw_S} (hg0 : rw_gr R0 g) {h0 : ax_H} {Pf : List sp_E × Bool} {mc ms : Nat} (d : Nat) (hd : 42 ≤ d) {X1 X2 X3 : List (List sp_X)} (hX1 : X1 = rf_xc g T0 q.2.1) (hX2 : X2 = rf_xc g T0 q.2.2.1) (hX3 : X3 = rf_xc g T0 q.2.2.2.1) (h1l : X1.length ≤ 300) (h2l : X2.length ≤ 300) (h3l : X3.length ≤ 300) {i a1 a2 a3 ra : Nat} (hx2 : rw_chs A h0 a2 (X2.map (rf_cd T0))) (hx3 : rw_chs A h0 a3 (X3.map (rf_cd T0))) {a : List sp_X} (ha : rf_x1 g T0 q.2.1 a) (hra : rw_row A h0 ra (rf_cd T0 a)) (has : sp_size a ≤ s) {rest : List sp_E} {Q : ax_P} (hq0 : ∀ R' h', rw_T A R' h' Pf.1 → hx_le h0 h' → rw_fr R0 R' → Pf.2 = true → Q (.inl (some (.int 0))) (rw_O A R' h')) (kk : ∀ R' h' T' cn' sn', w_I A g T0 s R0 h0 Pf mc ms R' h' T' cn' sn' rest → AW G mX7_write (d + 1) mc ms Q 65 [(0, .ref (A.1 0)), (1, .int (nI c)), (2, .int (nI (s + 1))), (3, .ref a1), (4, .ref a2), (5, .ref a3), (6, .ref a1), (7, .int (nI X1.length)), (8, .int (nI (i + 1)))] [] (rw_O A R' h') cn' sn') : ∀ (m j : Nat) (R : rw_S) (h : ax_H) (T : List sp_E) (cn sn : Nat), j + m = X2.length → w_I A g T0 s R0 h0 Pf mc ms R h T cn sn (((X2.drop j).flatMap (fun b => if s < sp_size a + sp_size b then [] else X3.flatMap (fun z => if sp_size a + sp_size b + sp_size z = s ∧ sp_cond q.2.2.2.2 (a ++ b ++ z) = true then [a ++ b ++ z] else []))).map (fun ys => (q.1, c, ys)) ++ rest) → AW G mX7_write (d + 1) mc ms Q 102 [(0, .ref (A.1 0)), (1, .int (nI c)), (2, .int (nI (s + 1))), (3, .ref a1), (4, .ref a2), (5, .ref a3), (6, .ref a1), (7, .int (nI X1.length)), (8, .int (nI i)), (9, .ref ra), (10, .int (nI (s - sp_size a))), (11, .ref a2), (12, .int (nI X2.length)), (13, .int (nI j))] [] (rw_O A R h) cn sn := by
  have hqm := List.mem_of_getElem? hc
  have hp1 : q.2.2.1 < 4 ∨ q.2.2.1 = 9 ∨ q.2.2.1 = 10 := wg_pq hw q hqm 1 (by decide)
  have hx5 : ∀ {L : List Nat}, (∀ x ∈ L, x ≤ 5 ∨ (100 ≤ x ∧ x ≤ 105)) → ∀ x ∈ L, x ≤ 105 := fun hL x hx => by have := hL x hx; omega
  have hz8 : ∀ z, rf_x1 g T0 q.2.2.1 z → sp_size z ≤ 8 := fun z hz => by
    rcases hz with ⟨-, rfl⟩ | ⟨-, k, rfl, -⟩ | ⟨-, v, e, rfl, h1, -⟩
    · exact Nat.zero_le _
    · exact Nat.zero_le _
    · have := (hw0.2 v e h1).2.2.1
      show 1 + sp_size e.2.2 + 0 ≤ 8
      omega
  intro m
  induction m with
  | zero =>
    intro j R h T cn sn hj hI
    have hj : j = X2.length := by omega
    subst hj
    obtain ⟨b1, b2⟩ := w_I_le hI
    rw [List.drop_length, List.flatMap_nil, List.map_nil, List.nil_append] at hI
    exact w_2e hA d mc ms R h b1 b2 (n3 := 0) (j := 0) (k := 0) (rs := 0) (rb := 0) (rz := 0) h2l (kk R h T cn sn hI)
  | succ m ih =>
    intro j R h T cn sn hj hI
    have hjl : j < X2.length := by omega
    obtain ⟨b1, b2⟩ := w_I_le hI
    rw [List.drop_eq_getElem_cons hjl, List.flatMap_cons, List.map_append, List.append_assoc] at hI
    obtain ⟨i1, i2, i3, i4, i5, i6, i7, i8, i9⟩ := id hI
    obtain ⟨b, hbb⟩ : ∃ b, b = X2[j] := ⟨_, rfl⟩
    rw [← hbb] at hI i6
    have hb1 : rf_x1 g T0 q.2.2.1 b := rf_xc_1 hp1 (by rw [hbb, ← hX2]; exact List.getElem_mem hjl)
    have hb2 := rf_x1_cd hw hw0 hty hb1
    have hb8 := hz8 b hb1
    obtain ⟨cf2, c21, c22⟩ := rw_chs_le i4 hx2
    rw [List.length_map] at c21
    obtain ⟨cf0, c01, c02⟩ := hx2
    obtain ⟨rb', r1', r2'⟩ := c02 j (rf_cd T0 b) (by rw [List.getElem?_map, List.getElem?_eq_getElem hjl, hbb]; rfl)
    have hcf : cf2 j = cf0 j := by
      have e1 := i4 _ _ c01.1
      have e2 := c21.1
      rw [List.length_map] at e1
      rw [e1] at e2
      injection e2 with e2; injection e2 with e2; injection e2 with _ e2; injection e2 with _ e2; injection e2 with e2; injection e2 with e2; injection e2 with e2; injection e2 with e2
      rw [e2]
    have r1 : cf2 j = some rb' := hcf.trans r1'
    obtain ⟨fb, rb1, rb2⟩ := rw_row_le i4 r2'
    obtain ⟨cf3, c31, c32⟩ := rw_chs_le i4 hx3
    rw [List.length_map] at c31
    by_cases hlt : s < sp_size a + sp_size b
    · rw [if_pos hlt] at i6
      exact w_2n hA d mc ms R h b1 b2 (n3 := 0) (k := 0) (rs := 0) (rz := 0) c21 ⟨rb1, rb2⟩ (by have := hb2.2.2; omega) (hx5 hb2.2.1) hjl h2l r1 hs7 (by omega) (by rw [hb2.1]; omega) (by rw [hb2.1]; omega) (ih (j + 1) R h T cn sn (by omega) ⟨i1, i2, i3, i4, i5, i6, i7, i8, i9⟩)
    · rw [if_neg hlt] at i6
      refine w_2 hA d mc ms R h b1 b2 (n3 := X3.length) (k := 0) (rz := 0) (rs := s - sp_size a - sp_size b) c21 c31 ⟨rb1, rb2⟩ (by have := hb2.2.2; omega) (hx5 hb2.2.1) hjl h2l h3l r1 hs7 (by omega) (by rw [hb2.1]; omega) ?_
      exact w_l3 hA hw hs0 hw0 hty hc hs7 hg0 d hd hX3 h3l hx3 ha hb1 hra r2' (by omega) hq0 (fun R' h' T' cn' sn' hI' => ih (j + 1) R' h' T' cn' sn' (by omega) hI') X3.length 0 R h T cn sn (by omega) (by rw [List.drop_zero]; exact ⟨i1, i2, i3, i4, i5, i6, i7, i8, i9⟩)
theorem w_l1 (hA : rw_nd A) {g : sp_G} (hw : sp_wg g) {T0 : List sp_E} (hs0 : sp_srt T0) (hw0 : sp_wT T0) (hty : sp_ty g T0) {c : Nat} {q : sp_C} (hc : g.2.2.2[c]? = some q) {s : Nat} (hs7 : s ≤ 7) {R0 : rw_S} (hg0 : rw_gr R0 g) {h0 : ax_H} {Pf : List sp_E × Bool} {mc ms : Nat} (d : Nat) (hd : 42 ≤ d) (hle : sp_le T0 s) {X1 X2 X3 : List (List sp_X)} (hX1 : X1 = rf_xc g T0 q.2.1) (hX2 : X2 = rf_xc g T0 q.2.2.1) (hX3 : X3 = rf_xc g T0 q.2.2.2.1) (h1l : X1.length ≤ 300) (h2l : X2.length ≤ 300) (h3l : X3.length ≤ 300) {a1 a2 a3 : Nat} (hx1 : rw_chs A h0 a1 (X1.map (rf_cd T0))) (hx2 : rw_chs A h0 a2 (X2.map (rf_cd T0))) (hx3 : rw_chs A h0 a3 (X3.map (rf_cd T0))) {Q : ax_P} (hq0 : ∀ R' h', rw_T A R' h' Pf.1 → hx_le h0 h' → rw_fr R0 R' → Pf.2 = true → Q (.inl (some (.int 0))) (rw_O A R' h')) (hq1 : ∀ R' h', rw_T A R' h' Pf.1 → hx_le h0 h' → rw_fr R0 R' → Pf.2 = false → Q (.inl (some (.int 1))) (rw_O A R' h')) : ∀ (m i : Nat) (R : rw_S) (h : ax_H) (T : List sp_E) (cn sn : Nat), i + m = X1.length → w_I A g T0 s R0 h0 Pf mc ms R h T cn sn (((X1.drop i).flatMap (fun a => X2.flatMap (fun b => if s < sp_size a + sp_size b then [] else X3.flatMap (fun z => if sp_size a + sp_size b + sp_size z = s ∧ sp_cond q.2.2.2.2 (a ++ b ++ z) = true then [a ++ b ++ z] else [])))).map (fun ys => (q.1, c, ys))) → AW G mX7_write (d + 1) mc ms Q 65 [(0, .ref (A.1 0)), (1, .int (nI c)), (2, .int (nI (s + 1))), (3, .ref a1), (4, .ref a2), (5, .ref a3), (6, .ref a1), (7, .int (nI X1.length)), (8, .int (nI i))] [] (rw_O A R h) cn sn := by
  have hqm := List.mem_of_getElem? hc
  have hp0 : q.2.1 < 4 ∨ q.2.1 = 9 ∨ q.2.1 = 10 := wg_pq hw q hqm 0 (by decide)
  have hx5 : ∀ {L : List Nat}, (∀ x ∈ L, x ≤ 5 ∨ (100 ≤ x ∧ x ≤ 105)) → ∀ x ∈ L, x ≤ 105 := fun hL x hx => by have := hL x hx; omega
  have hzs : ∀ z, rf_x1 g T0 q.2.1 z → sp_size z ≤ s := fun z hz => by
    rcases hz with ⟨-, rfl⟩ | ⟨-, k, rfl, -⟩ | ⟨-, v, e, rfl, h1, -⟩
    · exact Nat.zero_le _
    · exact Nat.zero_le _
    · have := hle e (List.mem_of_getElem? h1)
      show 1 + sp_size e.2.2 + 0 ≤ s
      unfold sp_sz at this
      omega
  intro m
  induction m with
  | zero =>
    intro i R h T cn sn hi hI
    have hi : i = X1.length := by omega
    subst hi
    obtain ⟨b1, b2⟩ := w_I_le hI
    rw [List.drop_length, List.flatMap_nil, List.map_nil] at hI
    obtain ⟨i1, i2, i3, i4, i5, i6, i7, i8, i9⟩ := hI
    have i6 : (T, false) = Pf := i6
    refine w_1e hA d mc ms R h b1 b2 (n2 := 0) (n3 := 0) (i := 0) (j := 0) (k := 0) (lf := 0) (rs := 0) (ra := 0) (rb := 0) (rz := 0) h1l ?_
    rw [← i6] at hq1
    exact hq1 R h i1 i4 i5 rfl
  | succ m ih =>
    intro i R h T cn sn hi hI
    have hil : i < X1.length := by omega
    obtain ⟨b1, b2⟩ := w_I_le hI
    rw [List.drop_eq_getElem_cons hil, List.flatMap_cons, List.map_append] at hI
    obtain ⟨i1, i2, i3, i4, i5, i6, i7, i8, i9⟩ := id hI
    obtain ⟨a, haa⟩ : ∃ a, a = X1[i] := ⟨_, rfl⟩
    rw [← haa] at hI i6
    have ha1 : rf_x1 g T0 q.2.1 a := rf_xc_1 hp0 (by rw [haa, ← hX1]; exact List.getElem_mem hil)
    have ha2 := rf_x1_cd hw hw0 hty ha1
    have has := hzs a ha1
    obtain ⟨cf1, c11, c12⟩ := rw_chs_le i4 hx1
    rw [List.length_map] at c11
    obtain ⟨cf0, c01, c02⟩ := hx1
    obtain ⟨ra', r1', r2'⟩ := c02 i (rf_cd T0 a) (by rw [List.getElem?_map, List.getElem?_eq_getElem hil, haa]; rfl)
    have hcf : cf1 i = cf0 i := by
      have e1 := i4 _ _ c01.1
      have e2 := c11.1
      rw [List.length_map] at e1
      rw [e1] at e2
      injection e2 with e2; injection e2 with e2; injection e2 with _ e2; injection e2 with _ e2; injection e2 with e2; injection e2 with e2; injection e2 with e2; injection e2 with e2
      rw [e2]
    have r1 : cf1 i = some ra' := hcf.trans r1'
    obtain ⟨fa, ra1, ra2⟩ := rw_row_le i4 r2'
    obtain ⟨cf2, c21, c22⟩ := rw_chs_le i4 hx2
    rw [List.length_map] at c21
    refine w_1 hA d mc ms R h b1 b2 (n3 := 0) (j := 0) (k := 0) (rs := 0) (rb := 0) (rz := 0) (a3 := a3) (lf := s - sp_size a) c11 c21 ⟨ra1, ra2⟩ (by have := ha2.2.2; omega) (hx5 ha2.2.1) hil h1l h2l r1 hs7 (by rw [ha2.1]; omega) ?_
    exact w_l2 hA hw hs0 hw0 hty hc hs7 hg0 d hd hX1 hX2 hX3 h1l h2l h3l hx2 hx3 ha1 r2' has hq0 (fun R' h' T' cn' sn' hI' => ih (i + 1) R' h' T' cn' sn' (by omega) hI') X2.length 0 R h T cn sn (by omega) (by rw [List.drop_zero]; exact ⟨i1, i2, i3, i4, i5, i6, i7, i8, i9⟩)

end RWR4
