/-! ===== a new DataMaker: its cells by their keys ===== -/
def nS : cs_S := (fun i => if i = 1 then 2 else 0, fun _ _ => 0, fun i j => match i with
  | 7 => if j < 300 then some j else none
  | 11 => if j < 4 then some (300 + j) else none
  | 14 => if j < 8 then some (304 + j) else none
  | _ => none, fun _ _ => 0, fun _ _ => 0, fun _ _ => none, none)
def nσ : sp_St := ((0, 2, 0, []), [], none)
theorem CI_new : CI nσ nS := by
  refine ⟨⟨by decide, by decide, by decide, by decide, fun q hq => absurd hq List.not_mem_nil⟩, ⟨rfl, rfl, rfl, rfl, fun c q hq => by simp [nσ] at hq⟩, ⟨fun j hj => if_pos hj, fun j hj => if_pos hj, fun j hj => if_pos hj⟩, ⟨rfl, Nat.zero_le _, fun i a hi => by simp [nσ] at hi, fun a ha => absurd ha List.not_mem_nil⟩, fun t _ => rfl, Or.inl rfl, rfl, fun v hv => by cases hv⟩
theorem cs_O_self {ad : cs_K → Nat} {S : cs_S} {h : ax_H} (hk : ∀ k ∈ cs_keys, h (ad k) = some (cs_obj ad S k)) : cs_O ad S h = h := by
  funext x
  unfold cs_O
  cases hf : cs_keys.find? (fun k => ad k == x) with
  | none => rfl
  | some k =>
    have h1 := hk k (List.mem_of_find?_eq_some hf)
    have h2 : ad k = x := by simpa using List.find?_some hf
    rw [← h2, h1]
theorem ax_w_mem {h : ax_H} {l : List (Nat × ax_E)} {a : Nat} {o : ax_E} (hn : (l.map (fun q => q.1)).Nodup) (hm : (a, o) ∈ l) : ax_w h l a = some o := by
  obtain ⟨i, hi⟩ := List.getElem?_of_mem hm
  exact ax_w_get hn hi
theorem wk_le {h : ax_H} {l : List (Nat × ax_E)} (hw : wk h l) : hx_le h (ax_w h l) := fun x o hx => by
  rw [ax_w_ne (fun hm => by rw [hw.2 x hm] at hx; cases hx)]; exact hx
def vo_k (s n : Nat) : List cs_K := (List.range n).flatMap (fun j => [(1, s + j), (2, s + j), (3, s + j)])
def n_ko : List cs_K := (0, 0) :: ((([(0, 1), (0, 2), (0, 3), (0, 4), (0, 5)] ++ ((0, 6) :: ((((0, 7) :: vo_k 0 300) ++ [(0, 8), (0, 9), (0, 10)]) ++ (0, 11) :: vo_k 300 4))) ++ ((0, 12) :: ([(0, 13)] ++ (0, 14) :: vo_k 304 8))) ++ [(0, 15), (0, 16)]) ++ [(0, 17), (0, 18)]
theorem vo_k_mem {s n v : Nat} (h1 : s ≤ v) (h2 : v < s + n) : (1, v) ∈ vo_k s n ∧ (2, v) ∈ vo_k s n ∧ (3, v) ∈ vo_k s n := by
  have hv : s + (v - s) = v := by omega
  refine ⟨?_, ?_, ?_⟩ <;> refine List.mem_flatMap.mpr ⟨v - s, List.mem_range.mpr (by omega), ?_⟩ <;> rw [hv] <;> simp
theorem n_ko_all : ∀ k ∈ cs_keys, k ∈ n_ko := by
  intro k hk
  have hv : ∀ v, v < 312 → (1, v) ∈ n_ko ∧ (2, v) ∈ n_ko ∧ (3, v) ∈ n_ko := by
    intro v hv
    unfold n_ko
    rcases (show v < 300 ∨ (300 ≤ v ∧ v < 304) ∨ 304 ≤ v by omega) with z | z | z
    · obtain ⟨a, b, c⟩ := vo_k_mem (s := 0) (n := 300) (Nat.zero_le v) (by omega)
      simp [a, b, c]
    · obtain ⟨a, b, c⟩ := vo_k_mem (s := 300) (n := 4) z.1 (by omega)
      simp [a, b, c]
    · obtain ⟨a, b, c⟩ := vo_k_mem (s := 304) (n := 8) z (by omega)
      simp [a, b, c]
  unfold cs_keys at hk
  rcases List.mem_append.mp hk with z | z
  · obtain ⟨i, i1, rfl⟩ := List.mem_map.mp z
    rw [List.mem_range] at i1
    unfold n_ko
    rcases (show i = 0 ∨ i = 1 ∨ i = 2 ∨ i = 3 ∨ i = 4 ∨ i = 5 ∨ i = 6 ∨ i = 7 ∨ i = 8 ∨ i = 9 ∨ i = 10 ∨ i = 11 ∨ i = 12 ∨ i = 13 ∨ i = 14 ∨ i = 15 ∨ i = 16 ∨ i = 17 ∨ i = 18 by omega) with rfl | rfl | rfl | rfl | rfl | rfl | rfl | rfl | rfl | rfl | rfl | rfl | rfl | rfl | rfl | rfl | rfl | rfl | rfl <;> simp
  · rcases List.mem_append.mp z with z | z
    · obtain ⟨v, v1, rfl⟩ := List.mem_map.mp z
      exact (hv v (List.mem_range.mp v1)).1
    · rcases List.mem_append.mp z with z | z
      · obtain ⟨v, v1, rfl⟩ := List.mem_map.mp z
        exact (hv v (List.mem_range.mp v1)).2.1
      · obtain ⟨v, v1, rfl⟩ := List.mem_map.mp z
        exact (hv v (List.mem_range.mp v1)).2.2
theorem inj_of {α β : Type} {f : α → β} : ∀ {l : List α}, (l.map f).Nodup → ∀ x ∈ l, ∀ y ∈ l, f x = f y → x = y := by
  intro l
  induction l with
  | nil => intro _ x hx; cases hx
  | cons a l ih =>
    intro hn x hx y hy he
    rw [List.map_cons, List.nodup_cons] at hn
    rcases List.mem_cons.mp hx with rfl | hx'
    · rcases List.mem_cons.mp hy with rfl | hy
      · rfl
      · exact absurd (List.mem_map.mpr ⟨y, hy, he.symm⟩) hn.1
    · rcases List.mem_cons.mp hy with rfl | hy
      · exact absurd (List.mem_map.mpr ⟨x, hx', he⟩ : f y ∈ l.map f) hn.1
      · exact ih hn.2 x hx' y hy he
theorem vo_c_k {ad : cs_K → Nat} {s n : Nat} {vs : List vo_t} (hl : vs.length = n) (h1 : ∀ j t, vs[j]? = some t → ad (1, s + j) = t.1 ∧ ad (2, s + j) = t.2.1 ∧ ad (3, s + j) = t.2.2) : vo_c vs = (vo_k s n).map (fun k => (ad k, cs_obj ad nS k)) := by
  subst hl
  unfold vo_k
  have key : ∀ (m : Nat) (us : List vo_t), us <+: vs → us.length = m → vo_c us = ((List.range m).flatMap (fun j => [(1, s + j), (2, s + j), (3, s + j)])).map (fun k => (ad k, cs_obj ad nS k)) := by
    intro m
    induction m with
    | zero =>
      intro us _ hm
      rw [List.length_eq_zero_iff.mp hm]; rfl
    | succ m ih =>
      intro us hp hm
      have hne : us ≠ [] := fun e => by rw [e] at hm; cases hm
      obtain ⟨us', t, rfl⟩ : ∃ us' t, us = us' ++ [t] := ⟨us.dropLast, us.getLast hne, (List.dropLast_concat_getLast hne).symm⟩
      have hm' : us'.length = m := by rw [List.length_append] at hm; exact Nat.succ.inj hm
      have hp' : us' <+: vs := List.IsPrefix.trans (List.prefix_append _ _) hp
      have ht : vs[m]? = some t := by
        obtain ⟨r, rfl⟩ := hp
        rw [List.getElem?_append_left (by rw [List.length_append, hm']; exact Nat.lt_succ_self _), List.getElem?_append_right (by omega), hm', Nat.sub_self]; rfl
      obtain ⟨t1, t2, t3⟩ := h1 m t ht
      rw [vo_c_snoc, ih us' hp' hm', List.range_succ, List.flatMap_append, List.map_append]
      congr 1
      show [(t.1, vo5 t.2.1 t.2.2), (t.2.1, va3), (t.2.2, vr3)] = [(ad (1, s + m), cs_obj ad nS (1, s + m)), (ad (2, s + m), cs_obj ad nS (2, s + m)), (ad (3, s + m), cs_obj ad nS (3, s + m))]
      have e1 : cs_obj ad nS (1, s + m) = vo5 (ad (2, s + m)) (ad (3, s + m)) := rfl
      have e2 : cs_obj ad nS (2, s + m) = va3 := rfl
      have e3 : cs_obj ad nS (3, s + m) = vr3 := rfl
      rw [e1, e2, e3, t1, t2, t3]
  exact key vs.length vs List.prefix_rfl rfl
theorem vo_a_k {ad : cs_K → Nat} {s n : Nat} {vs : List vo_t} (hl : vs.length = n) (h1 : ∀ j t, vs[j]? = some t → ad (1, s + j) = t.1) : vo_a n vs = .inl (3, n, .inr (.inr (.inr (.inr (fun j => cs_rf ad (if j < n then some (s + j) else none)))))) := by
  unfold vo_a
  congr 7
  funext j
  by_cases hj : j < n
  · rw [if_pos hj, List.getElem?_eq_getElem (by omega)]
    show some _ = some (ad (1, s + j))
    rw [h1 j _ (List.getElem?_eq_getElem (by omega))]
  · rw [if_neg hj, List.getElem?_eq_none (by omega)]; rfl
section NEW6
variable {G : ax_G}
def n_ad (b o1 q1 q2 q3 q4 o3 a3 : Nat) (vs : List vo_t) (c3 e3 f3 k3 : Nat) (ws : List vo_t) (o4 a4 c4 : Nat) (us : List vo_t) (o0 p1 o2 p2 : Nat) : cs_K → Nat := fun k => match k with
  | (0, i) => ([b, o1, q1, q2, q3, q4, o3, a3, c3, e3, f3, k3, o4, a4, c4, o0, p1, o2, p2] : List Nat).getD i 0
  | (1, v) => ((vs ++ ws ++ us).getD v (0, 0, 0)).1
  | (2, v) => ((vs ++ ws ++ us).getD v (0, 0, 0)).2.1
  | (_, v) => ((vs ++ ws ++ us).getD v (0, 0, 0)).2.2
theorem fin6_k {b o1 q1 q2 q3 q4 o3 a3 c3 e3 f3 k3 o4 a4 c4 o0 p1 o2 p2 : Nat} {vs ws us : List vo_t} (l1 : vs.length = 300) (l2 : ws.length = 4) (l3 : us.length = 8) : fin6 b o1 q1 q2 q3 q4 o3 a3 vs c3 e3 f3 k3 ws o4 a4 c4 us o0 p1 o2 p2 = n_ko.map (fun k => (n_ad b o1 q1 q2 q3 q4 o3 a3 vs c3 e3 f3 k3 ws o4 a4 c4 us o0 p1 o2 p2 k, cs_obj (n_ad b o1 q1 q2 q3 q4 o3 a3 vs c3 e3 f3 k3 ws o4 a4 c4 us o0 p1 o2 p2) nS k)) := by
  obtain ⟨ad, had⟩ : ∃ ad, ad = n_ad b o1 q1 q2 q3 q4 o3 a3 vs c3 e3 f3 k3 ws o4 a4 c4 us o0 p1 o2 p2 := ⟨_, rfl⟩
  rw [← had]
  have v1 : ∀ j t, vs[j]? = some t → ad (1, 0 + j) = t.1 ∧ ad (2, 0 + j) = t.2.1 ∧ ad (3, 0 + j) = t.2.2 := by
    intro j t hj
    have hjl := (List.getElem?_eq_some_iff.mp hj).1
    have hg : (vs ++ ws ++ us).getD (0 + j) (0, 0, 0) = t := by
      rw [Nat.zero_add, List.getD_eq_getElem?_getD, List.append_assoc, List.getElem?_append_left hjl, hj]; rfl
    rw [had]
    exact ⟨congrArg (fun z => z.1) hg, congrArg (fun z => z.2.1) hg, congrArg (fun z => z.2.2) hg⟩
  have v2 : ∀ j t, ws[j]? = some t → ad (1, 300 + j) = t.1 ∧ ad (2, 300 + j) = t.2.1 ∧ ad (3, 300 + j) = t.2.2 := by
    intro j t hj
    have hjl := (List.getElem?_eq_some_iff.mp hj).1
    have hg : (vs ++ ws ++ us).getD (300 + j) (0, 0, 0) = t := by
      rw [List.getD_eq_getElem?_getD, List.append_assoc, List.getElem?_append_right (by omega), l1, Nat.add_sub_cancel_left, List.getElem?_append_left hjl, hj]; rfl
    rw [had]
    exact ⟨congrArg (fun z => z.1) hg, congrArg (fun z => z.2.1) hg, congrArg (fun z => z.2.2) hg⟩
  have v3 : ∀ j t, us[j]? = some t → ad (1, 304 + j) = t.1 ∧ ad (2, 304 + j) = t.2.1 ∧ ad (3, 304 + j) = t.2.2 := by
    intro j t hj
    have hjl := (List.getElem?_eq_some_iff.mp hj).1
    have hg : (vs ++ ws ++ us).getD (304 + j) (0, 0, 0) = t := by
      rw [List.getD_eq_getElem?_getD, List.getElem?_append_right (by rw [List.length_append]; omega), List.length_append, l1, l2, Nat.add_sub_cancel_left, hj]; rfl
    rw [had]
    exact ⟨congrArg (fun z => z.1) hg, congrArg (fun z => z.2.1) hg, congrArg (fun z => z.2.2) hg⟩
  have a1 := vo_a_k (ad := ad) (s := 0) l1 (fun j t hj => (v1 j t hj).1)
  have a2 := vo_a_k (ad := ad) (s := 300) l2 (fun j t hj => (v2 j t hj).1)
  have a3' := vo_a_k (ad := ad) (s := 304) l3 (fun j t hj => (v3 j t hj).1)
  have c1 := vo_c_k (ad := ad) (s := 0) l1 v1
  have c2 := vo_c_k (ad := ad) (s := 300) l2 v2
  have c3' := vo_c_k (ad := ad) (s := 304) l3 v3
  have g7 : cs_obj ad nS (0, 7) = vo_a 300 vs := by
    rw [a1]
    show Sum.inl (3, 300, Sum.inr (Sum.inr (Sum.inr (Sum.inr (fun j => cs_rf ad (if j < 300 then some j else none)))))) = _
    congr 7
    funext j
    rw [Nat.zero_add]
  have g11 : cs_obj ad nS (0, 11) = vo_a 4 ws := a2.symm
  have g14 : cs_obj ad nS (0, 14) = vo_a 8 us := a3'.symm
  unfold n_ko
  simp only [List.map_cons, List.map_append, List.map_nil]
  rw [← c1, ← c2, ← c3', g7, g11, g14]
  have e0 : ∀ i, ad (0, i) = ([b, o1, q1, q2, q3, q4, o3, a3, c3, e3, f3, k3, o4, a4, c4, o0, p1, o2, p2] : List Nat).getD i 0 := fun i => by rw [had]; rfl
  have f0 : cs_obj ad nS (0, 0) = .inr (6, [.ref (ad (0, 1)), .ref (ad (0, 6)), .ref (ad (0, 12)), .ref (ad (0, 15)), .ref (ad (0, 17)), .null]) := rfl
  have f1 : cs_obj ad nS (0, 1) = .inr (1, [.int 0, .int 2, .int 0, .int 0, .ref (ad (0, 2)), .ref (ad (0, 3)), .ref (ad (0, 4)), .ref (ad (0, 5))]) := rfl
  have f6 : cs_obj ad nS (0, 6) = .inr (3, [.ref (ad (0, 1)), .ref (ad (0, 7)), .ref (ad (0, 8)), .ref (ad (0, 9)), .ref (ad (0, 10)), .ref (ad (0, 11)), .int 0, .int 0, .int 0, .int 0]) := rfl
  have f12 : cs_obj ad nS (0, 12) = .inr (4, [.ref (ad (0, 1)), .ref (ad (0, 13)), .ref (ad (0, 14)), .int 0, .int 0, .int 0]) := rfl
  have f15 : cs_obj ad nS (0, 15) = .inr (0, [.ref (ad (0, 16)), .int 0]) := rfl
  have f17 : cs_obj ad nS (0, 17) = .inr (2, [.ref (ad (0, 18)), .int 0]) := rfl
  rw [f0, f1, f6, f12, f15, f17]
  simp only [e0]
  rfl
theorem new6 (d : Nat) (h : ax_H) (b : Nat) (hb : h b = none) {Q : ax_P} (hQ : ∀ (ad : cs_K → Nat) (h' : ax_H), cs_inj ad → ad (0, 0) = b → hx_le h h' → Q (.inl none) (cs_O ad nS h')) : AW G mX6_init (d + 2) 954 8864 Q 0 [(0, .ref b)] [] (ax_w h [(b, .inr (6, [.null, .null, .null, .null, .null, .null]))]) 0 0 := by
  refine in6 d h b hb (fun o1 q1 q2 q3 q4 o3 a3 c3 e3 f3 k3 o4 a4 c4 o0 p1 o2 p2 vs ws us l1 l2 l3 hw => ?_)
  have hk := fin6_k (b := b) (o1 := o1) (q1 := q1) (q2 := q2) (q3 := q3) (q4 := q4) (o3 := o3) (a3 := a3) (c3 := c3) (e3 := e3) (f3 := f3) (k3 := k3) (o4 := o4) (a4 := a4) (c4 := c4) (o0 := o0) (p1 := p1) (o2 := o2) (p2 := p2) l1 l2 l3
  obtain ⟨ad, had⟩ : ∃ ad, ad = n_ad b o1 q1 q2 q3 q4 o3 a3 vs c3 e3 f3 k3 ws o4 a4 c4 us o0 p1 o2 p2 := ⟨_, rfl⟩
  rw [← had] at hk
  have had0 : ad (0, 0) = b := by rw [had]; rfl
  have hn : (n_ko.map ad).Nodup := by
    have := hw.1
    rw [hk, List.map_map] at this
    exact this
  have hinj : cs_inj ad := fun i hi j hj e => inj_of hn i (n_ko_all i hi) j (n_ko_all j hj) e
  have hself : cs_O ad nS (ax_w h (fin6 b o1 q1 q2 q3 q4 o3 a3 vs c3 e3 f3 k3 ws o4 a4 c4 us o0 p1 o2 p2)) = ax_w h (fin6 b o1 q1 q2 q3 q4 o3 a3 vs c3 e3 f3 k3 ws o4 a4 c4 us o0 p1 o2 p2) := by
    refine cs_O_self (fun k hkk => ax_w_mem hw.1 ?_)
    rw [hk]
    exact List.mem_map.mpr ⟨k, n_ko_all k hkk, rfl⟩
  rw [← hself]
  exact hQ ad _ hinj had0 (wk_le hw)
end NEW6
