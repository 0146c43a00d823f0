/-! ===== a few cells over a heap ===== -/
def ax_w (h : ax_H) (l : List (Nat × ax_E)) : ax_H := fun x => match l.find? (fun q => q.1 == x) with
  | some q => some q.2
  | none => h x
theorem ax_w_nil (h : ax_H) : ax_w h [] = h := rfl
theorem ax_w_cons (h : ax_H) (q : Nat × ax_E) (l : List (Nat × ax_E)) : ax_w h (q :: l) = va_up (ax_w h l) q.1 (some q.2) := by
  funext x
  unfold ax_w va_up
  by_cases hx : x = q.1
  · subst hx; simp
  · have : (q.1 == x) = false := by simpa using fun e => hx e.symm
    simp [List.find?_cons, this, hx]
theorem ax_up_s {h : ax_H} {a : Nat} {o : Option ax_E} : va_up h a o a = o := by simp [va_up]
theorem ax_up_n {h : ax_H} {a b : Nat} {o : Option ax_E} (hn : ¬ b = a) : va_up h a o b = h b := by simp [va_up, hn]
theorem ax_w_get {h : ax_H} {l : List (Nat × ax_E)} {i a : Nat} {o : ax_E} (hn : (l.map (fun q => q.1)).Nodup) (hi : l[i]? = some (a, o)) : ax_w h l a = some o := by
  induction l generalizing i with
  | nil => simp at hi
  | cons q l ih =>
    rw [ax_w_cons]
    rw [List.map_cons, List.nodup_cons] at hn
    cases i with
    | zero =>
      simp at hi
      subst hi
      exact ax_up_s
    | succ i =>
      simp at hi
      have hm : a ∈ l.map (fun q => q.1) := List.mem_map.mpr ⟨_, List.mem_of_getElem? hi, rfl⟩
      have hne : ¬ a = q.1 := fun e => hn.1 (by rw [← e]; exact hm)
      rw [ax_up_n hne]
      exact ih hn.2 hi
theorem ax_w_ne {h : ax_H} {l : List (Nat × ax_E)} {a : Nat} (hn : a ∉ l.map (fun q => q.1)) : ax_w h l a = h a := by
  induction l with
  | nil => rfl
  | cons q l ih =>
    rw [List.map_cons, List.mem_cons, not_or] at hn
    rw [ax_w_cons, ax_up_n hn.1, ih hn.2]
theorem ax_up_comm {h : ax_H} {a b : Nat} {o p : Option ax_E} (hn : ¬ a = b) : va_up (va_up h a o) b p = va_up (va_up h b p) a o := by
  funext x
  unfold va_up
  by_cases h1 : x = a
  · by_cases h2 : x = b
    · exact absurd (h1.symm.trans h2) hn
    · simp [h1, hn]
  · simp [h1]
theorem ax_w_set {h : ax_H} {l : List (Nat × ax_E)} {i a : Nat} {o : ax_E} (o' : ax_E) (hn : (l.map (fun q => q.1)).Nodup) (hi : l[i]? = some (a, o)) : va_up (ax_w h l) a (some o') = ax_w h (l.set i (a, o')) := by
  induction l generalizing i with
  | nil => simp at hi
  | cons q l ih =>
    rw [List.map_cons, List.nodup_cons] at hn
    cases i with
    | zero =>
      simp at hi
      subst hi
      rw [List.set_cons_zero, ax_w_cons, ax_w_cons, bx_uu]
    | succ i =>
      simp at hi
      have hm : a ∈ l.map (fun q => q.1) := List.mem_map.mpr ⟨_, List.mem_of_getElem? hi, rfl⟩
      have hne : ¬ q.1 = a := fun e => hn.1 (by rw [e]; exact hm)
      rw [List.set_cons_succ, ax_w_cons, ax_w_cons, ax_up_comm hne, ih hn.2 hi]
theorem ax_set_keys {l : List (Nat × ax_E)} {i a : Nat} {o o' : ax_E} (hi : l[i]? = some (a, o)) : (l.set i (a, o')).map (fun q => q.1) = l.map (fun q => q.1) := by
  induction l generalizing i with
  | nil => rfl
  | cons q l ih =>
    cases i with
    | zero => simp at hi; subst hi; rfl
    | succ i => simp at hi; simp [ih hi]
def ax_sets (l : List (Nat × ax_E)) : List Nat → List (Nat × ax_E) → List (Nat × ax_E)
  | i :: is, q :: qs => (ax_sets l is qs).set i q
  | _, _ => l
theorem ax_w_over {h : ax_H} {l : List (Nat × ax_E)} (hn : (l.map (fun q => q.1)).Nodup) : ∀ (is : List Nat) (lc : List (Nat × ax_E)), is.map (fun i => (l.map (fun q => q.1))[i]?) = lc.map (fun q => some q.1) → ax_w (ax_w h l) lc = ax_w h (ax_sets l is lc) ∧ (ax_sets l is lc).map (fun q => q.1) = l.map (fun q => q.1) := by
  intro is
  induction is with
  | nil =>
    intro lc he
    cases lc with
    | nil => exact ⟨rfl, rfl⟩
    | cons q qs => simp at he
  | cons i is ih =>
    intro lc he
    cases lc with
    | nil => simp at he
    | cons q qs =>
      simp only [List.map_cons, List.cons.injEq] at he
      obtain ⟨e1, e2⟩ := ih qs he.2
      have hk : ((ax_sets l is qs).map (fun q => q.1))[i]? = some q.1 := by rw [e2]; exact he.1
      rw [List.getElem?_map] at hk
      obtain ⟨z, hz, hz2⟩ := Option.map_eq_some_iff.mp hk
      have hz3 : (ax_sets l is qs)[i]? = some (q.1, z.2) := by rw [hz, ← hz2]
      have h4 := ax_w_set (h := h) q.2 (by rw [e2]; exact hn) hz3
      refine ⟨?_, ?_⟩
      · rw [ax_w_cons, e1, h4]
        rfl
      · show ((ax_sets l is qs).set i (q.1, q.2)).map _ = _
        rw [ax_set_keys hz3, e2]
theorem ax_w_self {h : ax_H} {l : List (Nat × ax_E)} (hl : ∀ q ∈ l, h q.1 = some q.2) : ax_w h l = h := by
  funext x
  unfold ax_w
  cases hf : l.find? (fun q => q.1 == x) with
  | none => rfl
  | some q =>
    have h1 := hl q (List.mem_of_find?_eq_some hf)
    have h2 : q.1 = x := by simpa using List.find?_some hf
    rw [← h2]; exact h1.symm
theorem ax_w_push {h : ax_H} {l : List (Nat × ax_E)} {a : Nat} {o : ax_E} (hf : ax_w h l a = none) : va_up (ax_w h l) a (some o) = ax_w h (l ++ [(a, o)]) := by
  induction l with
  | nil => rw [List.nil_append, ax_w_cons]
  | cons q l ih =>
    have hne : ¬ a = q.1 := fun e => by
      rw [ax_w_cons, e, ax_up_s] at hf; cases hf
    rw [List.cons_append, ax_w_cons, ax_w_cons, ← ih (by rw [ax_w_cons, ax_up_n hne] at hf; exact hf), ax_up_comm (fun e => hne e.symm)]
theorem ax_eqh {G : ax_G} {M : ax_M} {d mc ms : Nat} {Q : ax_P} {pc : Nat} {lv : ax_L} {st : List Value} {h h' : ax_H} {cn sn : Nat} (e : h = h') (k : AW G M d mc ms Q pc lv st h' cn sn) : AW G M d mc ms Q pc lv st h cn sn := e ▸ k
theorem ax_ct {G : ax_G} {M : ax_M} {d mc ms : Nat} {Q : ax_P} {pc : Nat} {lv : ax_L} {st st' : List Value} {h h' : ax_H} {cn sn : Nat} (k : AW G M d mc ms Q pc lv st h cn sn) (e : st = st') (e2 : h = h') : AW G M d mc ms Q pc lv st' h' cn sn := e2 ▸ e ▸ k
theorem ax_mono {G : ax_G} {M : ax_M} {d mc ms : Nat} {Q Q' : ax_P} {pc : Nat} {lv : ax_L} {st : List Value} {h : ax_H} {cn sn : Nat} (k : AW G M d mc ms Q pc lv st h cn sn) (hq : ∀ r h1, Q r h1 → Q' r h1) : AW G M d mc ms Q' pc lv st h cn sn := by
  intro p e s m args below meth c R H locs ls E Rm Fx Hp hS hl hc hs T hT X
  obtain ⟨t, a1, o, b1, b2, b3⟩ := k p e s m args below meth c R H locs ls E Rm Fx Hp hS hl hc hs T hT X
  refine ⟨t, a1, o, b1, b2, ?_⟩
  rcases b3 with ⟨⟨v, h9, e1, q1, q2⟩, q3⟩ | ⟨q, e1, E9, ce, L, ⟨h9, q1, q2⟩, q3⟩
  · exact Or.inl ⟨⟨v, h9, e1, hq _ _ q1, q2⟩, q3⟩
  · exact Or.inr ⟨q, e1, E9, ce, L, ⟨h9, hq _ _ q1, q2⟩, q3⟩
section AXW
variable {G : ax_G} {M : ax_M} {d mc ms : Nat} {Q : ax_P} {pc : Nat} {lv : ax_L} {st : List Value} {h : ax_H} {cn sn : Nat} {l : List (Nat × ax_E)}
theorem ax_wget {i a ci j : Nat} {fs : List Value} {v : Value} (n : Nat) (hn : (l.map (fun q => q.1)).Nodup) (hi : l[n]? = some (a, .inr (ci, fs))) (hd : decode M.2.1 pc = .ok (.getfield i, 3)) (hf : ax_fk M.1.cls i ci j) (hv : fs[j]? = some v) (k : AW G M d mc ms Q (pc + 3) lv (v :: st) (ax_w h l) cn sn) : AW G M d mc ms Q pc lv (.ref a :: st) (ax_w h l) cn sn := ax_get hd hf (ax_w_get hn hi) hv k
theorem ax_wput {i a ci j : Nat} {fs : List Value} {v : Value} {ty : FieldType} {l' : List (Nat × ax_E)} (n : Nat) (hn : (l.map (fun q => q.1)).Nodup) (hi : l[n]? = some (a, .inr (ci, fs))) (hd : decode M.2.1 pc = .ok (.putfield i, 3)) (hf : ax_fp M.1.cls i ci j ty) (hw : narrow ty v = v) (hfit : fits ty v = true) (hj : j < fs.length) (hl' : l.set n (a, .inr (ci, fs.set j v)) = l') (k : AW G M d mc ms Q (pc + 3) lv st (ax_w h l') cn sn) : AW G M d mc ms Q pc lv (v :: .ref a :: st) (ax_w h l) cn sn := ax_put hd hf (ax_w_get hn hi) hw hfit hj (by rw [ax_w_set _ hn hi, hl']; exact k)
theorem ax_wputF {i a ci j : Nat} {fs : List Value} {v : Value} {ty : FieldType} {l' : List (Nat × ax_E)} (n : Nat) (hn : (l.map (fun q => q.1)).Nodup) (hi : l[n]? = some (a, .inr (ci, fs))) (hd : decode M.2.1 pc = .ok (.putfield i, 3)) (hf : ax_fF M.1.cls i ci j ty) (hM : M.1.name = "<init>") (hw : narrow ty v = v) (hfit : fits ty v = true) (hj : j < fs.length) (hl' : l.set n (a, .inr (ci, fs.set j v)) = l') (k : AW G M d mc ms Q (pc + 3) lv st (ax_w h l') cn sn) : AW G M d mc ms Q pc lv (v :: .ref a :: st) (ax_w h l) cn sn := ax_putF hd hf hM (ax_w_get hn hi) hw hfit hj (by rw [ax_w_set _ hn hi, hl']; exact k)
theorem ax_wiald {a z : Nat} {f : Nat → Int32} {i : Int32} (n : Nat) (hn : (l.map (fun q => q.1)).Nodup) (hi : l[n]? = some (a, .inl (0, z, .inl f))) (hd : decode M.2.1 pc = .ok (.iaload, 1)) (hin : vp_in i z) (k : AW G M d mc ms Q (pc + 1) lv (.int (f i.toNatClampNeg) :: st) (ax_w h l) cn sn) : AW G M d mc ms Q pc lv (.int i :: .ref a :: st) (ax_w h l) cn sn := ax_iald hd (ax_w_get hn hi) hin k
theorem ax_wiast {a z : Nat} {f : Nat → Int32} {i x : Int32} {l' : List (Nat × ax_E)} (n : Nat) (hn : (l.map (fun q => q.1)).Nodup) (hi : l[n]? = some (a, .inl (0, z, .inl f))) (hd : decode M.2.1 pc = .ok (.iastore, 1)) (hin : vp_in i z) (hl' : l.set n (a, .inl (0, z, .inl (upd f i.toNatClampNeg x))) = l') (k : AW G M d mc ms Q (pc + 1) lv st (ax_w h l') cn sn) : AW G M d mc ms Q pc lv (.int x :: .int i :: .ref a :: st) (ax_w h l) cn sn := ax_iast hd (ax_w_get hn hi) hin (by rw [ax_w_set _ hn hi, hl']; exact k)
theorem ax_waald3 {a z : Nat} {f : Nat → Option Nat} {i : Int32} (n : Nat) (hn : (l.map (fun q => q.1)).Nodup) (hi : l[n]? = some (a, .inl (3, z, .inr (.inr (.inr (.inr f)))))) (hd : decode M.2.1 pc = .ok (.aaload, 1)) (hin : vp_in i z) (k : AW G M d mc ms Q (pc + 1) lv (va_rf (f i.toNatClampNeg) :: st) (ax_w h l) cn sn) : AW G M d mc ms Q pc lv (.int i :: .ref a :: st) (ax_w h l) cn sn := ax_aald3 hd (ax_w_get hn hi) hin k
theorem ax_waast3 {a z v : Nat} {vs : List Value} {f : Nat → Option Nat} {i : Int32} {l' : List (Nat × ax_E)} (n n2 : Nat) (hn : (l.map (fun q => q.1)).Nodup) (hi : l[n]? = some (a, .inl (3, z, .inr (.inr (.inr (.inr f)))))) (hv : l[n2]? = some (v, .inr (5, vs))) (hd : decode M.2.1 pc = .ok (.aastore, 1)) (hin : vp_in i z) (hl' : l.set n (a, .inl (3, z, .inr (.inr (.inr (.inr (va_up f i.toNatClampNeg (some v))))))) = l') (k : AW G M d mc ms Q (pc + 1) lv st (ax_w h l') cn sn) : AW G M d mc ms Q pc lv (.ref v :: .int i :: .ref a :: st) (ax_w h l) cn sn := ax_aast3 hd (ax_w_get hn hi) (ax_w_get hn hv) hin (by rw [ax_w_set _ hn hi, hl']; exact k)
theorem ax_waast3N {a z : Nat} {f : Nat → Option Nat} {i : Int32} {l' : List (Nat × ax_E)} (n : Nat) (hn : (l.map (fun q => q.1)).Nodup) (hi : l[n]? = some (a, .inl (3, z, .inr (.inr (.inr (.inr f)))))) (hd : decode M.2.1 pc = .ok (.aastore, 1)) (hin : vp_in i z) (hl' : l.set n (a, .inl (3, z, .inr (.inr (.inr (.inr (va_up f i.toNatClampNeg none)))))) = l') (k : AW G M d mc ms Q (pc + 1) lv st (ax_w h l') cn sn) : AW G M d mc ms Q pc lv (.null :: .int i :: .ref a :: st) (ax_w h l) cn sn := ax_aast3N hd (ax_w_get hn hi) hin (by rw [ax_w_set _ hn hi, hl']; exact k)
end AXW
theorem ax_w_sub {h : ax_H} {l lc : List (Nat × ax_E)} (hn : (l.map (fun q => q.1)).Nodup) (is : List Nat) (hC : is.map (fun i => l[i]?) = lc.map some) : ax_w (ax_w h l) lc = ax_w h l := by
  refine ax_w_self fun q hq => ?_
  have h1 : some q ∈ lc.map some := List.mem_map.mpr ⟨q, hq, rfl⟩
  rw [← hC] at h1
  obtain ⟨i, -, hi⟩ := List.mem_map.mp h1
  exact ax_w_get hn (i := i) hi
theorem ax_w_ov {h : ax_H} {l lc l' : List (Nat × ax_E)} (hn : (l.map (fun q => q.1)).Nodup) (is : List Nat) (hk : is.map (fun i => (l.map (fun q => q.1))[i]?) = lc.map (fun q => some q.1)) (hl : ax_sets l is lc = l') : ax_w (ax_w h l) lc = ax_w h l' := by
  rw [(ax_w_over hn is lc hk).1, hl]
theorem ax_in {x m : Int32} {n : Nat} (h0 : ¬ x < 0) (h1 : ¬ m ≤ x) (hm : m.toInt = (n : Int)) : vp_in x n := by
  rw [vp_in_iff]
  have e0 : (0 : Int32).toInt = 0 := by decide
  rw [Int32.lt_iff_toInt_lt] at h0
  rw [Int32.le_iff_toInt_le] at h1
  omega
theorem ax_out5 {x : Int32} (h1 : ¬ x.toInt = 1) (h2 : ¬ x.toInt = 2) (h3 : ¬ x.toInt = 3) (h4 : ¬ x.toInt = 4) (h5 : ¬ x.toInt = 5) : x.toInt < 1 ∨ 5 < x.toInt := by omega
theorem ax_inj {ks : List Nat} (hn : ks.Nodup) {i j k : Nat} (h1 : ks[i]? = some k) (h2 : ks[j]? = some k) : i = j := by
  induction ks generalizing i j with
  | nil => simp at h1
  | cons x ks ih =>
    rw [List.nodup_cons] at hn
    cases i with
    | zero =>
      cases j with
      | zero => rfl
      | succ j =>
        simp at h1 h2
        exact absurd (h1 ▸ List.mem_of_getElem? h2) hn.1
    | succ i =>
      cases j with
      | zero =>
        simp at h1 h2
        exact absurd (h2 ▸ List.mem_of_getElem? h1) hn.1
      | succ j =>
        simp at h1 h2
        rw [ih hn.2 h1 h2]
theorem ax_nd {ks : List Nat} (is : List Nat) (hn : ks.Nodup) {ks' : List Nat} (h1 : is.map (fun i => ks[i]?) = ks'.map some) (h2 : is.Nodup) : ks'.Nodup := by
  induction is generalizing ks' with
  | nil =>
    cases ks' with
    | nil => exact List.nodup_nil
    | cons k ks' => simp at h1
  | cons i is ih =>
    cases ks' with
    | nil => simp at h1
    | cons k ks' =>
      simp only [List.map_cons, List.cons.injEq] at h1
      rw [List.nodup_cons] at h2 ⊢
      refine ⟨fun hk => ?_, ih h1.2 h2.2⟩
      have h3 : some k ∈ ks'.map some := List.mem_map.mpr ⟨k, hk, rfl⟩
      rw [← h1.2] at h3
      obtain ⟨j, hj, hj2⟩ := List.mem_map.mp h3
      have := ax_inj hn h1.1 hj2
      exact h2.1 (this ▸ hj)
