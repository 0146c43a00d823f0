/-! ===== what is made, what the library does, what is thrown, calls ===== -/
theorem ax_newa_int {G : ax_G} {M : ax_M} {d mc ms : Nat} {Q : ax_P} {pc : Nat} {lv : ax_L} {st : List Value} {h : ax_H} {cn sn : Nat} {n : Int32} {N : Nat} (hd : decode M.2.1 pc = .ok (.newarray .int, 2)) (hw : Cond.arrayClass .int ∈ ax_all) (hn : ¬ n < 0) (hN : n.toNatClampNeg = N) (hb : N ≤ 100000) (h1 : cn + 1 ≤ mc) (h2 : sn + N ≤ ms) (k : ∀ q : Nat, h q = none → AW G M d mc ms Q (pc + 2) lv (.ref q :: st) (va_up h q (some (.inl (0, N, .inl (fun _ => 0))))) (cn + 1) (sn + N)) : AW G M d mc ms Q pc lv (.int n :: st) h cn sn := by
  intro p e s m args below meth c R H locs ls E Rm Fx Hp hS hl hc hs
  obtain ⟨L, hL, hP, hD⟩ := id Hp
  refine va_newa (atype := .int) (ty := .int) (a0 := (N, .inl (fun _ => 0))) E.1 E.2.1 (E.2.2.2.2.2.1 _ hw) rfl Fx.1 hP hD hS (fun q hq => Nat.le_trans Fx.2.2.1 hq) (fun _ => rfl) hn hN (show N * 4 ≤ 536870912 by omega) (by rw [Rm.1]; exact h1) (by rw [Rm.2.1]; exact h2) hd (fun q cA H1 hK1 hP1 hD1 hS1 => ?_)
  have e1 : cA = G.2.2.1 0 := by
    have h3 : s.vm.findClass ("[" ++ (.int : FieldType).toString) = some cA := (hK1.2 5 (cA, .int) rfl).2
    have h4 : s.vm.findClass ("[" ++ (.int : FieldType).toString) = some (G.2.2.1 0) := (Fx.1.2 0 (G.2.2.1 0, .int) rfl).2
    exact Option.some.inj (h3.symm.trans h4)
  subst e1
  obtain ⟨hq, Hp1⟩ := ax_new0 (o := .inl (0, N, .inl (fun _ => 0))) hL hP1 hD1
  exact k q hq p e s m args below meth c R H1 locs ls E Rm Fx Hp1 hS1 hl h1 h2
theorem ax_newa_long {G : ax_G} {M : ax_M} {d mc ms : Nat} {Q : ax_P} {pc : Nat} {lv : ax_L} {st : List Value} {h : ax_H} {cn sn : Nat} {n : Int32} {N : Nat} (hd : decode M.2.1 pc = .ok (.newarray .long, 2)) (hw : Cond.arrayClass .long ∈ ax_all) (hn : ¬ n < 0) (hN : n.toNatClampNeg = N) (hb : N ≤ 100000) (h1 : cn + 1 ≤ mc) (h2 : sn + N ≤ ms) (k : ∀ q : Nat, h q = none → AW G M d mc ms Q (pc + 2) lv (.ref q :: st) (va_up h q (some (.inl (1, N, .inr (.inl (fun _ => 0)))))) (cn + 1) (sn + N)) : AW G M d mc ms Q pc lv (.int n :: st) h cn sn := by
  intro p e s m args below meth c R H locs ls E Rm Fx Hp hS hl hc hs
  obtain ⟨L, hL, hP, hD⟩ := id Hp
  refine va_newa (atype := .long) (ty := .long) (a0 := (N, .inr (.inl (fun _ => 0)))) E.1 E.2.1 (E.2.2.2.2.2.1 _ hw) rfl Fx.1 hP hD hS (fun q hq => Nat.le_trans Fx.2.2.1 hq) (fun _ => rfl) hn hN (show N * 8 ≤ 536870912 by omega) (by rw [Rm.1]; exact h1) (by rw [Rm.2.1]; exact h2) hd (fun q cA H1 hK1 hP1 hD1 hS1 => ?_)
  have e1 : cA = G.2.2.1 1 := by
    have h3 : s.vm.findClass ("[" ++ (.long : FieldType).toString) = some cA := (hK1.2 5 (cA, .long) rfl).2
    have h4 : s.vm.findClass ("[" ++ (.long : FieldType).toString) = some (G.2.2.1 1) := (Fx.1.2 1 (G.2.2.1 1, .long) rfl).2
    exact Option.some.inj (h3.symm.trans h4)
  subst e1
  obtain ⟨hq, Hp1⟩ := ax_new0 (o := .inl (1, N, .inr (.inl (fun _ => 0)))) hL hP1 hD1
  exact k q hq p e s m args below meth c R H1 locs ls E Rm Fx Hp1 hS1 hl h1 h2
theorem ax_newa_double {G : ax_G} {M : ax_M} {d mc ms : Nat} {Q : ax_P} {pc : Nat} {lv : ax_L} {st : List Value} {h : ax_H} {cn sn : Nat} {n : Int32} {N : Nat} (hd : decode M.2.1 pc = .ok (.newarray .double, 2)) (hw : Cond.arrayClass .double ∈ ax_all) (hn : ¬ n < 0) (hN : n.toNatClampNeg = N) (hb : N ≤ 100000) (h1 : cn + 1 ≤ mc) (h2 : sn + N ≤ ms) (k : ∀ q : Nat, h q = none → AW G M d mc ms Q (pc + 2) lv (.ref q :: st) (va_up h q (some (.inl (2, N, .inr (.inr (.inr (.inl (fun _ => 0)))))))) (cn + 1) (sn + N)) : AW G M d mc ms Q pc lv (.int n :: st) h cn sn := by
  intro p e s m args below meth c R H locs ls E Rm Fx Hp hS hl hc hs
  obtain ⟨L, hL, hP, hD⟩ := id Hp
  refine va_newa (atype := .double) (ty := .double) (a0 := (N, .inr (.inr (.inr (.inl (fun _ => 0)))))) E.1 E.2.1 (E.2.2.2.2.2.1 _ hw) rfl Fx.1 hP hD hS (fun q hq => Nat.le_trans Fx.2.2.1 hq) (fun _ => rfl) hn hN (show N * 8 ≤ 536870912 by omega) (by rw [Rm.1]; exact h1) (by rw [Rm.2.1]; exact h2) hd (fun q cA H1 hK1 hP1 hD1 hS1 => ?_)
  have e1 : cA = G.2.2.1 2 := by
    have h3 : s.vm.findClass ("[" ++ (.double : FieldType).toString) = some cA := (hK1.2 5 (cA, .double) rfl).2
    have h4 : s.vm.findClass ("[" ++ (.double : FieldType).toString) = some (G.2.2.1 2) := (Fx.1.2 2 (G.2.2.1 2, .double) rfl).2
    exact Option.some.inj (h3.symm.trans h4)
  subst e1
  obtain ⟨hq, Hp1⟩ := ax_new0 (o := .inl (2, N, .inr (.inr (.inr (.inl (fun _ => 0)))))) hL hP1 hD1
  exact k q hq p e s m args below meth c R H1 locs ls E Rm Fx Hp1 hS1 hl h1 h2
theorem ax_newq3 {G : ax_G} {M : ax_M} {d mc ms : Nat} {Q : ax_P} {pc : Nat} {lv : ax_L} {st : List Value} {h : ax_H} {cn sn : Nat} {n : Int32} {N i : Nat} (hd : decode M.2.1 pc = .ok (.anewarray i, 3)) (hw : Cond.classLink M.1.cls i "DataMaker$Value" ∈ ax_all) (hn : ¬ n < 0) (hN : n.toNatClampNeg = N) (hb : N ≤ 100000) (h1 : cn + 1 ≤ mc) (h2 : sn + N ≤ ms) (k : ∀ q : Nat, h q = none → AW G M d mc ms Q (pc + 3) lv (.ref q :: st) (va_up h q (some (.inl (3, N, .inr (.inr (.inr (.inr (fun _ => none)))))))) (cn + 1) (sn + N)) : AW G M d mc ms Q pc lv (.int n :: st) h cn sn := by
  intro p e s m args below meth c R H locs ls E Rm Fx Hp hS hl hc hs
  obtain ⟨L, hL, hP, hD⟩ := id Hp
  refine va_newq (C := "DataMaker$Value") E.1 E.2.1 E.2.2.2.2.1 (E.2.2.2.2.2.1 _ hw) Fx.2.2.2.2.2.2.2.2.2.2.2.1 Fx.1 hP hD hS (fun q hq => Nat.le_trans Fx.2.2.1 hq) hn hN (by omega) (by rw [Rm.1]; exact h1) (by rw [Rm.2.1]; exact h2) hd (fun q cA H1 hK1 hP1 hD1 hS1 => ?_)
  have e1 : cA = G.2.2.1 3 := by
    obtain ⟨_, _, _, _, _, h3⟩ := (hK1.2 5 (cA, .object "DataMaker$Value") rfl).2
    obtain ⟨_, _, _, _, _, h4⟩ := (Fx.1.2 3 (G.2.2.1 3, .object "DataMaker$Value") rfl).2
    exact Option.some.inj (h3.symm.trans h4)
  subst e1
  obtain ⟨hq, Hp1⟩ := ax_new0 (o := .inl (3, N, .inr (.inr (.inr (.inr (fun _ => none)))))) hL hP1 hD1
  exact k q hq p e s m args below meth c R H1 locs ls E Rm Fx Hp1 hS1 hl h1 h2
theorem ax_newq4 {G : ax_G} {M : ax_M} {d mc ms : Nat} {Q : ax_P} {pc : Nat} {lv : ax_L} {st : List Value} {h : ax_H} {cn sn : Nat} {n : Int32} {N i : Nat} (hd : decode M.2.1 pc = .ok (.anewarray i, 3)) (hw : Cond.classLink M.1.cls i (FieldType.array .int).toString ∈ ax_all) (hn : ¬ n < 0) (hN : n.toNatClampNeg = N) (hb : N ≤ 100000) (h1 : cn + 1 ≤ mc) (h2 : sn + N ≤ ms) (k : ∀ q : Nat, h q = none → AW G M d mc ms Q (pc + 3) lv (.ref q :: st) (va_up h q (some (.inl (4, N, .inr (.inr (.inr (.inr (fun _ => none)))))))) (cn + 1) (sn + N)) : AW G M d mc ms Q pc lv (.int n :: st) h cn sn := by
  intro p e s m args below meth c R H locs ls E Rm Fx Hp hS hl hc hs
  obtain ⟨L, hL, hP, hD⟩ := id Hp
  subst hN
  refine W.anewA (t := .int) E.1 E.2.1 E.2.2.2.2.1 (E.2.2.2.2.2.1 _ hw) Fx.2.2.2.2.2.2.2.2.2.2.2.2 rfl hd rfl hn (by omega) (by rw [Rm.1]; exact h1) (by rw [Rm.2.1]; exact h2) fun cA kA comp f1 f2 f3 f4 => ?_
  have e1 : cA = G.2.2.1 4 := Option.some.inj (f1.symm.trans (Fx.1.2 4 (G.2.2.1 4, .array .int) rfl).2)
  subst e1
  generalize hH1 : H.push ({ cls := G.2.2.1 4, slots := Array.replicate n.toNatClampNeg .null, vm := .none } : Cell) = H1
  have z1 : H1.size = H.size + 1 := by rw [← hH1, Array.size_push]
  have g1 : H1[H.size]? = some (arrV (G.2.2.1 4) n.toNatClampNeg (fun _ => .null)) := by rw [← hH1, Array.getElem?_push_size, ← arrV_new]
  have o1 : ∀ q : Nat, q < H.size → H1[q]? = H[q]? := fun q hq => by rw [← hH1, Array.getElem?_push, if_neg (Nat.ne_of_lt hq)]
  have hk : ∀ (k : Nat) (x : Nat × va_E), (va_pl L (ax_f G.2.2.1 h))[k]? = some x → H1[x.1]? = H[x.1]? := fun k x hx => o1 x.1 ((hP k x hx).lt)
  obtain ⟨hq, Hp1⟩ := ax_new0 (q := H.size) (o := .inl (4, n.toNatClampNeg, .inr (.inr (.inr (.inr (fun _ => none)))))) hL ((hP.kept hk).app (w2 := [(H.size, ax_cv G.2.2.1 (.inl (4, n.toNatClampNeg, .inr (.inr (.inr (.inr (fun _ => none)))))))]) (fun k x hx => by
    have hz : k < 1 := (List.getElem?_eq_some_iff.mp hx).1
    rw [show k = 0 by omega] at hx
    cases hx
    show H1[H.size]? = some (vp_cell _ _)
    rw [vp_cell_q]
    exact g1)) (hD.push hP rfl (Nat.le_trans Fx.2.2.1 hS.1))
  exact k H.size hq p e s m args below meth c R H1 locs ls E Rm Fx Hp1 ⟨Nat.le_trans hS.1 (by omega), fun x h1 h2 => (o1 x (Nat.lt_of_lt_of_le h1 hS.1)).trans (hS.2.1 x h1 h2), hS.2.2⟩ hl h1 h2
/-- a class that can be made: its number, the fields at first -/
def ax_mk (own : String) (i ci : Nat) (fs : List Value) : Prop := ∃ (C : String) (T : u_T) (N : Nat) (ty : Nat → FieldType), vwCl[ci]? = some (C, T, N) ∧ (∀ w ∈ u_ws C T N, w ∈ ax_all) ∧ (∀ k, k < N → parseFieldDescriptor (T k).2.2.1 = some (ty k)) ∧ Cond.classLink own i C ∈ ax_all ∧ Cond.instantiable C N ∈ ax_all ∧ Cond.initialized C ∈ ax_all ∧ (∀ j, j < N → defaultValue (ty j) = vp_V fs j) ∧ fs.length = N
theorem ax_new {G : ax_G} {M : ax_M} {d mc ms : Nat} {Q : ax_P} {pc : Nat} {lv : ax_L} {st : List Value} {h : ax_H} {cn sn : Nat} {i ci : Nat} {fs : List Value} (hd : decode M.2.1 pc = .ok (.new i, 3)) (hf : ax_mk M.1.cls i ci fs) (h1 : cn + 1 ≤ mc) (h2 : sn + fs.length ≤ ms) (k : ∀ q : Nat, h q = none → AW G M d mc ms Q (pc + 3) lv (.ref q :: st) (va_up h q (some (.inr (ci, fs)))) (cn + 1) (sn + fs.length)) : AW G M d mc ms Q pc lv st h cn sn := by
  intro p e s m args below meth c R H locs ls E Rm Fx Hp hS hl hc hs
  obtain ⟨C, T, N, ty, f1, f2, f3, f4, f5, f6, f7, rfl⟩ := hf
  obtain ⟨L, hL, hP, hD⟩ := id Hp
  refine va_new (ci := ci) (fs := fs) E.1 E.2.1 E.2.2.2.2.2.1 f2 ty f3 E.2.2.2.2.1 (E.2.2.2.2.2.1 _ f4) (E.2.2.2.2.2.1 _ f5) (E.2.2.2.2.2.1 _ f6) Fx.1 hP hD hS (fun q hq => Nat.le_trans Fx.2.2.1 hq) f1 f7 (by rw [Rm.1]; exact h1) (by rw [Rm.2.1]; exact h2) hd (fun q H1 hP1 hD1 hS1 => ?_)
  obtain ⟨hq, Hp1⟩ := ax_new0 (o := .inr (ci, fs)) hL hP1 hD1
  exact k q hq p e s m args below meth c R H1 locs ls E Rm Fx Hp1 hS1 hl h1 h2
theorem ax_obj {G : ax_G} {M : ax_M} {d mc ms : Nat} {Q : ax_P} {pc : Nat} {lv : ax_L} {st : List Value} {h : ax_H} {cn sn : Nat} {i a : Nat} (hd : decode M.2.1 pc = .ok (.invokespecial i, 3)) (hw1 : Cond.methodLink M.1.cls i Lib.objectInit ∈ ax_all) (hw2 : Cond.instanceMethod Lib.objectInit ∈ ax_all) (hw3 : Cond.code Lib.objectInit ⟨#[0xb1]⟩ 1 none ∈ ax_all) (hcat : (st.map fun v => v.category).sum ≤ 8) (k : AW G M d mc ms Q (pc + 3) lv st h cn sn) : AW G M d mc ms Q pc lv (.ref a :: st) h cn sn := by
  intro p e s m args below meth c R H locs ls E Rm Fx Hp hS hl hc hs
  exact W.objInit E.1 E.2.1 E.2.2.2.2.1 (E.2.2.2.2.2.1 _ hw1) (E.2.2.2.2.2.1 _ hw2) (E.2.2.2.2.2.1 _ hw3) rfl (by rw [E.2.2.2.1]; exact hl.1) rfl hd (by have := Rm.2.2.1; omega) (by have := lv_room (m := m) (pc := pc) (ls := ls) (rest := .ref a :: st) hcat; have := Rm.2.2.2; omega) (k p e s m args below meth c R H locs ls E Rm Fx Hp hS hl hc hs)
theorem ax_mmin {G : ax_G} {M : ax_M} {d mc ms : Nat} {Q : ax_P} {pc : Nat} {lv : ax_L} {st : List Value} {h : ax_H} {cn sn : Nat} {i : Nat} {x y : Int32} (hd : decode M.2.1 pc = .ok (.invokestatic i, 3)) (hw1 : Cond.methodLink M.1.cls i Lib.Math.min.name ∈ ax_all) (hw2 : Cond.static Lib.Math.min.name ∈ ax_all) (hw3 : Cond.initialized "java/lang/Math" ∈ ax_all) (hw4 : Cond.code Lib.Math.min.name Lib.Math.min.code 2 (some .int) ∈ ax_all) (hcat : (st.map fun v => v.category).sum ≤ 8) (k : AW G M d mc ms Q (pc + 3) lv (.int (if y < x then y else x) :: st) h cn sn) : AW G M d mc ms Q pc lv (.int y :: .int x :: st) h cn sn := by
  intro p e s m args below meth c R H locs ls E Rm Fx Hp hS hl hc hs
  exact va_mmin E.1 E.2.1 (by rw [E.2.2.2.1]; exact hl.1.symm) E.2.2.2.2.1 (E.2.2.2.2.2.1 _ hw1) (E.2.2.2.2.2.1 _ hw2) (E.2.2.2.2.2.1 _ hw3) (E.2.2.2.2.2.1 _ hw4) (by have := Rm.2.2.1; omega) (by have := Rm.2.2.2; omega) (by rw [Rm.1]; exact hc) (by rw [Rm.2.1]; exact hs) hd (k p e s m args below meth c R H locs ls E Rm Fx Hp hS hl hc hs)
theorem ax_mmax {G : ax_G} {M : ax_M} {d mc ms : Nat} {Q : ax_P} {pc : Nat} {lv : ax_L} {st : List Value} {h : ax_H} {cn sn : Nat} {i : Nat} {x y : Int32} (hd : decode M.2.1 pc = .ok (.invokestatic i, 3)) (hw1 : Cond.methodLink M.1.cls i Lib.Math.max.name ∈ ax_all) (hw2 : Cond.static Lib.Math.max.name ∈ ax_all) (hw3 : Cond.initialized "java/lang/Math" ∈ ax_all) (hw4 : Cond.code Lib.Math.max.name Lib.Math.max.code 2 (some .int) ∈ ax_all) (hcat : (st.map fun v => v.category).sum ≤ 8) (k : AW G M d mc ms Q (pc + 3) lv (.int (if x < y then y else x) :: st) h cn sn) : AW G M d mc ms Q pc lv (.int y :: .int x :: st) h cn sn := by
  intro p e s m args below meth c R H locs ls E Rm Fx Hp hS hl hc hs
  exact va_mmax E.1 E.2.1 (by rw [E.2.2.2.1]; exact hl.1.symm) E.2.2.2.2.1 (E.2.2.2.2.2.1 _ hw1) (E.2.2.2.2.2.1 _ hw2) (E.2.2.2.2.2.1 _ hw3) (E.2.2.2.2.2.1 _ hw4) (by have := Rm.2.2.1; omega) (by have := Rm.2.2.2; omega) (by rw [Rm.1]; exact hc) (by rw [Rm.2.1]; exact hs) hd (k p e s m args below meth c R H locs ls E Rm Fx Hp hS hl hc hs)
theorem ax_mabs {G : ax_G} {M : ax_M} {d mc ms : Nat} {Q : ax_P} {pc : Nat} {lv : ax_L} {st : List Value} {h : ax_H} {cn sn : Nat} {i : Nat} {x : Int32} (hd : decode M.2.1 pc = .ok (.invokestatic i, 3)) (hw1 : Cond.methodLink M.1.cls i Lib.Math.abs.name ∈ ax_all) (hw2 : Cond.static Lib.Math.abs.name ∈ ax_all) (hw3 : Cond.initialized "java/lang/Math" ∈ ax_all) (hw4 : Cond.code Lib.Math.abs.name Lib.Math.abs.code 1 (some .int) ∈ ax_all) (hcat : (st.map fun v => v.category).sum ≤ 8) (k : AW G M d mc ms Q (pc + 3) lv (.int (if 0 ≤ x then x else 0 - x) :: st) h cn sn) : AW G M d mc ms Q pc lv (.int x :: st) h cn sn := by
  intro p e s m args below meth c R H locs ls E Rm Fx Hp hS hl hc hs
  exact va_mabs E.1 E.2.1 (by rw [E.2.2.2.1]; exact hl.1.symm) E.2.2.2.2.1 (E.2.2.2.2.2.1 _ hw1) (E.2.2.2.2.2.1 _ hw2) (E.2.2.2.2.2.1 _ hw3) (E.2.2.2.2.2.1 _ hw4) (by have := Rm.2.2.1; omega) (by have := Rm.2.2.2; omega) (by rw [Rm.1]; exact hc) (by rw [Rm.2.1]; exact hs) hd (k p e s m args below meth c R H locs ls E Rm Fx Hp hS hl hc hs)
theorem ax_copy {G : ax_G} {M : ax_M} {d mc ms : Nat} {Q : ax_P} {pc : Nat} {lv : ax_L} {st : List Value} {h : ax_H} {cn sn : Nat} {i a0 a n0 n1 : Nat} {f g : Nat → Int32} {sp dp n : Int32} (hd : decode M.2.1 pc = .ok (.invokestatic i, 3)) (hw1 : Cond.methodLink M.1.cls i arraycopyName ∈ ax_all) (hw2 : Cond.native arraycopyName ∈ ax_all) (hw3 : Cond.static arraycopyName ∈ ax_all) (hw4 : Cond.initialized "java/lang/System" ∈ ax_all) (hcat : (st.map fun v => v.category).sum ≤ 8)
    (ha0 : h a0 = some (.inl (0, n0, .inl f))) (ha : h a = some (.inl (0, n1, .inl g))) (h1 : ¬ sp < 0) (h2 : ¬ dp < 0) (h3 : ¬ n < 0) (h4 : sp.toNatClampNeg + n.toNatClampNeg ≤ n0) (h5 : dp.toNatClampNeg + n.toNatClampNeg ≤ n1)
    (k : AW G M d mc ms Q (pc + 3) lv st (va_up h a (some (.inl (0, n1, .inl (va_cpy f g sp.toNatClampNeg dp.toNatClampNeg n.toNatClampNeg))))) cn sn) : AW G M d mc ms Q pc lv (.int n :: .int dp :: .ref a :: .int sp :: .ref a0 :: st) h cn sn := by
  intro p e s m args below meth c R H locs ls E Rm Fx Hp hS hl hc hs
  obtain ⟨L, hL, hP, hD⟩ := id Hp
  obtain ⟨q0, hq0⟩ := ax_get0 (kc := G.2.2.1) hL ha0
  obtain ⟨q1, hq1⟩ := ax_get0 (kc := G.2.2.1) hL ha
  have hlo : nativeFrameWords "java/lang/System" "arraycopy" 5 + 11 ≤ 100 := by decide +kernel
  exact va_copyi (c0 := G.2.2.1 0) (c1 := G.2.2.1 0) (ty := .int) E.1 E.2.1 (by rw [E.2.2.2.1]; exact hl.1.symm) E.2.2.2.2.1 (E.2.2.2.2.2.1 _ hw1) (E.2.2.2.2.2.1 _ hw2) (E.2.2.2.2.2.1 _ hw3) (E.2.2.2.2.2.1 _ hw4) Fx.1 hP hD hS q0 q1 0 0 hq0 hq1 rfl rfl rfl h1 h2 h3 h4 h5 (fun _ _ => rfl) (by have := Rm.2.2.1; omega) (by have := Rm.2.2.2; omega) hd
    (fun H1 locs1 hP1 hD1 hS1 => k p e s m args below meth c R H1 locs1 ls E Rm Fx (ax_put0 hL hD (.inl (0, n1, .inl (va_cpy f g sp.toNatClampNeg dp.toNatClampNeg n.toNatClampNeg))) ha hq1 hP1 hD1) hS1 hl hc hs)
