/-! ===== the rules of the heap ===== -/
/-- the field that an entry names: its class's number, its place -/
def ax_fk (own : String) (i ci k : Nat) : Prop := ∃ (C : String) (T : u_T) (N : Nat), vwCl[ci]? = some (C, T, N) ∧ k < N ∧ Cond.fieldLink own i (T k).1 (T k).2.1 (T k).2.2.1 ∈ ax_all ∧ (∀ w ∈ u_ws C T N, w ∈ ax_all)
def ax_fp (own : String) (i ci k : Nat) (ty : FieldType) : Prop := ∃ (C : String) (T : u_T) (N : Nat) (ty0 : Nat → FieldType), vwCl[ci]? = some (C, T, N) ∧ k < N ∧ Cond.fieldLink own i (T k).1 (T k).2.1 (T k).2.2.1 ∈ ax_all ∧ (∀ w ∈ u_ws C T N, w ∈ ax_all) ∧
  (∀ k, k < N → parseFieldDescriptor (T k).2.2.1 = some (ty0 k)) ∧ (∀ a, a < N → ∀ b, b < N → a ≠ b → (T a).2.1 ≠ (T b).2.1) ∧ parseFieldDescriptor (T k).2.2.1 = some ty ∧ (T k).2.2.2 = false
def ax_fF (own : String) (i ci k : Nat) (ty : FieldType) : Prop := ∃ (C : String) (T : u_T) (N : Nat) (ty0 : Nat → FieldType), vwCl[ci]? = some (C, T, N) ∧ k < N ∧ Cond.fieldLink own i (T k).1 (T k).2.1 (T k).2.2.1 ∈ ax_all ∧ (∀ w ∈ u_ws C T N, w ∈ ax_all) ∧
  (∀ k, k < N → parseFieldDescriptor (T k).2.2.1 = some (ty0 k)) ∧ (∀ a, a < N → ∀ b, b < N → a ≠ b → (T a).2.1 ≠ (T b).2.1) ∧ parseFieldDescriptor (T k).2.2.1 = some ty ∧ (T k).2.2.2 = true ∧ (T k).1 = own
theorem ax_asg (vm : Vm) (c : ClassId) : vm.assignable c c = true := by
  unfold Vm.assignable
  show vm.assignableAux (255 + 1) c c = true
  rw [Vm.assignableAux]
  simp only [beq_self_eq_true, Bool.true_or]
theorem ax_get {G : ax_G} {M : ax_M} {d mc ms : Nat} {Q : ax_P} {pc : Nat} {lv : ax_L} {st : List Value} {h : ax_H} {cn sn : Nat} {i a ci j : Nat} {fs : List Value} {v : Value} (hd : decode M.2.1 pc = .ok (.getfield i, 3)) (hf : ax_fk M.1.cls i ci j) (ha : h a = some (.inr (ci, fs))) (hv : fs[j]? = some v) (k : AW G M d mc ms Q (pc + 3) lv (v :: st) h cn sn) : AW G M d mc ms Q pc lv (.ref a :: st) h cn sn := by
  intro p e s m args below meth c R H locs ls E Rm Fx Hp hS hl hc hs
  obtain ⟨C, T, N, f1, f2, f3, f4⟩ := hf
  obtain ⟨L, hL, hP, hD⟩ := id Hp
  obtain ⟨q0, hq⟩ := ax_get0 (kc := G.2.2.1) hL ha
  exact va_get (ci := ci) (fs := fs) E.1 E.2.1 E.2.2.2.2.2.1 f4 E.2.2.2.2.1 Fx.1 hP q0 hq f1 j f2 (E.2.2.2.2.2.1 _ f3) (fun _ h9 => h9) hv hd (k p e s m args below meth c R H locs ls E Rm Fx Hp hS hl hc hs)
theorem ax_put {G : ax_G} {M : ax_M} {d mc ms : Nat} {Q : ax_P} {pc : Nat} {lv : ax_L} {st : List Value} {h : ax_H} {cn sn : Nat} {i a ci j : Nat} {fs : List Value} {v : Value} {ty : FieldType} (hd : decode M.2.1 pc = .ok (.putfield i, 3)) (hf : ax_fp M.1.cls i ci j ty) (ha : h a = some (.inr (ci, fs))) (hn : narrow ty v = v) (hfit : fits ty v = true) (hj : j < fs.length) (k : AW G M d mc ms Q (pc + 3) lv st (va_up h a (some (.inr (ci, fs.set j v)))) cn sn) : AW G M d mc ms Q pc lv (v :: .ref a :: st) h cn sn := by
  intro p e s m args below meth c R H locs ls E Rm Fx Hp hS hl hc hs
  obtain ⟨C, T, N, ty0, f1, f2, f3, f4, f5, f6, f7, f8⟩ := hf
  obtain ⟨L, hL, hP, hD⟩ := id Hp
  obtain ⟨q0, hq⟩ := ax_get0 (kc := G.2.2.1) hL ha
  exact va_put (ci := ci) (fs := fs) E.1 E.2.1 E.2.2.2.2.2.1 f4 ty0 f5 f6 E.2.2.2.2.1 Fx.1 hP hD hS q0 hq f1 j f2 (E.2.2.2.2.2.1 _ f3) (fun _ h9 => h9) f8 f7 hn hfit hj hd (fun H1 locs1 hP1 hD1 hS1 => k p e s m args below meth c R H1 locs1 ls E Rm Fx (ax_put0 hL hD (.inr (ci, fs.set j v)) ha hq hP1 hD1) hS1 hl hc hs)
theorem ax_putF {G : ax_G} {M : ax_M} {d mc ms : Nat} {Q : ax_P} {pc : Nat} {lv : ax_L} {st : List Value} {h : ax_H} {cn sn : Nat} {i a ci j : Nat} {fs : List Value} {v : Value} {ty : FieldType} (hd : decode M.2.1 pc = .ok (.putfield i, 3)) (hf : ax_fF M.1.cls i ci j ty) (hM : M.1.name = "<init>") (ha : h a = some (.inr (ci, fs))) (hn : narrow ty v = v) (hfit : fits ty v = true) (hj : j < fs.length) (k : AW G M d mc ms Q (pc + 3) lv st (va_up h a (some (.inr (ci, fs.set j v)))) cn sn) : AW G M d mc ms Q pc lv (v :: .ref a :: st) h cn sn := by
  intro p e s m args below meth c R H locs ls E Rm Fx Hp hS hl hc hs
  obtain ⟨C, T, N, ty0, f1, f2, f3, f4, f5, f6, f7, f8, f9⟩ := hf
  obtain ⟨L, hL, hP, hD⟩ := id Hp
  obtain ⟨q0, hq⟩ := ax_get0 (kc := G.2.2.1) hL ha
  exact va_putF (ci := ci) (fs := fs) E.1 E.2.1 E.2.2.2.2.2.1 f4 ty0 f5 f6 E.2.2.2.2.1 Fx.1 hP hD hS q0 hq f1 j f2 (E.2.2.2.2.2.1 _ f3) (fun _ h9 => h9) f8 (E.2.2.2.2.2.2.2.2.trans hM) f9 f7 hn hfit hj hd (fun H1 locs1 hP1 hD1 hS1 => k p e s m args below meth c R H1 locs1 ls E Rm Fx (ax_put0 hL hD (.inr (ci, fs.set j v)) ha hq hP1 hD1) hS1 hl hc hs)
theorem ax_iald {G : ax_G} {M : ax_M} {d mc ms : Nat} {Q : ax_P} {pc : Nat} {lv : ax_L} {st : List Value} {h : ax_H} {cn sn : Nat} {a n : Nat} {f : Nat → Int32} {i : Int32} (hd : decode M.2.1 pc = .ok (.iaload, 1)) (ha : h a = some (.inl (0, n, .inl f))) (hi : vp_in i n) (k : AW G M d mc ms Q (pc + 1) lv (.int (f i.toNatClampNeg) :: st) h cn sn) : AW G M d mc ms Q pc lv (.int i :: .ref a :: st) h cn sn := by
  intro p e s m args below meth c R H locs ls E Rm Fx Hp hS hl hc hs
  obtain ⟨L, hL, hP, hD⟩ := id Hp
  obtain ⟨q0, hq⟩ := ax_get0 (kc := G.2.2.1) hL ha
  exact va_iald (cA := G.2.2.1 0) E.1 E.2.1 Fx.1 hP q0 0 hq rfl hi hd (k p e s m args below meth c R H locs ls E Rm Fx Hp hS hl hc hs)
theorem ax_iast {G : ax_G} {M : ax_M} {d mc ms : Nat} {Q : ax_P} {pc : Nat} {lv : ax_L} {st : List Value} {h : ax_H} {cn sn : Nat} {a n : Nat} {f : Nat → Int32} {i x : Int32} (hd : decode M.2.1 pc = .ok (.iastore, 1)) (ha : h a = some (.inl (0, n, .inl f))) (hi : vp_in i n) (k : AW G M d mc ms Q (pc + 1) lv st (va_up h a (some (.inl (0, n, .inl (upd f i.toNatClampNeg x))))) cn sn) : AW G M d mc ms Q pc lv (.int x :: .int i :: .ref a :: st) h cn sn := by
  intro p e s m args below meth c R H locs ls E Rm Fx Hp hS hl hc hs
  obtain ⟨L, hL, hP, hD⟩ := id Hp
  obtain ⟨q0, hq⟩ := ax_get0 (kc := G.2.2.1) hL ha
  exact va_iast (cA := G.2.2.1 0) E.1 E.2.1 Fx.1 hP hD hS q0 0 hq rfl hi hd (fun H1 locs1 hP1 hD1 hS1 => k p e s m args below meth c R H1 locs1 ls E Rm Fx (ax_put0 hL hD (.inl (0, n, .inl (upd f i.toNatClampNeg x))) ha hq hP1 hD1) hS1 hl hc hs)
theorem ax_lald {G : ax_G} {M : ax_M} {d mc ms : Nat} {Q : ax_P} {pc : Nat} {lv : ax_L} {st : List Value} {h : ax_H} {cn sn : Nat} {a n : Nat} {f : Nat → Int64} {i : Int32} (hd : decode M.2.1 pc = .ok (.laload, 1)) (ha : h a = some (.inl (1, n, .inr (.inl f)))) (hi : vp_in i n) (k : AW G M d mc ms Q (pc + 1) lv (.long (f i.toNatClampNeg) :: st) h cn sn) : AW G M d mc ms Q pc lv (.int i :: .ref a :: st) h cn sn := by
  intro p e s m args below meth c R H locs ls E Rm Fx Hp hS hl hc hs
  obtain ⟨L, hL, hP, hD⟩ := id Hp
  obtain ⟨q0, hq⟩ := ax_get0 (kc := G.2.2.1) hL ha
  exact va_lald (cA := G.2.2.1 1) E.1 E.2.1 Fx.1 hP q0 1 hq rfl hi hd (k p e s m args below meth c R H locs ls E Rm Fx Hp hS hl hc hs)
theorem ax_last {G : ax_G} {M : ax_M} {d mc ms : Nat} {Q : ax_P} {pc : Nat} {lv : ax_L} {st : List Value} {h : ax_H} {cn sn : Nat} {a n : Nat} {f : Nat → Int64} {i : Int32} {x : Int64} (hd : decode M.2.1 pc = .ok (.lastore, 1)) (ha : h a = some (.inl (1, n, .inr (.inl f)))) (hi : vp_in i n) (k : AW G M d mc ms Q (pc + 1) lv st (va_up h a (some (.inl (1, n, .inr (.inl (vp_updL f i.toNatClampNeg x)))))) cn sn) : AW G M d mc ms Q pc lv (.long x :: .int i :: .ref a :: st) h cn sn := by
  intro p e s m args below meth c R H locs ls E Rm Fx Hp hS hl hc hs
  obtain ⟨L, hL, hP, hD⟩ := id Hp
  obtain ⟨q0, hq⟩ := ax_get0 (kc := G.2.2.1) hL ha
  exact va_last (cA := G.2.2.1 1) E.1 E.2.1 Fx.1 hP hD hS q0 1 hq rfl hi hd (fun H1 locs1 hP1 hD1 hS1 => k p e s m args below meth c R H1 locs1 ls E Rm Fx (ax_put0 hL hD (.inl (1, n, .inr (.inl (vp_updL f i.toNatClampNeg x)))) ha hq hP1 hD1) hS1 hl hc hs)
theorem ax_dald {G : ax_G} {M : ax_M} {d mc ms : Nat} {Q : ax_P} {pc : Nat} {lv : ax_L} {st : List Value} {h : ax_H} {cn sn : Nat} {a n : Nat} {f : Nat → UInt64} {i : Int32} (hd : decode M.2.1 pc = .ok (.daload, 1)) (ha : h a = some (.inl (2, n, .inr (.inr (.inr (.inl f)))))) (hi : vp_in i n) (k : AW G M d mc ms Q (pc + 1) lv (.double (f i.toNatClampNeg) :: st) h cn sn) : AW G M d mc ms Q pc lv (.int i :: .ref a :: st) h cn sn := by
  intro p e s m args below meth c R H locs ls E Rm Fx Hp hS hl hc hs
  obtain ⟨L, hL, hP, hD⟩ := id Hp
  obtain ⟨q0, hq⟩ := ax_get0 (kc := G.2.2.1) hL ha
  exact va_dald (cA := G.2.2.1 2) E.1 E.2.1 Fx.1 hP q0 2 hq rfl hi hd (k p e s m args below meth c R H locs ls E Rm Fx Hp hS hl hc hs)
theorem ax_aald3 {G : ax_G} {M : ax_M} {d mc ms : Nat} {Q : ax_P} {pc : Nat} {lv : ax_L} {st : List Value} {h : ax_H} {cn sn : Nat} {a n : Nat} {f : Nat → Option Nat} {i : Int32} (hd : decode M.2.1 pc = .ok (.aaload, 1)) (ha : h a = some (.inl (3, n, .inr (.inr (.inr (.inr f)))))) (hi : vp_in i n) (k : AW G M d mc ms Q (pc + 1) lv (va_rf (f i.toNatClampNeg) :: st) h cn sn) : AW G M d mc ms Q pc lv (.int i :: .ref a :: st) h cn sn := by
  intro p e s m args below meth c R H locs ls E Rm Fx Hp hS hl hc hs
  obtain ⟨L, hL, hP, hD⟩ := id Hp
  obtain ⟨q0, hq⟩ := ax_get0 (kc := G.2.2.1) hL ha
  exact va_aldq (cA := G.2.2.1 3) E.1 E.2.1 Fx.1 hP q0 3 hq rfl hi hd (k p e s m args below meth c R H locs ls E Rm Fx Hp hS hl hc hs)
theorem ax_aald4 {G : ax_G} {M : ax_M} {d mc ms : Nat} {Q : ax_P} {pc : Nat} {lv : ax_L} {st : List Value} {h : ax_H} {cn sn : Nat} {a n : Nat} {f : Nat → Option Nat} {i : Int32} (hd : decode M.2.1 pc = .ok (.aaload, 1)) (ha : h a = some (.inl (4, n, .inr (.inr (.inr (.inr f)))))) (hi : vp_in i n) (k : AW G M d mc ms Q (pc + 1) lv (va_rf (f i.toNatClampNeg) :: st) h cn sn) : AW G M d mc ms Q pc lv (.int i :: .ref a :: st) h cn sn := by
  intro p e s m args below meth c R H locs ls E Rm Fx Hp hS hl hc hs
  obtain ⟨L, hL, hP, hD⟩ := id Hp
  obtain ⟨q0, hq⟩ := ax_get0 (kc := G.2.2.1) hL ha
  have hlt : i.toNatClampNeg < n := Nat.not_le.mp fun q => hi (Or.inr q)
  exact W.aald (v := va_rf (f i.toNatClampNeg)) (ty := .array .int) E.1 E.2.1 (hP q0 _ hq) ((Fx.1.2 4 (G.2.2.1 4, .array .int) rfl).1 n (fun j => va_rf (f j))) rfl (fun q => by cases q) (by show ¬ (i < 0 ∨ (arrV _ _ _).slots.size ≤ _); rw [arrV_size]; exact hi) (by show (arrV _ _ _).slots[_]? = _; rw [arrV_read _ _ hlt]) rfl rfl hd (k p e s m args below meth c R H locs ls E Rm Fx Hp hS hl hc hs)
theorem ax_aast3 {G : ax_G} {M : ax_M} {d mc ms : Nat} {Q : ax_P} {pc : Nat} {lv : ax_L} {st : List Value} {h : ax_H} {cn sn : Nat} {a n v : Nat} {vs : List Value} {f : Nat → Option Nat} {i : Int32} (hd : decode M.2.1 pc = .ok (.aastore, 1)) (ha : h a = some (.inl (3, n, .inr (.inr (.inr (.inr f)))))) (hv : h v = some (.inr (5, vs))) (hi : vp_in i n) (k : AW G M d mc ms Q (pc + 1) lv st (va_up h a (some (.inl (3, n, .inr (.inr (.inr (.inr (va_up f i.toNatClampNeg (some v))))))))) cn sn) : AW G M d mc ms Q pc lv (.ref v :: .int i :: .ref a :: st) h cn sn := by
  intro p e s m args below meth c R H locs ls E Rm Fx Hp hS hl hc hs
  obtain ⟨L, hL, hP, hD⟩ := id Hp
  obtain ⟨q0, hq⟩ := ax_get0 (kc := G.2.2.1) hL ha
  obtain ⟨q1, hq1⟩ := ax_get0 (kc := G.2.2.1) hL hv
  exact va_astq (cA := G.2.2.1 3) (r := (RX5, TX5, 16)) (ci := 5) (vs := vs) E.1 E.2.1 Fx.1 hP hD hS q0 3 q1 hq rfl hq1 rfl hi hd (fun H1 locs1 hP1 hD1 hS1 => k p e s m args below meth c R H1 locs1 ls E Rm Fx (ax_put0 hL hD (.inl (3, n, .inr (.inr (.inr (.inr (va_up f i.toNatClampNeg (some v))))))) ha hq hP1 hD1) hS1 hl hc hs)
theorem ax_aast3N {G : ax_G} {M : ax_M} {d mc ms : Nat} {Q : ax_P} {pc : Nat} {lv : ax_L} {st : List Value} {h : ax_H} {cn sn : Nat} {a n : Nat} {f : Nat → Option Nat} {i : Int32} (hd : decode M.2.1 pc = .ok (.aastore, 1)) (ha : h a = some (.inl (3, n, .inr (.inr (.inr (.inr f)))))) (hi : vp_in i n) (k : AW G M d mc ms Q (pc + 1) lv st (va_up h a (some (.inl (3, n, .inr (.inr (.inr (.inr (va_up f i.toNatClampNeg none)))))))) cn sn) : AW G M d mc ms Q pc lv (.null :: .int i :: .ref a :: st) h cn sn := by
  intro p e s m args below meth c R H locs ls E Rm Fx Hp hS hl hc hs
  obtain ⟨L, hL, hP, hD⟩ := id Hp
  obtain ⟨q0, hq⟩ := ax_get0 (kc := G.2.2.1) hL ha
  exact va_astqN (cA := G.2.2.1 3) E.1 E.2.1 Fx.1 hP hD hS q0 3 hq rfl hi hd (fun H1 locs1 hP1 hD1 hS1 => k p e s m args below meth c R H1 locs1 ls E Rm Fx (ax_put0 hL hD (.inl (3, n, .inr (.inr (.inr (.inr (va_up f i.toNatClampNeg none)))))) ha hq hP1 hD1) hS1 hl hc hs)
theorem ax_aast4 {G : ax_G} {M : ax_M} {d mc ms : Nat} {Q : ax_P} {pc : Nat} {lv : ax_L} {st : List Value} {h : ax_H} {cn sn : Nat} {a n v : Nat} {x : vp_A} {f : Nat → Option Nat} {i : Int32} (hd : decode M.2.1 pc = .ok (.aastore, 1)) (ha : h a = some (.inl (4, n, .inr (.inr (.inr (.inr f)))))) (hv : h v = some (.inl (0, x))) (hi : vp_in i n) (k : AW G M d mc ms Q (pc + 1) lv st (va_up h a (some (.inl (4, n, .inr (.inr (.inr (.inr (va_up f i.toNatClampNeg (some v))))))))) cn sn) : AW G M d mc ms Q pc lv (.ref v :: .int i :: .ref a :: st) h cn sn := by
  intro p e s m args below meth c R H locs ls E Rm Fx Hp hS hl hc hs
  obtain ⟨L, hL, hP, hD⟩ := id Hp
  obtain ⟨q0, hq⟩ := ax_get0 (kc := G.2.2.1) hL ha
  obtain ⟨q1, hq1⟩ := ax_get0 (kc := G.2.2.1) hL hv
  have hlt : i.toNatClampNeg < n := Nat.not_le.mp fun q => hi (Or.inr q)
  have h0 : ¬ i < 0 := fun q => hi (Or.inl q)
  have g1 := hP q1 _ hq1
  obtain ⟨kA, hkA, hkind⟩ := Fx.2.1
  obtain ⟨kI, hkI, -⟩ := Vm.findClass_spec (va_nm_int (Fx.1.2 0 (G.2.2.1 0, .int) rfl).2)
  have hcl : (vp_cell (G.2.2.1 0) x).cls = G.2.2.1 0 := by rcases x with ⟨n9, x⟩; rcases x with x | x | x | x | x <;> rfl
  have hvm : (vp_cell (G.2.2.1 0) x).vm = .none := by rcases x with ⟨n9, x⟩; rcases x with x | x | x | x | x <;> rfl
  refine W.aast E.1 E.2.1 (hP q0 _ hq) (fun q h => by cases h) (fun h => by cases h) hkA hkind rfl hkI ⟨h0, by show _ < (arrV _ _ _).slots.size; rw [arrV_size]; exact hlt⟩ g1 (fun q h => by rw [hvm] at h; cases h) (by rw [hcl]; exact hkI) (by rw [hcl]; exact ax_asg _ _) rfl rfl hd fun H1 e1 z oq => ?_
  refine k p e s m args below meth c R H1 _ ls E Rm Fx (ax_put0 hL hD (.inl (4, n, .inr (.inr (.inr (.inr (va_up f i.toNatClampNeg (some v))))))) ha hq (hP.set hD hq ?_ oq) (hD.set hq)) (hS.put z oq (hD.2 q0 _ hq)) hl hc hs
  show H1[a]? = some (vp_cell _ _)
  rw [e1]
  rw [vp_cell_q, vp_cell_q, arrV_store]
  congr 2
  funext q
  by_cases hq : q = i.toNatClampNeg
  · subst hq
    simp [updV, va_up, va_rf]
  · simp [updV, va_up, hq]
theorem ax_ty_at (kc : Nat → ClassId) {kd : Nat} (h : kd < 5) : ∃ ty, (ax_tys kc)[kd]? = some (kc kd, ty) := by
  match kd, h with
  | 0, _ => exact ⟨_, rfl⟩
  | 1, _ => exact ⟨_, rfl⟩
  | 2, _ => exact ⟨_, rfl⟩
  | 3, _ => exact ⟨_, rfl⟩
  | 4, _ => exact ⟨_, rfl⟩
theorem ax_alen {G : ax_G} {M : ax_M} {d mc ms : Nat} {Q : ax_P} {pc : Nat} {lv : ax_L} {st : List Value} {h : ax_H} {cn sn : Nat} {a kd n : Nat} {x : (Nat → Int32) ⊕ (Nat → Int64) ⊕ (Nat → UInt32) ⊕ (Nat → UInt64) ⊕ (Nat → Option Nat)} (hd : decode M.2.1 pc = .ok (.arraylength, 1)) (ha : h a = some (.inl (kd, n, x))) (hk : kd < 5) (k : AW G M d mc ms Q (pc + 1) lv (.int (nI n) :: st) h cn sn) : AW G M d mc ms Q pc lv (.ref a :: st) h cn sn := by
  intro p e s m args below meth c R H locs ls E Rm Fx Hp hS hl hc hs
  obtain ⟨L, hL, hP, hD⟩ := id Hp
  obtain ⟨q0, hq⟩ := ax_get0 (kc := G.2.2.1) hL ha
  obtain ⟨ty, hty⟩ := ax_ty_at G.2.2.1 hk
  exact va_alen (cA := G.2.2.1 kd) (x := (n, x)) E.1 E.2.1 Fx.1 hP q0 kd hq hty rfl hd (k p e s m args below meth c R H locs ls E Rm Fx Hp hS hl hc hs)
theorem ax_sld {G : ax_G} {M : ax_M} {d mc ms : Nat} {Q : ax_P} {pc : Nat} {lv : ax_L} {st : List Value} {h : ax_H} {cn sn : Nat} {i : Int32} (hd : decode M.2.1 pc = .ok (.iaload, 1)) (hi : vp_in i G.2.2.2.2.2.1) (k : AW G M d mc ms Q (pc + 1) lv (.int (G.2.2.2.2.2.2 i.toNatClampNeg) :: st) h cn sn) : AW G M d mc ms Q pc lv (.int i :: .ref G.2.2.2.2.1 :: st) h cn sn := by
  intro p e s m args below meth c R H locs ls E Rm Fx Hp hS hl hc hs
  exact va_sld E.1 E.2.1 Fx.2.2.2.2.2.1 (Nat.lt_of_lt_of_le Fx.2.2.2.2.1 Fx.2.2.1) (Nat.not_le.mpr Fx.2.2.2.2.1) hS hi hd (k p e s m args below meth c R H locs ls E Rm Fx Hp hS hl hc hs)
theorem ax_slen {G : ax_G} {M : ax_M} {d mc ms : Nat} {Q : ax_P} {pc : Nat} {lv : ax_L} {st : List Value} {h : ax_H} {cn sn : Nat} (hd : decode M.2.1 pc = .ok (.arraylength, 1)) (k : AW G M d mc ms Q (pc + 1) lv (.int (nI G.2.2.2.2.2.1) :: st) h cn sn) : AW G M d mc ms Q pc lv (.ref G.2.2.2.2.1 :: st) h cn sn := by
  intro p e s m args below meth c R H locs ls E Rm Fx Hp hS hl hc hs
  exact va_slen E.1 E.2.1 Fx.2.2.2.2.2.1 (Nat.lt_of_lt_of_le Fx.2.2.2.2.1 Fx.2.2.1) (Nat.not_le.mpr Fx.2.2.2.2.1) hS hd (k p e s m args below meth c R H locs ls E Rm Fx Hp hS hl hc hs)
