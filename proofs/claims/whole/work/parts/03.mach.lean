/-- the texts of what is thrown -/
def ax_strs : List (String × Nat × String) := [(RX6, 52, "no range within 0 to 5"), (RX6, 72, "there are 4 types"), (RX6, 83, "no such parameters"), (RX6, 85, "no such condition"), (RX6, 90, "there are 6 constructors"), (RX6, 127, "no value has this number"), (RX6, 130, "no value up to the horizon has this number"), (RX6, 137, "no value of the type has this size"), (RX6, 144, "no number of a code"), (RX6, 149, "there are 40 numbers"), (RX6, 157, "the value is greater than the horizon"), (RX6, 174, "no such index in the code"), (RX6, 200, "no such reduction"), (RX6, 223, "no value is selected"), (RX6, 228, "no such type"), (RX6, 230, "no such property"), (RX6, 232, "no size from 1 to 8"), (RX6, 234, "the size is greater than the horizon")]
/-! ===== a method's run said without the machine: the heap as a function, the locals as a list; each rule stands on a row of the kit ===== -/
abbrev ax_E : Type := (Nat × vp_A) ⊕ (Nat × List Value)
abbrev ax_H : Type := Nat → Option ax_E
abbrev ax_L : Type := List (Nat × Value)
abbrev ax_P : Type := (Option Value ⊕ String) → ax_H → Prop
/-- a method: its name, its bytes, its locals, what it returns, its handlers, how many parameters -/
abbrev ax_M : Type := MethodName × ByteArray × Nat × Option FieldType × List (Nat × Nat × Nat × Nat) × Nat
/-- the launch, the tables' numbers, the array classes, where the law began, the script's cell, its length, its ints -/
abbrev ax_G : Type := Launch × va_G × (Nat → ClassId) × Nat × Nat × Nat × (Nat → Int32)
def ax_tys (kc : Nat → ClassId) : List (ClassId × FieldType) := [(kc 0, .int), (kc 1, .long), (kc 2, .double), (kc 3, .object "DataMaker$Value"), (kc 4, .array .int)]
def ax_cv (kc : Nat → ClassId) (x : ax_E) : va_E := match x with
  | .inl a => .inl (kc a.1, a.2)
  | .inr o => .inr o
def ax_f (kc : Nat → ClassId) (h : ax_H) (a : Nat) : va_E := ax_cv kc ((h a).getD (.inr (0, [])))
def ax_A (G : ax_G) : Nat → Prop := fun q => G.2.2.2.1 ≤ q
def ax_holds (G : ax_G) (h : ax_H) (H : Heap) : Prop := ∃ L : List Nat, (∀ a, a ∈ L ↔ (h a).isSome = true) ∧ va_P G.2.1 vwCl (va_pl L (ax_f G.2.2.1 h)) H ∧ va_D (ax_A G) (va_pl L (ax_f G.2.2.1 h))
def ax_all : List Cond := lw_tbl.filter goodWord
def ax_ncs : List (String × String) := [("java/lang/IllegalArgumentException", "java/lang/IndexOutOfBoundsException"), ("java/lang/IllegalStateException", "java/lang/IndexOutOfBoundsException"), ("java/lang/IllegalStateException", "java/lang/IllegalArgumentException"), ("java/lang/IndexOutOfBoundsException", "java/lang/IllegalStateException"), ("java/lang/IllegalArgumentException", "java/lang/IllegalStateException"), ("java/util/NoSuchElementException", "java/lang/IndexOutOfBoundsException"), ("java/util/NoSuchElementException", "java/lang/IllegalArgumentException"), ("java/util/NoSuchElementException", "java/lang/IllegalStateException")]
def ax_exs : List String := ["java/lang/IllegalArgumentException", "java/lang/IllegalStateException", "java/lang/IndexOutOfBoundsException", "java/util/NoSuchElementException"]
def ax_bad : List Cond := [.castable "java/lang/IllegalArgumentException" "java/lang/IllegalArgumentException", .castable "java/lang/IllegalStateException" "java/lang/IllegalStateException", .castable "java/lang/IndexOutOfBoundsException" "java/lang/IndexOutOfBoundsException", .castable "java/util/NoSuchElementException" "java/util/NoSuchElementException", .declares (Bundle.initS "java/lang/RuntimeException"), .declares (Bundle.initS "java/lang/Exception"), .declares (Bundle.initS "java/lang/Throwable")]
theorem ax_bad_on : ∀ w ∈ ax_bad, w.onTables = true := by decide +kernel
theorem ax_bad_warm {s U : State} (hW : s.WarmedH U.vm) (h : ∀ w ∈ ax_bad, va_Nw w s) : ∀ w ∈ ax_bad, va_Nw w U := by
  intro w hw
  have h1 := h w hw
  simp only [ax_bad, List.mem_cons, List.not_mem_nil, or_false] at hw
  rcases hw with rfl | rfl | rfl | rfl | rfl | rfl | rfl
  · exact va_Nw.warmC hW h1
  · exact va_Nw.warmC hW h1
  · exact va_Nw.warmC hW h1
  · exact va_Nw.warmC hW h1
  · exact va_Nw.warmD hW h1
  · exact va_Nw.warmD hW h1
  · exact va_Nw.warmD hW h1
def ax_AO (U : State) : Prop := (Cond.arrayOver (.array .int)).before #[] U = true
theorem ax_AO_moved {u U : State} (hvm : u.vm.Alike U.vm) (h : ax_AO u) : ax_AO U := by
  obtain ⟨comp, c, k, h1, h2, h3, h4, h5⟩ := arrayOverA_spec h
  obtain ⟨k', hk', he⟩ := hvm.2.2 _ _ h3
  have hi : (U.vm.classes.findIdx? fun (x : Class) => match x.kind with | .array component _ => component == comp | _ => false) = some c := by
    have e1 := va_idx_bare U.vm comp
    have e2 := va_idx_bare u.vm comp
    have e3 : U.vm.bare = u.vm.bare := by first | exact hvm.bare_eq | exact hvm.bare_eq.symm
    rw [e3] at e1
    exact e1.symm.trans (e2.trans h2)
  have hkind : k'.kind = .array comp (.array .int) := by rw [he]; exact h4
  have f1 : U.vm.findClass (FieldType.array .int).toString = some comp := by rw [hvm.findClass]; exact h1
  have f2 : U.vm.findClass ("[" ++ (FieldType.array .int).toString) = some c := by rw [hvm.findClass]; exact h5
  unfold ax_AO Cond.before Cond.holds
  simp only [Cond.value]
  rw [f1, Option.bind_some]
  refine (congrArg (fun o : Option Nat => (o.bind (fun c => (U.vm.classes[c]?).map fun (k : Class) => match k.kind with | .array _ ty => decide (ty = FieldType.array .int) && decide (U.vm.findClass ("[" ++ (FieldType.array .int).toString) = some c) | _ => false) == some true)) hi).trans ?_
  simp [hk', hkind, f2]
def ax_fix (G : ax_G) (s : State) (H : Heap) : Prop :=
  va_K G.2.1 vwCl (ax_tys G.2.2.1) s ∧ (∃ k : Class, s.vm.classes[G.2.2.1 4]? = some k ∧ k.kind = .array (G.2.2.1 0) (.array .int)) ∧ G.2.2.2.1 ≤ H.size ∧ G.1.stackTraces = false ∧
  G.2.2.2.2.1 < G.2.2.2.1 ∧ va_X G.2.2.2.2.1 G.2.2.2.2.2.1 G.2.2.2.2.2.2 s H ∧ vx_Zq Bundle.tN "UNASSIGNED_STACK" Bundle.steD (ax_A G) s H ∧ vx_Zq Bundle.tN "SUPPRESSED_SENTINEL" Bundle.listD (ax_A G) s H ∧
  (∀ q ∈ ax_strs, ∃ sa, vk_R q.1 q.2.1 q.2.2 sa s) ∧ (∀ q ∈ ax_ncs, va_Nc q.1 q.2 s) ∧ (∀ w ∈ ax_bad, va_Nw w s) ∧ va_AO "DataMaker$Value" s ∧ ax_AO s
def ax_env (G : ax_G) (M : ax_M) (p : Program) (s : State) (m : MethodId) (args : Array Value) (meth : Method) (c : Code) : Prop :=
  p.tables.exec = Jvm.exec ∧ c.code = M.2.1 ∧ meth.sig.returnType = M.2.2.2.1 ∧ c.maxLocals = M.2.2.1 ∧ s.vm.findClass M.1.cls = some m.cls ∧ (∀ w ∈ ax_all, w.before args s = true) ∧ meth.locks = false ∧ c.exceptionTable.toList = tableOf M.2.2.2.2.1 ∧ meth.name = M.1.name
def ax_rm (R : Room) (d mc ms : Nat) : Prop := R.cells = mc ∧ R.slots = ms ∧ d + 8 ≤ R.frames ∧ 40 * d + 120 ≤ R.locals
def ax_Qc (G : ax_G) (Q : ax_P) : Array Value → State → Outcome → State → Prop := fun _ st oc t => ∃ (v : Option Value) (h : ax_H), oc = .returned v ∧ Q (.inl v) h ∧ ax_holds G h t.heap ∧ va_F (ax_A G) st t
def ax_XC (G : ax_G) (Q : ax_P) : String → State → State → Prop := fun E st t => ∃ h : ax_H, Q (.inr E) h ∧ ax_holds G h t.heap ∧ va_F (ax_A G) st t
def AW (G : ax_G) (M : ax_M) (d mc ms : Nat) (Q : ax_P) (pc : Nat) (lv : ax_L) (st : List Value) (h : ax_H) (cn sn : Nat) : Prop :=
  ∀ (p : Program) (e : Env) (s : State) (m : MethodId) (args : Array Value) (below : List Frame) (meth : Method) (c : Code) (R : Room) (H : Heap) (locs : List Loc) (ls : Array Slot),
    ax_env G M p s m args meth c → ax_rm R d mc ms → ax_fix G s s.heap → ax_holds G h H → va_S (ax_A G) s.heap H locs → lv_has ls M.2.2.1 lv → cn ≤ mc → sn ≤ ms →
    W p G.1 e R s m args below meth c H locs cn sn (vx_MQ below (ax_Qc G Q) (ax_XC G Q) args s mc ms (ax_A G)) (F0 m pc ls st)
theorem ax_get0 {kc : Nat → ClassId} {h : ax_H} {L : List Nat} (hL : ∀ a, a ∈ L ↔ (h a).isSome = true) {a : Nat} {o : ax_E} (ha : h a = some o) : ∃ k : Nat, (va_pl L (ax_f kc h))[k]? = some (a, ax_cv kc o) := by
  obtain ⟨k, hk⟩ := va_pl_get (X := []) (f := ax_f kc h) ((hL a).mpr (by rw [ha]; rfl))
  refine ⟨k, hk.trans ?_⟩
  simp [ax_f, ha]
theorem ax_set0 {A : Nat → Prop} {kc : Nat → ClassId} {h : ax_H} {L : List Nat} (hL : ∀ a, a ∈ L ↔ (h a).isSome = true) (hD : va_D A (va_pl L (ax_f kc h))) {a k : Nat} {o : ax_E} (o' : ax_E) (ha : h a = some o) (hk : (va_pl L (ax_f kc h))[k]? = some (a, ax_cv kc o)) :
    (va_pl L (ax_f kc h)).set k (a, ax_cv kc o') = va_pl L (ax_f kc (va_up h a (some o'))) := by
  have h1 := va_pl_set (X := []) (e := ax_cv kc o') hD ((hL a).mpr (by rw [ha]; rfl)) (k := k) (hk.trans (by simp [ax_f, ha]))
  refine h1.trans (va_pl_congr fun b => ?_)
  by_cases hb : b = a
  · subst hb; simp [va_up, ax_f]
  · simp [va_up, ax_f, hb]
theorem ax_dom {h : ax_H} {L : List Nat} (hL : ∀ a, a ∈ L ↔ (h a).isSome = true) {a : Nat} {o o' : ax_E} (ha : h a = some o) : ∀ b, b ∈ L ↔ ((va_up h a (some o')) b).isSome = true := by
  intro b
  by_cases hb : b = a
  · subst hb; simp [va_up, hL, ha]
  · simp [va_up, hb, hL]
theorem ax_put0 {G : ax_G} {h : ax_H} {L : List Nat} {H1 : Heap} (hL : ∀ a, a ∈ L ↔ (h a).isSome = true) (hD : va_D (ax_A G) (va_pl L (ax_f G.2.2.1 h))) {a k : Nat} {o : ax_E} (o' : ax_E) (ha : h a = some o) (hk : (va_pl L (ax_f G.2.2.1 h))[k]? = some (a, ax_cv G.2.2.1 o))
    (hP1 : va_P G.2.1 vwCl ((va_pl L (ax_f G.2.2.1 h)).set k (a, ax_cv G.2.2.1 o')) H1) (hD1 : va_D (ax_A G) ((va_pl L (ax_f G.2.2.1 h)).set k (a, ax_cv G.2.2.1 o'))) : ax_holds G (va_up h a (some o')) H1 := by
  rw [ax_set0 hL hD o' ha hk] at hP1 hD1
  exact ⟨L, ax_dom hL ha, hP1, hD1⟩
theorem ax_new0 {G : ax_G} {h : ax_H} {L : List Nat} {H1 : Heap} (hL : ∀ a, a ∈ L ↔ (h a).isSome = true) {q : Nat} {o : ax_E} (hP1 : va_P G.2.1 vwCl (va_pl L (ax_f G.2.2.1 h) ++ [(q, ax_cv G.2.2.1 o)]) H1) (hD1 : va_D (ax_A G) (va_pl L (ax_f G.2.2.1 h) ++ [(q, ax_cv G.2.2.1 o)])) :
    h q = none ∧ ax_holds G (va_up h q (some o)) H1 := by
  have hq : q ∉ L := va_pl_fresh2 (X := []) (e := ax_cv G.2.2.1 o) hD1
  have hn : h q = none := by
    cases hh : h q with
    | none => rfl
    | some x => exact absurd ((hL q).mpr (by rw [hh]; rfl)) hq
  have he : va_pl L (ax_f G.2.2.1 h) ++ [(q, ax_cv G.2.2.1 o)] = va_pl (L ++ [q]) (ax_f G.2.2.1 (va_up h q (some o))) := by
    rw [va_pl_push hq]
    refine va_pl_congr fun b => ?_
    by_cases hb : b = q
    · subst hb; simp [va_up, ax_f]
    · simp [va_up, ax_f, hb]
  rw [he] at hP1 hD1
  refine ⟨hn, L ++ [q], fun b => ?_, hP1, hD1⟩
  by_cases hb : b = q
  · subst hb; simp [va_up]
  · simp [va_up, hb, hL]
/-- a local read: the first of its number -/
def ax_ld (lv : ax_L) (i : Nat) : Option Value := (lv.find? (fun q => q.1 == i)).map (fun q => q.2)
theorem ax_ld_at {ls : Array Slot} {n i : Nat} {lv : ax_L} {v : Value} (hl : lv_has ls n lv) (h : ax_ld lv i = some v) : ls[i]? = some (.val v) := by
  unfold ax_ld at h
  obtain ⟨q, hq, rfl⟩ := Option.map_eq_some_iff.mp h
  have h1 := List.mem_of_find?_eq_some hq
  have h2 := List.find?_some hq
  have h3 : q.1 = i := by simpa using h2
  rw [← h3]
  exact hl.2.2 q h1
/-- a local written, in its place -/
def ax_pt (i : Nat) (v : Value) (lv : ax_L) : ax_L := if lv.any (fun q => q.1 == i) then lv.map (fun q => if q.1 == i then (i, v) else q) else lv ++ [(i, v)]
def ax_s1 (i : Nat) (v : Value) (lv : ax_L) : ax_L := ax_pt i v (lv.filter (fun q => !(q.1 + 1 == i && q.2.category == 2)))
def ax_s2 (i : Nat) (v : Value) (lv : ax_L) : ax_L := ax_pt i v (lv.filter (fun q => !(q.1 == i + 1) && !(q.1 + 1 == i && q.2.category == 2)))
theorem ax_pt_in {i : Nat} {v : Value} {lv : ax_L} {q : Nat × Value} (h : q ∈ ax_pt i v lv) : q = (i, v) ∨ (q ∈ lv ∧ ¬ q.1 = i) := by
  unfold ax_pt at h
  split at h
  · obtain ⟨z, hz, rfl⟩ := List.mem_map.mp h
    by_cases hi : z.1 = i
    · left; simp [hi]
    · right
      have : (z.1 == i) = false := by simpa using hi
      simp [this, hz, hi]
  · rename_i hn
    rcases List.mem_append.mp h with h1 | h1
    · right
      refine ⟨h1, fun e => hn (List.any_eq_true.mpr ⟨q, h1, by simpa using e⟩)⟩
    · left; simpa using h1
theorem ax_s1_has {ls : Array Slot} {n i : Nat} {v : Value} {lv : ax_L} (h : lv_has ls n ((i, v) :: lv.filter (fun q => !(q.1 == i) && !(q.1 + 1 == i && q.2.category == 2)))) : lv_has ls n (ax_s1 i v lv) := by
  refine ⟨h.1, h.2.1, fun q hq => h.2.2 q ?_⟩
  rcases ax_pt_in hq with rfl | ⟨h1, h2⟩
  · exact List.mem_cons_self
  · obtain ⟨h3, h4⟩ := List.mem_filter.mp h1
    refine List.mem_cons_of_mem _ (List.mem_filter.mpr ⟨h3, ?_⟩)
    have : (q.1 == i) = false := by simpa using h2
    rw [this]
    simpa using h4
theorem ax_s2_has {ls : Array Slot} {n i : Nat} {v : Value} {lv : ax_L} (h : lv_has ls n ((i, v) :: lv.filter (fun q => !(q.1 == i) && (!(q.1 == i + 1) && !(q.1 + 1 == i && q.2.category == 2))))) : lv_has ls n (ax_s2 i v lv) := by
  refine ⟨h.1, h.2.1, fun q hq => h.2.2 q ?_⟩
  rcases ax_pt_in hq with rfl | ⟨h1, h2⟩
  · exact List.mem_cons_self
  · obtain ⟨h3, h4⟩ := List.mem_filter.mp h1
    refine List.mem_cons_of_mem _ (List.mem_filter.mpr ⟨h3, ?_⟩)
    have : (q.1 == i) = false := by simpa using h2
    rw [this]
    simpa using h4
theorem ax_iconst {G : ax_G} {M : ax_M} {d mc ms : Nat} {Q : ax_P} {pc : Nat} {lv : ax_L} {st : List Value} {h : ax_H} {cn sn : Nat} {n : Int} {v : Int32} (hd : decode M.2.1 pc = .ok (.iconst n, 1)) (hv : Int32.ofInt n = v) (k : AW G M d mc ms Q (pc + 1) lv (.int v :: st) h cn sn) : AW G M d mc ms Q (pc) lv st h cn sn := by
  intro p e s m args below meth c R H locs ls E Rm Fx Hp hS hl hc hs
  exact lv_iconst E.1 E.2.1 hd hv (k p e s m args below meth c R H locs ls E Rm Fx Hp hS hl hc hs)
theorem ax_bipush {G : ax_G} {M : ax_M} {d mc ms : Nat} {Q : ax_P} {pc : Nat} {lv : ax_L} {st : List Value} {h : ax_H} {cn sn : Nat} {n : Int} {v : Int32} (hd : decode M.2.1 pc = .ok (.bipush n, 2)) (hv : (Int8.ofInt n).toInt32 = v) (k : AW G M d mc ms Q (pc + 2) lv (.int v :: st) h cn sn) : AW G M d mc ms Q (pc) lv st h cn sn := by
  intro p e s m args below meth c R H locs ls E Rm Fx Hp hS hl hc hs
  exact lv_bipush E.1 E.2.1 hd hv (k p e s m args below meth c R H locs ls E Rm Fx Hp hS hl hc hs)
theorem ax_sipush {G : ax_G} {M : ax_M} {d mc ms : Nat} {Q : ax_P} {pc : Nat} {lv : ax_L} {st : List Value} {h : ax_H} {cn sn : Nat} {n : Int} {v : Int32} (hd : decode M.2.1 pc = .ok (.sipush n, 3)) (hv : (Int16.ofInt n).toInt32 = v) (k : AW G M d mc ms Q (pc + 3) lv (.int v :: st) h cn sn) : AW G M d mc ms Q (pc) lv st h cn sn := by
  intro p e s m args below meth c R H locs ls E Rm Fx Hp hS hl hc hs
  exact lv_sipush E.1 E.2.1 hd hv (k p e s m args below meth c R H locs ls E Rm Fx Hp hS hl hc hs)
theorem ax_lconst {G : ax_G} {M : ax_M} {d mc ms : Nat} {Q : ax_P} {pc : Nat} {lv : ax_L} {st : List Value} {h : ax_H} {cn sn : Nat} {n : Fin 2} {v : Int64} (hd : decode M.2.1 pc = .ok (.lconst n, 1)) (hv : Int64.ofNat (n : Nat) = v) (k : AW G M d mc ms Q (pc + 1) lv (.long v :: st) h cn sn) : AW G M d mc ms Q (pc) lv st h cn sn := by
  intro p e s m args below meth c R H locs ls E Rm Fx Hp hS hl hc hs
  exact lv_lconst E.1 E.2.1 hd hv (k p e s m args below meth c R H locs ls E Rm Fx Hp hS hl hc hs)
theorem ax_dconst0 {G : ax_G} {M : ax_M} {d mc ms : Nat} {Q : ax_P} {pc : Nat} {lv : ax_L} {st : List Value} {h : ax_H} {cn sn : Nat}  (hd : decode M.2.1 pc = .ok (.dconst 0, 1)) (k : AW G M d mc ms Q (pc + 1) lv (.double FP.dconst0 :: st) h cn sn) : AW G M d mc ms Q (pc) lv st h cn sn := by
  intro p e s m args below meth c R H locs ls E Rm Fx Hp hS hl hc hs
  exact lv_dconst0 E.1 E.2.1 hd (k p e s m args below meth c R H locs ls E Rm Fx Hp hS hl hc hs)
theorem ax_null {G : ax_G} {M : ax_M} {d mc ms : Nat} {Q : ax_P} {pc : Nat} {lv : ax_L} {st : List Value} {h : ax_H} {cn sn : Nat}  (hd : decode M.2.1 pc = .ok (.aconst_null, 1)) (k : AW G M d mc ms Q (pc + 1) lv (.null :: st) h cn sn) : AW G M d mc ms Q (pc) lv st h cn sn := by
  intro p e s m args below meth c R H locs ls E Rm Fx Hp hS hl hc hs
  exact lv_null E.1 E.2.1 hd (k p e s m args below meth c R H locs ls E Rm Fx Hp hS hl hc hs)
theorem ax_ldc2 {G : ax_G} {M : ax_M} {d mc ms : Nat} {Q : ax_P} {pc : Nat} {lv : ax_L} {st : List Value} {h : ax_H} {cn sn : Nat} {i : Nat} {v : Int64} (hd : decode M.2.1 pc = .ok (.ldc2_w i, 3)) (hw : Jvm.Cond.constantLong M.1.cls i v ∈ ax_all) (k : AW G M d mc ms Q (pc + 3) lv (.long v :: st) h cn sn) : AW G M d mc ms Q (pc) lv st h cn sn := by
  intro p e s m args below meth c R H locs ls E Rm Fx Hp hS hl hc hs
  exact lv_ldc2 E.1 E.2.1 E.2.2.2.2.1 (E.2.2.2.2.2.1 _ hw) hd (k p e s m args below meth c R H locs ls E Rm Fx Hp hS hl hc hs)
theorem ax_iload_n {G : ax_G} {M : ax_M} {d mc ms : Nat} {Q : ax_P} {pc : Nat} {lv : ax_L} {st : List Value} {h : ax_H} {cn sn : Nat} {k' : Fin 4} {x : Int32} (hd : decode M.2.1 pc = .ok (.iload_n k', 1)) (hv : ax_ld lv k' = some (.int x)) (k : AW G M d mc ms Q (pc + 1) lv (.int x :: st) h cn sn) : AW G M d mc ms Q (pc) lv st h cn sn := by
  intro p e s m args below meth c R H locs ls E Rm Fx Hp hS hl hc hs
  exact lv_iload_n E.1 E.2.1 hd rfl (ax_ld_at hl hv) (k p e s m args below meth c R H locs ls E Rm Fx Hp hS hl hc hs)
theorem ax_iload {G : ax_G} {M : ax_M} {d mc ms : Nat} {Q : ax_P} {pc : Nat} {lv : ax_L} {st : List Value} {h : ax_H} {cn sn : Nat} {i : Nat} {x : Int32} (hd : decode M.2.1 pc = .ok (.iload i, 2)) (hv : ax_ld lv i = some (.int x)) (k : AW G M d mc ms Q (pc + 2) lv (.int x :: st) h cn sn) : AW G M d mc ms Q (pc) lv st h cn sn := by
  intro p e s m args below meth c R H locs ls E Rm Fx Hp hS hl hc hs
  exact lv_iload E.1 E.2.1 hd (ax_ld_at hl hv) (k p e s m args below meth c R H locs ls E Rm Fx Hp hS hl hc hs)
theorem ax_lload_n {G : ax_G} {M : ax_M} {d mc ms : Nat} {Q : ax_P} {pc : Nat} {lv : ax_L} {st : List Value} {h : ax_H} {cn sn : Nat} {k' : Fin 4} {x : Int64} (hd : decode M.2.1 pc = .ok (.lload_n k', 1)) (hv : ax_ld lv k' = some (.long x)) (k : AW G M d mc ms Q (pc + 1) lv (.long x :: st) h cn sn) : AW G M d mc ms Q (pc) lv st h cn sn := by
  intro p e s m args below meth c R H locs ls E Rm Fx Hp hS hl hc hs
  exact lv_lload_n E.1 E.2.1 hd rfl (ax_ld_at hl hv) (k p e s m args below meth c R H locs ls E Rm Fx Hp hS hl hc hs)
theorem ax_lload {G : ax_G} {M : ax_M} {d mc ms : Nat} {Q : ax_P} {pc : Nat} {lv : ax_L} {st : List Value} {h : ax_H} {cn sn : Nat} {i : Nat} {x : Int64} (hd : decode M.2.1 pc = .ok (.lload i, 2)) (hv : ax_ld lv i = some (.long x)) (k : AW G M d mc ms Q (pc + 2) lv (.long x :: st) h cn sn) : AW G M d mc ms Q (pc) lv st h cn sn := by
  intro p e s m args below meth c R H locs ls E Rm Fx Hp hS hl hc hs
  exact lv_lload E.1 E.2.1 hd (ax_ld_at hl hv) (k p e s m args below meth c R H locs ls E Rm Fx Hp hS hl hc hs)
theorem ax_dload_n {G : ax_G} {M : ax_M} {d mc ms : Nat} {Q : ax_P} {pc : Nat} {lv : ax_L} {st : List Value} {h : ax_H} {cn sn : Nat} {k' : Fin 4} {x : UInt64} (hd : decode M.2.1 pc = .ok (.dload_n k', 1)) (hv : ax_ld lv k' = some (.double x)) (k : AW G M d mc ms Q (pc + 1) lv (.double x :: st) h cn sn) : AW G M d mc ms Q (pc) lv st h cn sn := by
  intro p e s m args below meth c R H locs ls E Rm Fx Hp hS hl hc hs
  exact lv_dload_n E.1 E.2.1 hd rfl (ax_ld_at hl hv) (k p e s m args below meth c R H locs ls E Rm Fx Hp hS hl hc hs)
theorem ax_dload {G : ax_G} {M : ax_M} {d mc ms : Nat} {Q : ax_P} {pc : Nat} {lv : ax_L} {st : List Value} {h : ax_H} {cn sn : Nat} {i : Nat} {x : UInt64} (hd : decode M.2.1 pc = .ok (.dload i, 2)) (hv : ax_ld lv i = some (.double x)) (k : AW G M d mc ms Q (pc + 2) lv (.double x :: st) h cn sn) : AW G M d mc ms Q (pc) lv st h cn sn := by
  intro p e s m args below meth c R H locs ls E Rm Fx Hp hS hl hc hs
  exact lv_dload E.1 E.2.1 hd (ax_ld_at hl hv) (k p e s m args below meth c R H locs ls E Rm Fx Hp hS hl hc hs)
theorem ax_aload_n {G : ax_G} {M : ax_M} {d mc ms : Nat} {Q : ax_P} {pc : Nat} {lv : ax_L} {st : List Value} {h : ax_H} {cn sn : Nat} {k' : Fin 4} {x : Nat} (hd : decode M.2.1 pc = .ok (.aload_n k', 1)) (hv : ax_ld lv k' = some (.ref x)) (k : AW G M d mc ms Q (pc + 1) lv (.ref x :: st) h cn sn) : AW G M d mc ms Q (pc) lv st h cn sn := by
  intro p e s m args below meth c R H locs ls E Rm Fx Hp hS hl hc hs
  exact lv_aload_n E.1 E.2.1 hd rfl (ax_ld_at hl hv) (k p e s m args below meth c R H locs ls E Rm Fx Hp hS hl hc hs)
theorem ax_aload {G : ax_G} {M : ax_M} {d mc ms : Nat} {Q : ax_P} {pc : Nat} {lv : ax_L} {st : List Value} {h : ax_H} {cn sn : Nat} {i : Nat} {x : Nat} (hd : decode M.2.1 pc = .ok (.aload i, 2)) (hv : ax_ld lv i = some (.ref x)) (k : AW G M d mc ms Q (pc + 2) lv (.ref x :: st) h cn sn) : AW G M d mc ms Q (pc) lv st h cn sn := by
  intro p e s m args below meth c R H locs ls E Rm Fx Hp hS hl hc hs
  exact lv_aload E.1 E.2.1 hd (ax_ld_at hl hv) (k p e s m args below meth c R H locs ls E Rm Fx Hp hS hl hc hs)
theorem ax_aload_nN {G : ax_G} {M : ax_M} {d mc ms : Nat} {Q : ax_P} {pc : Nat} {lv : ax_L} {st : List Value} {h : ax_H} {cn sn : Nat} {k' : Fin 4} (hd : decode M.2.1 pc = .ok (.aload_n k', 1)) (hv : ax_ld lv k' = some .null) (k : AW G M d mc ms Q (pc + 1) lv (.null :: st) h cn sn) : AW G M d mc ms Q (pc) lv st h cn sn := by
  intro p e s m args below meth c R H locs ls E Rm Fx Hp hS hl hc hs
  exact lv_aload_nN E.1 E.2.1 hd rfl (ax_ld_at hl hv) (k p e s m args below meth c R H locs ls E Rm Fx Hp hS hl hc hs)
theorem ax_aloadN {G : ax_G} {M : ax_M} {d mc ms : Nat} {Q : ax_P} {pc : Nat} {lv : ax_L} {st : List Value} {h : ax_H} {cn sn : Nat} {i : Nat} (hd : decode M.2.1 pc = .ok (.aload i, 2)) (hv : ax_ld lv i = some .null) (k : AW G M d mc ms Q (pc + 2) lv (.null :: st) h cn sn) : AW G M d mc ms Q (pc) lv st h cn sn := by
  intro p e s m args below meth c R H locs ls E Rm Fx Hp hS hl hc hs
  exact lv_aloadN E.1 E.2.1 hd (ax_ld_at hl hv) (k p e s m args below meth c R H locs ls E Rm Fx Hp hS hl hc hs)
theorem ax_istore_n {G : ax_G} {M : ax_M} {d mc ms : Nat} {Q : ax_P} {pc : Nat} {lv : ax_L} {st : List Value} {h : ax_H} {cn sn : Nat} {k' : Fin 4} {x : Int32} (hd : decode M.2.1 pc = .ok (.istore_n k', 1)) (hi : (k' : Nat) < M.2.2.1) (k : AW G M d mc ms Q (pc + 1) (ax_s1 k' (.int x) lv) st h cn sn) : AW G M d mc ms Q (pc) lv (.int x :: st) h cn sn := by
  intro p e s m args below meth c R H locs ls E Rm Fx Hp hS hl hc hs
  exact lv_istore_n E.1 E.2.1 hd rfl hl hi rfl (fun ls9 hl9 => k p e s m args below meth c R H locs ls9 E Rm Fx Hp hS (ax_s1_has hl9) hc hs)
theorem ax_istore {G : ax_G} {M : ax_M} {d mc ms : Nat} {Q : ax_P} {pc : Nat} {lv : ax_L} {st : List Value} {h : ax_H} {cn sn : Nat} {i : Nat} {x : Int32} (hd : decode M.2.1 pc = .ok (.istore i, 2)) (hi : i < M.2.2.1) (k : AW G M d mc ms Q (pc + 2) (ax_s1 i (.int x) lv) st h cn sn) : AW G M d mc ms Q (pc) lv (.int x :: st) h cn sn := by
  intro p e s m args below meth c R H locs ls E Rm Fx Hp hS hl hc hs
  exact lv_istore E.1 E.2.1 hd hl hi rfl (fun ls9 hl9 => k p e s m args below meth c R H locs ls9 E Rm Fx Hp hS (ax_s1_has hl9) hc hs)
theorem ax_lstore_n {G : ax_G} {M : ax_M} {d mc ms : Nat} {Q : ax_P} {pc : Nat} {lv : ax_L} {st : List Value} {h : ax_H} {cn sn : Nat} {k' : Fin 4} {x : Int64} (hd : decode M.2.1 pc = .ok (.lstore_n k', 1)) (hi : (k' : Nat) + 1 < M.2.2.1) (k : AW G M d mc ms Q (pc + 1) (ax_s2 k' (.long x) lv) st h cn sn) : AW G M d mc ms Q (pc) lv (.long x :: st) h cn sn := by
  intro p e s m args below meth c R H locs ls E Rm Fx Hp hS hl hc hs
  exact lv_lstore_n E.1 E.2.1 hd rfl hl hi rfl (fun ls9 hl9 => k p e s m args below meth c R H locs ls9 E Rm Fx Hp hS (ax_s2_has hl9) hc hs)
theorem ax_lstore {G : ax_G} {M : ax_M} {d mc ms : Nat} {Q : ax_P} {pc : Nat} {lv : ax_L} {st : List Value} {h : ax_H} {cn sn : Nat} {i : Nat} {x : Int64} (hd : decode M.2.1 pc = .ok (.lstore i, 2)) (hi : i + 1 < M.2.2.1) (k : AW G M d mc ms Q (pc + 2) (ax_s2 i (.long x) lv) st h cn sn) : AW G M d mc ms Q (pc) lv (.long x :: st) h cn sn := by
  intro p e s m args below meth c R H locs ls E Rm Fx Hp hS hl hc hs
  exact lv_lstore E.1 E.2.1 hd hl hi rfl (fun ls9 hl9 => k p e s m args below meth c R H locs ls9 E Rm Fx Hp hS (ax_s2_has hl9) hc hs)
theorem ax_dstore_n {G : ax_G} {M : ax_M} {d mc ms : Nat} {Q : ax_P} {pc : Nat} {lv : ax_L} {st : List Value} {h : ax_H} {cn sn : Nat} {k' : Fin 4} {x : UInt64} (hd : decode M.2.1 pc = .ok (.dstore_n k', 1)) (hi : (k' : Nat) + 1 < M.2.2.1) (k : AW G M d mc ms Q (pc + 1) (ax_s2 k' (.double x) lv) st h cn sn) : AW G M d mc ms Q (pc) lv (.double x :: st) h cn sn := by
  intro p e s m args below meth c R H locs ls E Rm Fx Hp hS hl hc hs
  exact lv_dstore_n E.1 E.2.1 hd rfl hl hi rfl (fun ls9 hl9 => k p e s m args below meth c R H locs ls9 E Rm Fx Hp hS (ax_s2_has hl9) hc hs)
theorem ax_dstore {G : ax_G} {M : ax_M} {d mc ms : Nat} {Q : ax_P} {pc : Nat} {lv : ax_L} {st : List Value} {h : ax_H} {cn sn : Nat} {i : Nat} {x : UInt64} (hd : decode M.2.1 pc = .ok (.dstore i, 2)) (hi : i + 1 < M.2.2.1) (k : AW G M d mc ms Q (pc + 2) (ax_s2 i (.double x) lv) st h cn sn) : AW G M d mc ms Q (pc) lv (.double x :: st) h cn sn := by
  intro p e s m args below meth c R H locs ls E Rm Fx Hp hS hl hc hs
  exact lv_dstore E.1 E.2.1 hd hl hi rfl (fun ls9 hl9 => k p e s m args below meth c R H locs ls9 E Rm Fx Hp hS (ax_s2_has hl9) hc hs)
theorem ax_astore_n {G : ax_G} {M : ax_M} {d mc ms : Nat} {Q : ax_P} {pc : Nat} {lv : ax_L} {st : List Value} {h : ax_H} {cn sn : Nat} {k' : Fin 4} {x : Nat} (hd : decode M.2.1 pc = .ok (.astore_n k', 1)) (hi : (k' : Nat) < M.2.2.1) (k : AW G M d mc ms Q (pc + 1) (ax_s1 k' (.ref x) lv) st h cn sn) : AW G M d mc ms Q (pc) lv (.ref x :: st) h cn sn := by
  intro p e s m args below meth c R H locs ls E Rm Fx Hp hS hl hc hs
  exact lv_astore_n E.1 E.2.1 hd rfl hl hi rfl (fun ls9 hl9 => k p e s m args below meth c R H locs ls9 E Rm Fx Hp hS (ax_s1_has hl9) hc hs)
theorem ax_astore {G : ax_G} {M : ax_M} {d mc ms : Nat} {Q : ax_P} {pc : Nat} {lv : ax_L} {st : List Value} {h : ax_H} {cn sn : Nat} {i : Nat} {x : Nat} (hd : decode M.2.1 pc = .ok (.astore i, 2)) (hi : i < M.2.2.1) (k : AW G M d mc ms Q (pc + 2) (ax_s1 i (.ref x) lv) st h cn sn) : AW G M d mc ms Q (pc) lv (.ref x :: st) h cn sn := by
  intro p e s m args below meth c R H locs ls E Rm Fx Hp hS hl hc hs
  exact lv_astore E.1 E.2.1 hd hl hi rfl (fun ls9 hl9 => k p e s m args below meth c R H locs ls9 E Rm Fx Hp hS (ax_s1_has hl9) hc hs)
theorem ax_astore_nN {G : ax_G} {M : ax_M} {d mc ms : Nat} {Q : ax_P} {pc : Nat} {lv : ax_L} {st : List Value} {h : ax_H} {cn sn : Nat} {k' : Fin 4} (hd : decode M.2.1 pc = .ok (.astore_n k', 1)) (hi : (k' : Nat) < M.2.2.1) (k : AW G M d mc ms Q (pc + 1) (ax_s1 k' .null lv) st h cn sn) : AW G M d mc ms Q (pc) lv (.null :: st) h cn sn := by
  intro p e s m args below meth c R H locs ls E Rm Fx Hp hS hl hc hs
  exact lv_astore_nN E.1 E.2.1 hd rfl hl hi rfl (fun ls9 hl9 => k p e s m args below meth c R H locs ls9 E Rm Fx Hp hS (ax_s1_has hl9) hc hs)
theorem ax_astoreN {G : ax_G} {M : ax_M} {d mc ms : Nat} {Q : ax_P} {pc : Nat} {lv : ax_L} {st : List Value} {h : ax_H} {cn sn : Nat} {i : Nat} (hd : decode M.2.1 pc = .ok (.astore i, 2)) (hi : i < M.2.2.1) (k : AW G M d mc ms Q (pc + 2) (ax_s1 i .null lv) st h cn sn) : AW G M d mc ms Q (pc) lv (.null :: st) h cn sn := by
  intro p e s m args below meth c R H locs ls E Rm Fx Hp hS hl hc hs
  exact lv_astoreN E.1 E.2.1 hd hl hi rfl (fun ls9 hl9 => k p e s m args below meth c R H locs ls9 E Rm Fx Hp hS (ax_s1_has hl9) hc hs)
theorem ax_iinc {G : ax_G} {M : ax_M} {d mc ms : Nat} {Q : ax_P} {pc : Nat} {lv : ax_L} {st : List Value} {h : ax_H} {cn sn : Nat} {i : Nat} {n : Int} {x v : Int32} (hd : decode M.2.1 pc = .ok (.iinc i n, 3)) (hx : ax_ld lv i = some (.int x)) (hv : x + Int32.ofInt n = v) (hi : i < M.2.2.1) (k : AW G M d mc ms Q (pc + 3) (ax_s1 i (.int v) lv) st h cn sn) : AW G M d mc ms Q (pc) lv st h cn sn := by
  intro p e s m args below meth c R H locs ls E Rm Fx Hp hS hl hc hs
  unfold ax_ld at hx
  obtain ⟨q, hq, hq2⟩ := Option.map_eq_some_iff.mp hx
  obtain ⟨kk, hkk⟩ := List.getElem?_of_mem (List.mem_of_find?_eq_some hq)
  have h2 : q.1 = i := by simpa using List.find?_some hq
  have h3 : q = (i, Value.int x) := by rw [← h2, ← hq2]
  rw [h3] at hkk
  exact lv_iinc E.1 E.2.1 hd hl hkk hv hi rfl (fun ls9 hl9 => k p e s m args below meth c R H locs ls9 E Rm Fx Hp hS (ax_s1_has hl9) hc hs)
theorem ax_iadd {G : ax_G} {M : ax_M} {d mc ms : Nat} {Q : ax_P} {pc : Nat} {lv : ax_L} {st : List Value} {h : ax_H} {cn sn : Nat} {x y : Int32} (hd : decode M.2.1 pc = .ok (.iadd, 1)) (k : AW G M d mc ms Q (pc + 1) lv (.int (x + y) :: st) h cn sn) : AW G M d mc ms Q (pc) lv (.int y :: .int x :: st) h cn sn := by
  intro p e s m args below meth c R H locs ls E Rm Fx Hp hS hl hc hs
  exact lv_iadd E.1 E.2.1 hd (k p e s m args below meth c R H locs ls E Rm Fx Hp hS hl hc hs)
theorem ax_isub {G : ax_G} {M : ax_M} {d mc ms : Nat} {Q : ax_P} {pc : Nat} {lv : ax_L} {st : List Value} {h : ax_H} {cn sn : Nat} {x y : Int32} (hd : decode M.2.1 pc = .ok (.isub, 1)) (k : AW G M d mc ms Q (pc + 1) lv (.int (x - y) :: st) h cn sn) : AW G M d mc ms Q (pc) lv (.int y :: .int x :: st) h cn sn := by
  intro p e s m args below meth c R H locs ls E Rm Fx Hp hS hl hc hs
  exact lv_isub E.1 E.2.1 hd (k p e s m args below meth c R H locs ls E Rm Fx Hp hS hl hc hs)
theorem ax_imul {G : ax_G} {M : ax_M} {d mc ms : Nat} {Q : ax_P} {pc : Nat} {lv : ax_L} {st : List Value} {h : ax_H} {cn sn : Nat} {x y : Int32} (hd : decode M.2.1 pc = .ok (.imul, 1)) (k : AW G M d mc ms Q (pc + 1) lv (.int (x * y) :: st) h cn sn) : AW G M d mc ms Q (pc) lv (.int y :: .int x :: st) h cn sn := by
  intro p e s m args below meth c R H locs ls E Rm Fx Hp hS hl hc hs
  exact lv_imul E.1 E.2.1 hd (k p e s m args below meth c R H locs ls E Rm Fx Hp hS hl hc hs)
theorem ax_iand {G : ax_G} {M : ax_M} {d mc ms : Nat} {Q : ax_P} {pc : Nat} {lv : ax_L} {st : List Value} {h : ax_H} {cn sn : Nat} {x y : Int32} (hd : decode M.2.1 pc = .ok (.iand, 1)) (k : AW G M d mc ms Q (pc + 1) lv (.int (x &&& y) :: st) h cn sn) : AW G M d mc ms Q (pc) lv (.int y :: .int x :: st) h cn sn := by
  intro p e s m args below meth c R H locs ls E Rm Fx Hp hS hl hc hs
  exact lv_iand E.1 E.2.1 hd (k p e s m args below meth c R H locs ls E Rm Fx Hp hS hl hc hs)
theorem ax_irem {G : ax_G} {M : ax_M} {d mc ms : Nat} {Q : ax_P} {pc : Nat} {lv : ax_L} {st : List Value} {h : ax_H} {cn sn : Nat} {x y : Int32} (hd : decode M.2.1 pc = .ok (.irem, 1)) (hne : ¬ y = 0) (k : AW G M d mc ms Q (pc + 1) lv (.int (x - x / y * y) :: st) h cn sn) : AW G M d mc ms Q (pc) lv (.int y :: .int x :: st) h cn sn := by
  intro p e s m args below meth c R H locs ls E Rm Fx Hp hS hl hc hs
  exact lv_irem E.1 E.2.1 hd hne (k p e s m args below meth c R H locs ls E Rm Fx Hp hS hl hc hs)
theorem ax_ladd {G : ax_G} {M : ax_M} {d mc ms : Nat} {Q : ax_P} {pc : Nat} {lv : ax_L} {st : List Value} {h : ax_H} {cn sn : Nat} {x y : Int64} (hd : decode M.2.1 pc = .ok (.ladd, 1)) (k : AW G M d mc ms Q (pc + 1) lv (.long (x + y) :: st) h cn sn) : AW G M d mc ms Q (pc) lv (.long y :: .long x :: st) h cn sn := by
  intro p e s m args below meth c R H locs ls E Rm Fx Hp hS hl hc hs
  exact lv_ladd E.1 E.2.1 hd (k p e s m args below meth c R H locs ls E Rm Fx Hp hS hl hc hs)
theorem ax_lmul {G : ax_G} {M : ax_M} {d mc ms : Nat} {Q : ax_P} {pc : Nat} {lv : ax_L} {st : List Value} {h : ax_H} {cn sn : Nat} {x y : Int64} (hd : decode M.2.1 pc = .ok (.lmul, 1)) (k : AW G M d mc ms Q (pc + 1) lv (.long (x * y) :: st) h cn sn) : AW G M d mc ms Q (pc) lv (.long y :: .long x :: st) h cn sn := by
  intro p e s m args below meth c R H locs ls E Rm Fx Hp hS hl hc hs
  exact lv_lmul E.1 E.2.1 hd (k p e s m args below meth c R H locs ls E Rm Fx Hp hS hl hc hs)
theorem ax_land {G : ax_G} {M : ax_M} {d mc ms : Nat} {Q : ax_P} {pc : Nat} {lv : ax_L} {st : List Value} {h : ax_H} {cn sn : Nat} {x y : Int64} (hd : decode M.2.1 pc = .ok (.land, 1)) (k : AW G M d mc ms Q (pc + 1) lv (.long (x &&& y) :: st) h cn sn) : AW G M d mc ms Q (pc) lv (.long y :: .long x :: st) h cn sn := by
  intro p e s m args below meth c R H locs ls E Rm Fx Hp hS hl hc hs
  exact lv_land E.1 E.2.1 hd (k p e s m args below meth c R H locs ls E Rm Fx Hp hS hl hc hs)
theorem ax_lor {G : ax_G} {M : ax_M} {d mc ms : Nat} {Q : ax_P} {pc : Nat} {lv : ax_L} {st : List Value} {h : ax_H} {cn sn : Nat} {x y : Int64} (hd : decode M.2.1 pc = .ok (.lor, 1)) (k : AW G M d mc ms Q (pc + 1) lv (.long (x ||| y) :: st) h cn sn) : AW G M d mc ms Q (pc) lv (.long y :: .long x :: st) h cn sn := by
  intro p e s m args below meth c R H locs ls E Rm Fx Hp hS hl hc hs
  exact lv_lor E.1 E.2.1 hd (k p e s m args below meth c R H locs ls E Rm Fx Hp hS hl hc hs)
theorem ax_lrem {G : ax_G} {M : ax_M} {d mc ms : Nat} {Q : ax_P} {pc : Nat} {lv : ax_L} {st : List Value} {h : ax_H} {cn sn : Nat} {x y : Int64} (hd : decode M.2.1 pc = .ok (.lrem, 1)) (hne : ¬ y = 0) (k : AW G M d mc ms Q (pc + 1) lv (.long (x - x / y * y) :: st) h cn sn) : AW G M d mc ms Q (pc) lv (.long y :: .long x :: st) h cn sn := by
  intro p e s m args below meth c R H locs ls E Rm Fx Hp hS hl hc hs
  exact lv_lrem E.1 E.2.1 hd hne (k p e s m args below meth c R H locs ls E Rm Fx Hp hS hl hc hs)
theorem ax_lcmp {G : ax_G} {M : ax_M} {d mc ms : Nat} {Q : ax_P} {pc : Nat} {lv : ax_L} {st : List Value} {h : ax_H} {cn sn : Nat} {x y : Int64} (hd : decode M.2.1 pc = .ok (.lcmp, 1)) (k : AW G M d mc ms Q (pc + 1) lv (.int (lg_cmp x y) :: st) h cn sn) : AW G M d mc ms Q (pc) lv (.long y :: .long x :: st) h cn sn := by
  intro p e s m args below meth c R H locs ls E Rm Fx Hp hS hl hc hs
  exact W.lcmp E.1 E.2.1 hd (k p e s m args below meth c R H locs ls E Rm Fx Hp hS hl hc hs)
theorem ax_i2l {G : ax_G} {M : ax_M} {d mc ms : Nat} {Q : ax_P} {pc : Nat} {lv : ax_L} {st : List Value} {h : ax_H} {cn sn : Nat} {x : Int32} (hd : decode M.2.1 pc = .ok (.i2l, 1)) (k : AW G M d mc ms Q (pc + 1) lv (.long x.toInt64 :: st) h cn sn) : AW G M d mc ms Q (pc) lv (.int x :: st) h cn sn := by
  intro p e s m args below meth c R H locs ls E Rm Fx Hp hS hl hc hs
  exact lv_i2l E.1 E.2.1 hd rfl (k p e s m args below meth c R H locs ls E Rm Fx Hp hS hl hc hs)
theorem ax_l2i {G : ax_G} {M : ax_M} {d mc ms : Nat} {Q : ax_P} {pc : Nat} {lv : ax_L} {st : List Value} {h : ax_H} {cn sn : Nat} {x : Int64} (hd : decode M.2.1 pc = .ok (.l2i, 1)) (k : AW G M d mc ms Q (pc + 1) lv (.int x.toInt32 :: st) h cn sn) : AW G M d mc ms Q (pc) lv (.long x :: st) h cn sn := by
  intro p e s m args below meth c R H locs ls E Rm Fx Hp hS hl hc hs
  exact lv_l2i E.1 E.2.1 hd rfl (k p e s m args below meth c R H locs ls E Rm Fx Hp hS hl hc hs)
theorem ax_lushr {G : ax_G} {M : ax_M} {d mc ms : Nat} {Q : ax_P} {pc : Nat} {lv : ax_L} {st : List Value} {h : ax_H} {cn sn : Nat} {x : Int64} {y : Int32} (hd : decode M.2.1 pc = .ok (.lushr, 1)) (k : AW G M d mc ms Q (pc + 1) lv (.long (x.toUInt64 >>> (y.toInt64.toUInt64 &&& Int64.toUInt64 63)).toInt64 :: st) h cn sn) : AW G M d mc ms Q (pc) lv (.int y :: .long x :: st) h cn sn := by
  intro p e s m args below meth c R H locs ls E Rm Fx Hp hS hl hc hs
  exact lv_lushr E.1 E.2.1 hd rfl (k p e s m args below meth c R H locs ls E Rm Fx Hp hS hl hc hs)
theorem ax_lshl {G : ax_G} {M : ax_M} {d mc ms : Nat} {Q : ax_P} {pc : Nat} {lv : ax_L} {st : List Value} {h : ax_H} {cn sn : Nat} {x : Int64} {y : Int32} (hd : decode M.2.1 pc = .ok (.lshl, 1)) (k : AW G M d mc ms Q (pc + 1) lv (.long (x <<< (y.toInt64 &&& 63)) :: st) h cn sn) : AW G M d mc ms Q (pc) lv (.int y :: .long x :: st) h cn sn := by
  intro p e s m args below meth c R H locs ls E Rm Fx Hp hS hl hc hs
  exact lv_lshl E.1 E.2.1 hd rfl (k p e s m args below meth c R H locs ls E Rm Fx Hp hS hl hc hs)
theorem ax_i2d {G : ax_G} {M : ax_M} {d mc ms : Nat} {Q : ax_P} {pc : Nat} {lv : ax_L} {st : List Value} {h : ax_H} {cn sn : Nat} {x : Int32} (hd : decode M.2.1 pc = .ok (.i2d, 1)) (k : AW G M d mc ms Q (pc + 1) lv (.double (FP.i2d x) :: st) h cn sn) : AW G M d mc ms Q (pc) lv (.int x :: st) h cn sn := by
  intro p e s m args below meth c R H locs ls E Rm Fx Hp hS hl hc hs
  exact lv_i2d E.1 E.2.1 hd (k p e s m args below meth c R H locs ls E Rm Fx Hp hS hl hc hs)
theorem ax_ddiv {G : ax_G} {M : ax_M} {d mc ms : Nat} {Q : ax_P} {pc : Nat} {lv : ax_L} {st : List Value} {h : ax_H} {cn sn : Nat} {x y : UInt64} (hd : decode M.2.1 pc = .ok (.ddiv, 1)) (hne : vf_n64 (FP.ddiv x y)) (k : AW G M d mc ms Q (pc + 1) lv (.double (FP.ddiv x y) :: st) h cn sn) : AW G M d mc ms Q (pc) lv (.double y :: .double x :: st) h cn sn := by
  intro p e s m args below meth c R H locs ls E Rm Fx Hp hS hl hc hs
  exact lv_ddiv E.1 E.2.1 hd hne (k p e s m args below meth c R H locs ls E Rm Fx Hp hS hl hc hs)
theorem ax_dcmp {G : ax_G} {M : ax_M} {d mc ms : Nat} {Q : ax_P} {pc : Nat} {lv : ax_L} {st : List Value} {h : ax_H} {cn sn : Nat} {x y : UInt64} {op : CmpOp} (hd : decode M.2.1 pc = .ok (.dcmp op, 1)) (k : AW G M d mc ms Q (pc + 1) lv (.int (Op.cmpValue (FP.dcmp x y) op) :: st) h cn sn) : AW G M d mc ms Q (pc) lv (.double y :: .double x :: st) h cn sn := by
  intro p e s m args below meth c R H locs ls E Rm Fx Hp hS hl hc hs
  exact lv_dcmp E.1 E.2.1 hd (k p e s m args below meth c R H locs ls E Rm Fx Hp hS hl hc hs)
theorem ax_dup {G : ax_G} {M : ax_M} {d mc ms : Nat} {Q : ax_P} {pc : Nat} {lv : ax_L} {st : List Value} {h : ax_H} {cn sn : Nat} {v : Value} (hd : decode M.2.1 pc = .ok (.dup, 1)) (hv : v.category = 1) (k : AW G M d mc ms Q (pc + 1) lv (v :: v :: st) h cn sn) : AW G M d mc ms Q (pc) lv (v :: st) h cn sn := by
  intro p e s m args below meth c R H locs ls E Rm Fx Hp hS hl hc hs
  exact lv_dup E.1 E.2.1 hd hv (k p e s m args below meth c R H locs ls E Rm Fx Hp hS hl hc hs)
theorem ax_dup2 {G : ax_G} {M : ax_M} {d mc ms : Nat} {Q : ax_P} {pc : Nat} {lv : ax_L} {st : List Value} {h : ax_H} {cn sn : Nat} {v w : Value} (hd : decode M.2.1 pc = .ok (.dup2, 1)) (hv : v.category = 1) (hw : w.category = 1) (k : AW G M d mc ms Q (pc + 1) lv (v :: w :: v :: w :: st) h cn sn) : AW G M d mc ms Q (pc) lv (v :: w :: st) h cn sn := by
  intro p e s m args below meth c R H locs ls E Rm Fx Hp hS hl hc hs
  exact lv_dup2_11 E.1 E.2.1 hd hv hw (k p e s m args below meth c R H locs ls E Rm Fx Hp hS hl hc hs)
theorem ax_goto {G : ax_G} {M : ax_M} {d mc ms : Nat} {Q : ax_P} {pc : Nat} {lv : ax_L} {st : List Value} {h : ax_H} {cn sn : Nat} {off : Int} {tgt : Nat} (hd : decode M.2.1 pc = .ok (.goto off, 3)) (ht : (pc : Int) + off = (tgt : Int)) (k : AW G M d mc ms Q (tgt) lv st h cn sn) : AW G M d mc ms Q (pc) lv st h cn sn := by
  intro p e s m args below meth c R H locs ls E Rm Fx Hp hS hl hc hs
  exact lv_goto E.1 E.2.1 hd ht (k p e s m args below meth c R H locs ls E Rm Fx Hp hS hl hc hs)
theorem ax_if_eq {G : ax_G} {M : ax_M} {d mc ms : Nat} {Q : ax_P} {pc : Nat} {lv : ax_L} {st : List Value} {h : ax_H} {cn sn : Nat} {x : Int32} {off : Int} {tgt : Nat} (hd : decode M.2.1 pc = .ok (.ifCond .eq off, 3)) (ht : (pc : Int) + off = (tgt : Int)) (kt : x = 0 → AW G M d mc ms Q (tgt) lv st h cn sn) (kf : ¬ (x = 0) → AW G M d mc ms Q (pc + 3) lv st h cn sn) : AW G M d mc ms Q (pc) lv (.int x :: st) h cn sn := by
  intro p e s m args below meth c R H locs ls E Rm Fx Hp hS hl hc hs
  exact lv_if_eq E.1 E.2.1 hd ht (fun z => kt z p e s m args below meth c R H locs ls E Rm Fx Hp hS hl hc hs) (fun z => kf z p e s m args below meth c R H locs ls E Rm Fx Hp hS hl hc hs)
theorem ax_if_ne {G : ax_G} {M : ax_M} {d mc ms : Nat} {Q : ax_P} {pc : Nat} {lv : ax_L} {st : List Value} {h : ax_H} {cn sn : Nat} {x : Int32} {off : Int} {tgt : Nat} (hd : decode M.2.1 pc = .ok (.ifCond .ne off, 3)) (ht : (pc : Int) + off = (tgt : Int)) (kt : ¬ x = 0 → AW G M d mc ms Q (tgt) lv st h cn sn) (kf : x = 0 → AW G M d mc ms Q (pc + 3) lv st h cn sn) : AW G M d mc ms Q (pc) lv (.int x :: st) h cn sn := by
  intro p e s m args below meth c R H locs ls E Rm Fx Hp hS hl hc hs
  exact lv_if_ne E.1 E.2.1 hd ht (fun z => kt z p e s m args below meth c R H locs ls E Rm Fx Hp hS hl hc hs) (fun z => kf z p e s m args below meth c R H locs ls E Rm Fx Hp hS hl hc hs)
theorem ax_if_lt {G : ax_G} {M : ax_M} {d mc ms : Nat} {Q : ax_P} {pc : Nat} {lv : ax_L} {st : List Value} {h : ax_H} {cn sn : Nat} {x : Int32} {off : Int} {tgt : Nat} (hd : decode M.2.1 pc = .ok (.ifCond .lt off, 3)) (ht : (pc : Int) + off = (tgt : Int)) (kt : x < 0 → AW G M d mc ms Q (tgt) lv st h cn sn) (kf : ¬ (x < 0) → AW G M d mc ms Q (pc + 3) lv st h cn sn) : AW G M d mc ms Q (pc) lv (.int x :: st) h cn sn := by
  intro p e s m args below meth c R H locs ls E Rm Fx Hp hS hl hc hs
  exact lv_if_lt E.1 E.2.1 hd ht (fun z => kt z p e s m args below meth c R H locs ls E Rm Fx Hp hS hl hc hs) (fun z => kf z p e s m args below meth c R H locs ls E Rm Fx Hp hS hl hc hs)
theorem ax_if_ge {G : ax_G} {M : ax_M} {d mc ms : Nat} {Q : ax_P} {pc : Nat} {lv : ax_L} {st : List Value} {h : ax_H} {cn sn : Nat} {x : Int32} {off : Int} {tgt : Nat} (hd : decode M.2.1 pc = .ok (.ifCond .ge off, 3)) (ht : (pc : Int) + off = (tgt : Int)) (kt : 0 ≤ x → AW G M d mc ms Q (tgt) lv st h cn sn) (kf : ¬ (0 ≤ x) → AW G M d mc ms Q (pc + 3) lv st h cn sn) : AW G M d mc ms Q (pc) lv (.int x :: st) h cn sn := by
  intro p e s m args below meth c R H locs ls E Rm Fx Hp hS hl hc hs
  exact lv_if_ge E.1 E.2.1 hd ht (fun z => kt z p e s m args below meth c R H locs ls E Rm Fx Hp hS hl hc hs) (fun z => kf z p e s m args below meth c R H locs ls E Rm Fx Hp hS hl hc hs)
theorem ax_if_gt {G : ax_G} {M : ax_M} {d mc ms : Nat} {Q : ax_P} {pc : Nat} {lv : ax_L} {st : List Value} {h : ax_H} {cn sn : Nat} {x : Int32} {off : Int} {tgt : Nat} (hd : decode M.2.1 pc = .ok (.ifCond .gt off, 3)) (ht : (pc : Int) + off = (tgt : Int)) (kt : 0 < x → AW G M d mc ms Q (tgt) lv st h cn sn) (kf : ¬ (0 < x) → AW G M d mc ms Q (pc + 3) lv st h cn sn) : AW G M d mc ms Q (pc) lv (.int x :: st) h cn sn := by
  intro p e s m args below meth c R H locs ls E Rm Fx Hp hS hl hc hs
  exact lv_if_gt E.1 E.2.1 hd ht (fun z => kt z p e s m args below meth c R H locs ls E Rm Fx Hp hS hl hc hs) (fun z => kf z p e s m args below meth c R H locs ls E Rm Fx Hp hS hl hc hs)
theorem ax_if_le {G : ax_G} {M : ax_M} {d mc ms : Nat} {Q : ax_P} {pc : Nat} {lv : ax_L} {st : List Value} {h : ax_H} {cn sn : Nat} {x : Int32} {off : Int} {tgt : Nat} (hd : decode M.2.1 pc = .ok (.ifCond .le off, 3)) (ht : (pc : Int) + off = (tgt : Int)) (kt : x ≤ 0 → AW G M d mc ms Q (tgt) lv st h cn sn) (kf : ¬ (x ≤ 0) → AW G M d mc ms Q (pc + 3) lv st h cn sn) : AW G M d mc ms Q (pc) lv (.int x :: st) h cn sn := by
  intro p e s m args below meth c R H locs ls E Rm Fx Hp hS hl hc hs
  exact lv_if_le E.1 E.2.1 hd ht (fun z => kt z p e s m args below meth c R H locs ls E Rm Fx Hp hS hl hc hs) (fun z => kf z p e s m args below meth c R H locs ls E Rm Fx Hp hS hl hc hs)
theorem ax_icmp_eq {G : ax_G} {M : ax_M} {d mc ms : Nat} {Q : ax_P} {pc : Nat} {lv : ax_L} {st : List Value} {h : ax_H} {cn sn : Nat} {x y : Int32} {off : Int} {tgt : Nat} (hd : decode M.2.1 pc = .ok (.if_icmp .eq off, 3)) (ht : (pc : Int) + off = (tgt : Int)) (kt : x = y → AW G M d mc ms Q (tgt) lv st h cn sn) (kf : ¬ (x = y) → AW G M d mc ms Q (pc + 3) lv st h cn sn) : AW G M d mc ms Q (pc) lv (.int y :: .int x :: st) h cn sn := by
  intro p e s m args below meth c R H locs ls E Rm Fx Hp hS hl hc hs
  exact lv_icmp_eq E.1 E.2.1 hd ht (fun z => kt z p e s m args below meth c R H locs ls E Rm Fx Hp hS hl hc hs) (fun z => kf z p e s m args below meth c R H locs ls E Rm Fx Hp hS hl hc hs)
theorem ax_icmp_ne {G : ax_G} {M : ax_M} {d mc ms : Nat} {Q : ax_P} {pc : Nat} {lv : ax_L} {st : List Value} {h : ax_H} {cn sn : Nat} {x y : Int32} {off : Int} {tgt : Nat} (hd : decode M.2.1 pc = .ok (.if_icmp .ne off, 3)) (ht : (pc : Int) + off = (tgt : Int)) (kt : ¬ x = y → AW G M d mc ms Q (tgt) lv st h cn sn) (kf : x = y → AW G M d mc ms Q (pc + 3) lv st h cn sn) : AW G M d mc ms Q (pc) lv (.int y :: .int x :: st) h cn sn := by
  intro p e s m args below meth c R H locs ls E Rm Fx Hp hS hl hc hs
  exact lv_icmp_ne E.1 E.2.1 hd ht (fun z => kt z p e s m args below meth c R H locs ls E Rm Fx Hp hS hl hc hs) (fun z => kf z p e s m args below meth c R H locs ls E Rm Fx Hp hS hl hc hs)
theorem ax_icmp_lt {G : ax_G} {M : ax_M} {d mc ms : Nat} {Q : ax_P} {pc : Nat} {lv : ax_L} {st : List Value} {h : ax_H} {cn sn : Nat} {x y : Int32} {off : Int} {tgt : Nat} (hd : decode M.2.1 pc = .ok (.if_icmp .lt off, 3)) (ht : (pc : Int) + off = (tgt : Int)) (kt : x < y → AW G M d mc ms Q (tgt) lv st h cn sn) (kf : ¬ (x < y) → AW G M d mc ms Q (pc + 3) lv st h cn sn) : AW G M d mc ms Q (pc) lv (.int y :: .int x :: st) h cn sn := by
  intro p e s m args below meth c R H locs ls E Rm Fx Hp hS hl hc hs
  exact lv_icmp_lt E.1 E.2.1 hd ht (fun z => kt z p e s m args below meth c R H locs ls E Rm Fx Hp hS hl hc hs) (fun z => kf z p e s m args below meth c R H locs ls E Rm Fx Hp hS hl hc hs)
theorem ax_icmp_ge {G : ax_G} {M : ax_M} {d mc ms : Nat} {Q : ax_P} {pc : Nat} {lv : ax_L} {st : List Value} {h : ax_H} {cn sn : Nat} {x y : Int32} {off : Int} {tgt : Nat} (hd : decode M.2.1 pc = .ok (.if_icmp .ge off, 3)) (ht : (pc : Int) + off = (tgt : Int)) (kt : y ≤ x → AW G M d mc ms Q (tgt) lv st h cn sn) (kf : ¬ (y ≤ x) → AW G M d mc ms Q (pc + 3) lv st h cn sn) : AW G M d mc ms Q (pc) lv (.int y :: .int x :: st) h cn sn := by
  intro p e s m args below meth c R H locs ls E Rm Fx Hp hS hl hc hs
  exact lv_icmp_ge E.1 E.2.1 hd ht (fun z => kt z p e s m args below meth c R H locs ls E Rm Fx Hp hS hl hc hs) (fun z => kf z p e s m args below meth c R H locs ls E Rm Fx Hp hS hl hc hs)
theorem ax_icmp_gt {G : ax_G} {M : ax_M} {d mc ms : Nat} {Q : ax_P} {pc : Nat} {lv : ax_L} {st : List Value} {h : ax_H} {cn sn : Nat} {x y : Int32} {off : Int} {tgt : Nat} (hd : decode M.2.1 pc = .ok (.if_icmp .gt off, 3)) (ht : (pc : Int) + off = (tgt : Int)) (kt : y < x → AW G M d mc ms Q (tgt) lv st h cn sn) (kf : ¬ (y < x) → AW G M d mc ms Q (pc + 3) lv st h cn sn) : AW G M d mc ms Q (pc) lv (.int y :: .int x :: st) h cn sn := by
  intro p e s m args below meth c R H locs ls E Rm Fx Hp hS hl hc hs
  exact lv_icmp_gt E.1 E.2.1 hd ht (fun z => kt z p e s m args below meth c R H locs ls E Rm Fx Hp hS hl hc hs) (fun z => kf z p e s m args below meth c R H locs ls E Rm Fx Hp hS hl hc hs)
theorem ax_icmp_le {G : ax_G} {M : ax_M} {d mc ms : Nat} {Q : ax_P} {pc : Nat} {lv : ax_L} {st : List Value} {h : ax_H} {cn sn : Nat} {x y : Int32} {off : Int} {tgt : Nat} (hd : decode M.2.1 pc = .ok (.if_icmp .le off, 3)) (ht : (pc : Int) + off = (tgt : Int)) (kt : x ≤ y → AW G M d mc ms Q (tgt) lv st h cn sn) (kf : ¬ (x ≤ y) → AW G M d mc ms Q (pc + 3) lv st h cn sn) : AW G M d mc ms Q (pc) lv (.int y :: .int x :: st) h cn sn := by
  intro p e s m args below meth c R H locs ls E Rm Fx Hp hS hl hc hs
  exact lv_icmp_le E.1 E.2.1 hd ht (fun z => kt z p e s m args below meth c R H locs ls E Rm Fx Hp hS hl hc hs) (fun z => kf z p e s m args below meth c R H locs ls E Rm Fx Hp hS hl hc hs)
theorem ax_ifnonnull {G : ax_G} {M : ax_M} {d mc ms : Nat} {Q : ax_P} {pc : Nat} {lv : ax_L} {st : List Value} {h : ax_H} {cn sn : Nat} {x : Nat} {off : Int} {tgt : Nat} (hd : decode M.2.1 pc = .ok (.ifnonnull off, 3)) (ht : (pc : Int) + off = (tgt : Int)) (k : AW G M d mc ms Q (tgt) lv st h cn sn) : AW G M d mc ms Q (pc) lv (.ref x :: st) h cn sn := by
  intro p e s m args below meth c R H locs ls E Rm Fx Hp hS hl hc hs
  exact lv_ifnonnull E.1 E.2.1 hd ht (k p e s m args below meth c R H locs ls E Rm Fx Hp hS hl hc hs)
theorem ax_ifnull {G : ax_G} {M : ax_M} {d mc ms : Nat} {Q : ax_P} {pc : Nat} {lv : ax_L} {st : List Value} {h : ax_H} {cn sn : Nat} {x : Nat} {off : Int} (hd : decode M.2.1 pc = .ok (.ifnull off, 3)) (k : AW G M d mc ms Q (pc + 3) lv st h cn sn) : AW G M d mc ms Q (pc) lv (.ref x :: st) h cn sn := by
  intro p e s m args below meth c R H locs ls E Rm Fx Hp hS hl hc hs
  exact lv_ifnull E.1 E.2.1 hd (k p e s m args below meth c R H locs ls E Rm Fx Hp hS hl hc hs)
theorem ax_ifnullN {G : ax_G} {M : ax_M} {d mc ms : Nat} {Q : ax_P} {pc : Nat} {lv : ax_L} {st : List Value} {h : ax_H} {cn sn : Nat} {off : Int} {tgt : Nat} (hd : decode M.2.1 pc = .ok (.ifnull off, 3)) (ht : (pc : Int) + off = (tgt : Int)) (k : AW G M d mc ms Q (tgt) lv st h cn sn) : AW G M d mc ms Q (pc) lv (.null :: st) h cn sn := by
  intro p e s m args below meth c R H locs ls E Rm Fx Hp hS hl hc hs
  exact lv_ifnullN E.1 E.2.1 hd ht (k p e s m args below meth c R H locs ls E Rm Fx Hp hS hl hc hs)
theorem ax_ifnonnullN {G : ax_G} {M : ax_M} {d mc ms : Nat} {Q : ax_P} {pc : Nat} {lv : ax_L} {st : List Value} {h : ax_H} {cn sn : Nat} {off : Int} (hd : decode M.2.1 pc = .ok (.ifnonnull off, 3)) (k : AW G M d mc ms Q (pc + 3) lv st h cn sn) : AW G M d mc ms Q (pc) lv (.null :: st) h cn sn := by
  intro p e s m args below meth c R H locs ls E Rm Fx Hp hS hl hc hs
  exact lv_ifnonnullN E.1 E.2.1 hd (k p e s m args below meth c R H locs ls E Rm Fx Hp hS hl hc hs)
theorem ax_tabOut {G : ax_G} {M : ax_M} {d mc ms : Nat} {Q : ax_P} {pc : Nat} {lv : ax_L} {st : List Value} {h : ax_H} {cn sn : Nat} {dflt lo hi : Int} {offs : Array Int} {len : Nat} {x : Int32} {tgt : Nat} (hd : decode M.2.1 pc = .ok (.tableswitch dflt lo hi offs, len)) (hx : x.toInt < lo ∨ hi < x.toInt) (ht : (pc : Int) + dflt = (tgt : Int)) (k : AW G M d mc ms Q (tgt) lv st h cn sn) : AW G M d mc ms Q (pc) lv (.int x :: st) h cn sn := by
  intro p e s m args below meth c R H locs ls E Rm Fx Hp hS hl hc hs
  exact lv_tableOut E.1 E.2.1 hd hx ht (k p e s m args below meth c R H locs ls E Rm Fx Hp hS hl hc hs)
theorem ax_tabIn {G : ax_G} {M : ax_M} {d mc ms : Nat} {Q : ax_P} {pc : Nat} {lv : ax_L} {st : List Value} {h : ax_H} {cn sn : Nat} {dflt lo hi : Int} {offs : Array Int} {len : Nat} {x : Int32} {off : Int} {tgt : Nat} (hd : decode M.2.1 pc = .ok (.tableswitch dflt lo hi offs, len)) (h1 : ¬ x.toInt < lo) (h2 : ¬ hi < x.toInt) (ho : offs[(x.toInt - lo).toNat]? = some off) (ht : (pc : Int) + off = (tgt : Int)) (k : AW G M d mc ms Q (tgt) lv st h cn sn) : AW G M d mc ms Q (pc) lv (.int x :: st) h cn sn := by
  intro p e s m args below meth c R H locs ls E Rm Fx Hp hS hl hc hs
  exact lv_tableIn E.1 E.2.1 hd h1 h2 ho ht (k p e s m args below meth c R H locs ls E Rm Fx Hp hS hl hc hs)
theorem ax_sub {G : ax_G} {M : ax_M} {d mc ms : Nat} {Q : ax_P} {pc : Nat} {lv : ax_L} {st : List Value} {h : ax_H} {cn sn : Nat} {lv' : ax_L} (hsub : ∀ q ∈ lv', q ∈ lv) (k : AW G M d mc ms Q (pc) lv' st h cn sn) : AW G M d mc ms Q (pc) lv st h cn sn := by
  intro p e s m args below meth c R H locs ls E Rm Fx Hp hS hl hc hs
  exact k p e s m args below meth c R H locs ls E Rm Fx Hp hS ⟨hl.1, hl.2.1, fun q hq => hl.2.2 q (hsub q hq)⟩ hc hs
theorem ax_iret {G : ax_G} {M : ax_M} {d mc ms : Nat} {Q : ax_P} {pc : Nat} {lv : ax_L} {st : List Value} {h : ax_H} {cn sn : Nat} {v : Int32} {ty : FieldType} (hd : decode M.2.1 pc = .ok (.ireturn, 1)) (hr : M.2.2.2.1 = some ty) (hn : narrow ty (.int v) = .int v) (hq : Q (.inl (some (.int v))) h) : AW G M d mc ms Q (pc) lv [.int v] h cn sn := by
  intro p e s m args below meth c R H locs ls E Rm Fx Hp hS hl hc hs
  exact vx_ret (W.widen (k := mc) (n := ms) hc hs (W.zret E.1 E.2.1 (E.2.2.1.trans hr) hn (fun t ht _ => ⟨_, h, rfl, hq, by rw [ht]; exact Hp, hS.F ht⟩) hS.2.2 hd (hlocks := E.2.2.2.2.2.2.1)))
theorem ax_lret {G : ax_G} {M : ax_M} {d mc ms : Nat} {Q : ax_P} {pc : Nat} {lv : ax_L} {st : List Value} {h : ax_H} {cn sn : Nat} {v : Int64} (hd : decode M.2.1 pc = .ok (.lreturn, 1)) (hr : M.2.2.2.1 = some .long) (hq : Q (.inl (some (.long v))) h) : AW G M d mc ms Q (pc) lv [.long v] h cn sn := by
  intro p e s m args below meth c R H locs ls E Rm Fx Hp hS hl hc hs
  exact vx_ret (W.widen (k := mc) (n := ms) hc hs (W.lret E.1 E.2.1 (E.2.2.1.trans hr) (fun t ht _ => ⟨_, h, rfl, hq, by rw [ht]; exact Hp, hS.F ht⟩) hS.2.2 hd (hlocks := E.2.2.2.2.2.2.1)))
theorem ax_dret {G : ax_G} {M : ax_M} {d mc ms : Nat} {Q : ax_P} {pc : Nat} {lv : ax_L} {st : List Value} {h : ax_H} {cn sn : Nat} {v : UInt64} (hd : decode M.2.1 pc = .ok (.dreturn, 1)) (hr : M.2.2.2.1 = some .double) (hq : Q (.inl (some (.double v))) h) : AW G M d mc ms Q (pc) lv [.double v] h cn sn := by
  intro p e s m args below meth c R H locs ls E Rm Fx Hp hS hl hc hs
  exact vx_ret (W.widen (k := mc) (n := ms) hc hs (W.dret E.1 E.2.1 (E.2.2.1.trans hr) (fun t ht _ => ⟨_, h, rfl, hq, by rw [ht]; exact Hp, hS.F ht⟩) hS.2.2 hd (hlocks := E.2.2.2.2.2.2.1)))
theorem ax_vret {G : ax_G} {M : ax_M} {d mc ms : Nat} {Q : ax_P} {pc : Nat} {lv : ax_L} {st : List Value} {h : ax_H} {cn sn : Nat} (hd : decode M.2.1 pc = .ok (.return_, 1)) (hr : M.2.2.2.1 = none) (hq : Q (.inl none) h) : AW G M d mc ms Q (pc) lv [] h cn sn := by
  intro p e s m args below meth c R H locs ls E Rm Fx Hp hS hl hc hs
  exact vx_ret (W.widen (k := mc) (n := ms) hc hs (W.vret E.1 E.2.1 (E.2.2.1.trans hr) (fun t ht _ => ⟨_, h, rfl, hq, by rw [ht]; exact Hp, hS.F ht⟩) hS.2.2 hd (hlocks := E.2.2.2.2.2.2.1)))
theorem ax_aret {G : ax_G} {M : ax_M} {d mc ms : Nat} {Q : ax_P} {pc : Nat} {lv : ax_L} {st : List Value} {h : ax_H} {cn sn : Nat} {v : Value} {rt : FieldType} (hd : decode M.2.1 pc = .ok (.areturn, 1)) (hr : M.2.2.2.1 = some rt) (hrt : (∃ n, rt = .object n) ∨ ∃ t, rt = .array t) (hv : v = .null ∨ ∃ a, v = .ref a) (hq : Q (.inl (some v)) h) : AW G M d mc ms Q (pc) lv [v] h cn sn := by
  intro p e s m args below meth c R H locs ls E Rm Fx Hp hS hl hc hs
  exact vx_ret (W.widen (k := mc) (n := ms) hc hs (W.aret E.1 E.2.1 (E.2.2.1.trans hr) hrt hv (fun t ht _ => ⟨_, h, rfl, hq, by rw [ht]; exact Hp, hS.F ht⟩) hS.2.2 hd (hlocks := E.2.2.2.2.2.2.1)))
