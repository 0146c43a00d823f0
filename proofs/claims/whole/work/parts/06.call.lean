/-! ===== BEGIN a constructor that throws (launches without stack traces) ===== -/
section VXIA
variable {p : Program} {l : Launch} {e : Env} {R : Room} {s : State} {m : MethodId} {args : Array Value} {below : List Frame} {meth : Method} {c : Code} {T : State} {locs : List Loc} {cells slots : Nat}
theorem vx_callI (X : Stand p l e R s m args below meth c T locs cells slots) (hexec : p.tables.exec = Jvm.exec) {own : String} {index : Nat} {y : MethodName} {bytes : ByteArray} {maxL : Nat}
    (hown : s.vm.findClass own = some m.cls) (hy1 : y.name = "<init>") (hlink : (Cond.methodLink own index y).before args s = true) (hinst : (Cond.instanceMethod y).before args s = true)
    (hcode : (Cond.code y bytes maxL none).before args s = true) (hy : y.cls ≠ "java/lang/invoke/MethodHandle" ∧ y.cls ≠ "java/lang/invoke/VarHandle")
    {W9 : Nat} {Pre : Pt → Array Value → Prop} {Post : Pt → Array Value → Option Value → Pt → Prop} {PostX : Pt → Array Value → Addr → Pt → Prop} (hK : vx_Back l R p e below s args y 3 W9 Pre Post PostX)
    {g : JFrame} (hg : g.method = m) (hsize : g.locals.size = c.maxLocals) {a : Addr} {argsL rest : List Value} (hlen : ∀ sig, parseMethodDescriptor y.desc = some sig → argsL.length = sig.parameters.length)
    (hstack : g.stack = argsL.reverse ++ .ref a :: rest) (hW : 2 * g.monitorRoom + (rest.map fun v => v.category).sum ≤ W9) (hdg : decode c.code g.pc = .ok (.invokespecial index, 3))
    (hpre : ∀ vm₁, s.WarmedH vm₁ → Pre ⟨T.setVm vm₁, locs, cells, slots⟩ (Value.ref a :: argsL).toArray) :
    (∃ (v : Option Value) (vm₁ : Vm) (B : Pt), s.WarmedH vm₁ ∧ Stand p l e R s m args below meth c B.U B.locs B.cells B.slots ∧ Post ⟨T.setVm vm₁, locs, cells, slots⟩ (Value.ref a :: argsL).toArray v B ∧
      ∀ target, Steps p.tables e below (B.U.setTop { g with pc := g.pc + 3, stack := v.toList ++ rest }) target → Steps p.tables e below (T.setTop g) target) ∨
    (∃ (q : Addr) (vm₁ : Vm) (B : Pt), s.WarmedH vm₁ ∧ Stand p l e R s m args below meth c B.U B.locs B.cells B.slots ∧ PostX ⟨T.setVm vm₁, locs, cells, slots⟩ (Value.ref a :: argsL).toArray q B ∧
      Steps p.tables e below (T.setTop g) ((B.U.setTop { g with stack := rest }).pushFrame (.throwing q))) := by
  subst hg
  have hpl : e.platform.magicAccessors = ({} : Platform).magicAccessors := by rw [X.admits.platform]
  obtain ⟨mk, methM, cM, kP, vm₁, hnamed, hmethM, hcodeM, -, hlocalsM, -, hkP, -, hW₁, hstep₁⟩ := Steps.initColdArgs (e := e) X.here hexec X.warmed hpl hown hy1 hy hlink hinst hcode (f := g) rfl hlen hstack hdg
  have X₁ := X.noted hW₁
  rcases hK g.method meth c ⟨T.setVm vm₁, locs, cells, slots⟩ { g with stack := rest } (.invokespecial index) mk (Value.ref a :: argsL).toArray X₁ rfl hsize hdg hW (X₁.named hnamed) (hpre vm₁ X₁.warmed) with ⟨v, B, X', hpost, hsteps⟩ | ⟨q, B, X', hpost, hsteps⟩
  · exact Or.inl ⟨v, vm₁, B, X₁.warmed, X', hpost, fun target h => hstep₁ _ fun acts => by rw [doInvoke_state]; exact hsteps.trans h⟩
  · exact Or.inr ⟨q, vm₁, B, X₁.warmed, X', hpost, hstep₁ _ fun acts => by rw [doInvoke_state]; exact hsteps⟩
end VXIA
section VXIB
variable {p : Program} {l : Launch} {e : Env} {R : Room} {s : State} {m : MethodId} {args : Array Value} {below : List Frame} {meth : Method} {c : Code} {H : Heap} {locs : List Loc} {cells slots : Nat}
variable {y : MethodName} {bytes cc : ByteArray} {maxL nL mc ms n index : Nat} {ret : Option FieldType} {ws : List Cond} {rm : Room} {Pc : Array Value → State → Prop} {Qc : Array Value → State → Outcome → State → Prop} {XC : String → State → State → Prop} {free : Addr → Prop} {Ts : List Cond} {own C : String} {b : Addr} {As rest : List Value} {g : JFrame}
theorem vx_runI (S : CallFix p m c cc nL s args Ts own) (hM : vx_Met l y ws rm Pc Qc XC mc ms free) (cw : CallB R s args own index y bytes maxL none ws rm mc ms n ∧ y.name = "<init>" ∧ (Cond.instanceMethod y).before args s = true) (hp : PreS s H Pc (.ref b :: As))
    (hg : g.method = m) (hn : As.length = n) (hsize : g.locals.size = nL) (hstack : g.stack = As.reverse ++ .ref b :: rest) (hW : 2 * g.monitorRoom + (rest.map fun v => v.category).sum ≤ 8) (hdg : decode cc g.pc = .ok (.invokespecial index, 3)) (hf : cells + mc ≤ R.cells ∧ slots + ms ≤ R.slots) :
    vx_Run p l e R s m args below meth c H locs cells slots mc ms g rest (Qc (Value.ref b :: As).toArray) XC free := by
  have hK : vx_Back l R p e below s args y 3 8 (PreOf R mc ms Pc) (PostOf Qc mc ms free) (vx_Post XC mc ms free) := vx_callBack cw.1 hM hp.1
  obtain ⟨⟨-, -, -, -, -, -, hcode, -, hy, hlen, hl⟩, hy1, hin⟩ := cw
  obtain ⟨hx, hb, hml, ho, -⟩ := S
  have hPc := hp.2
  intro T hT X
  rcases vx_callI X hx (bytes := bytes) (maxL := maxL) ho hy1 hl hin hcode hy hK hg (hsize.trans hml.symm) (a := b) (argsL := As) (rest := rest) (fun sig h => hn.trans (hlen sig h)) hstack hW (by rw [hb]; exact hdg)
    (fun vm₁ hW₁ => ⟨hf.1, hf.2, hPc (T.setVm vm₁) hT hW₁⟩) with ⟨v, vm₁, ⟨U', l2, c2, s2⟩, hW₁, X', ⟨g', mk, t, L, e1, e2, hq, h1, hL, h2, h3⟩, st⟩ | ⟨q, vm₁, ⟨U', l2, c2, s2⟩, hW₁, X', ⟨g', mk, t, L, E, ce, e1, e2, hq, hce, hcv, hcl, h1, hL, h2, h3⟩, st⟩
  · dsimp only [Pt.U, Pt.locs, Pt.cells, Pt.slots] at X' e1 e2 h1 h2 h3 st
    subst h1; subst h2; subst h3
    exact Or.inl ⟨v, (T.setVm vm₁).calling g' mk (Value.ref b :: As).toArray, t, U', L, hT, X', hL, e1, e2, hq, st⟩
  · dsimp only [Pt.U, Pt.locs, Pt.cells, Pt.slots] at X' e1 e2 h1 h2 h3 st hcl
    subst h1; subst h2; subst h3
    exact Or.inr ⟨q, (T.setVm vm₁).calling g' mk (Value.ref b :: As).toArray, t, U', L, E, ce, hT, X', hL, e1, e2, hq, hce, hcv, vx_cls hW₁ hcl, st⟩
end VXIB
/-! ===== END ===== -/

theorem ax_good {w : Cond} (h : w ∈ ax_all) : (w.onTables && w.keeps) = true ∨ ∃ ty, w = .arrayClass ty := good_of_word (List.mem_filter.mp h).2
theorem ax_goodIn {ws : List Cond} (h : ∀ w ∈ ws, w ∈ ax_all) : GoodIn ax_all ws := fun w hw => ⟨h w hw, ax_good (h w hw)⟩
def ax_nms : List String := ["java/lang/RuntimeException", "java/lang/Exception"]
/-- what a throw of a text stands on -/
def ax_th (own : String) (ik is ic : Nat) (cls text : String) : Prop := Bundle.fit cls = true ∧ (∀ n ∈ ax_nms, Bundle.fit n = true) ∧ Cond.classLink own ik cls ∈ ax_all ∧ Cond.initialized cls ∈ ax_all ∧ (own, is, text) ∈ ax_strs ∧ (∀ w ∈ vx_atS own ic cls ax_nms, w ∈ ax_all ∨ w ∈ ax_bad)
theorem ax_ot {w : Cond} (h : w ∈ ax_all) : vx_ot w = true := by
  have := (List.mem_filter.mp h).2
  unfold vx_ot
  rw [this]
  exact Bool.or_true _
theorem ax_throw {G : ax_G} {M : ax_M} {d mc ms : Nat} {Q : ax_P} {pc : Nat} {lv : ax_L} {st : List Value} {h : ax_H} {cn sn : Nat} {ik is ic : Nat} {cls text : String} (hM : M.2.2.2.2.1 = []) (ht : ax_th M.1.cls ik is ic cls text) (d0 : decode M.2.1 pc = .ok (.new ik, 3)) (d3 : decode M.2.1 (pc + 3) = .ok (.dup, 1)) (d4 : decode M.2.1 (pc + 4) = .ok (.ldc is, 2)) (d6 : decode M.2.1 (pc + 6) = .ok (.invokespecial ic, 3)) (d9 : decode M.2.1 (pc + 9) = .ok (.athrow, 1)) (hcat : (st.map fun v => v.category).sum ≤ 8) (h1 : cn + 1 ≤ mc) (h2 : sn + 6 ≤ ms) (hq : Q (.inr cls) h) : AW G M d mc ms Q pc lv st h cn sn := by
  intro p e s m args below meth c R H locs ls E Rm Fx Hp hS hl hc hs
  obtain ⟨t1, t2, t3, t4, t5, t6⟩ := ht
  have hca : ∀ w ∈ ax_bad, w.before args s = true := fun w hw => va_Nw.use (ax_bad_on w hw) (Fx.2.2.2.2.2.2.2.2.2.2.1 w hw)
  obtain ⟨sa, hsa⟩ := Fx.2.2.2.2.2.2.2.2.1 _ t5
  have hT : c.exceptionTable.toList = [] := by rw [E.2.2.2.2.2.2.2.1, hM]; rfl
  refine vx_throwS E.1 E.2.1 Fx.2.2.2.1 E.2.2.2.2.1 t1 t2 (E.2.2.2.2.2.1 _ t3) (E.2.2.2.2.2.1 _ t4) hsa (fun w hw => (t6 w hw).elim (fun h9 => E.2.2.2.2.2.1 _ h9) (fun h9 => hca w h9)) (fun w hw => ?_) Fx.2.2.2.2.2.2.1 Fx.2.2.2.2.2.2.2.1 hS (by rw [E.2.2.2.1]; exact hl.1) d0 d3 d4 d6 d9 (fun x hx => by rw [hT] at hx; cases hx) (by have := Rm.2.2.1; show 2 + 3 < R.frames; omega) (by have := Rm.2.2.2; show _ + (13 * (2 + 1) + 43) ≤ R.locals; omega) (by rw [Rm.1]; exact h1) (by rw [Rm.2.1]; exact h2) E.2.2.2.2.2.2.1 (fun t _ hz hk => ?_) hS.2.2 h1 h2
  · rcases List.mem_cons.mp hw with rfl | hw
    · exact ax_ot t3
    · rcases List.mem_cons.mp hw with rfl | hw
      · exact ax_ot t4
      · rcases t6 w hw with h9 | h9
        · exact ax_ot h9
        · unfold vx_ot; rw [ax_bad_on w h9]; rfl
  · obtain ⟨L, hL, hP, hD⟩ := Hp
    refine ⟨h, hq, ⟨L, hL, hP.kept (fun k q hq => hk _ (hP k q hq).lt), hD⟩, Nat.le_trans hS.1 hz, fun q q1 q2 => (hk q (Nat.lt_of_lt_of_le q1 hS.1)).trans (hS.2.1 q q1 q2)⟩
def ax_room (d mc ms : Nat) : Room := { frames := d + 8, cells := mc, slots := ms, locals := 40 * d + 120 }
def ax_Pc (G : ax_G) (av : List Value) (h : ax_H) : Array Value → State → Prop := fun v U => v = av.toArray ∧ ax_fix G U U.heap ∧ ax_holds G h U.heap
theorem ax_fix_calling {G : ax_G} {U : State} {g : JFrame} {mk : MethodId} {a : Array Value} (h : ax_fix G U U.heap) : ax_fix G (U.calling g mk a) (U.calling g mk a).heap := by
  obtain ⟨f1, f2, f3, f4, f5, f6, f7, f8, f9, f10, f11, f12, f13⟩ := h
  have hv : U.vm.Alike (U.calling g mk a).vm := Vm.Alike.refl U.vm
  exact ⟨va_K.moved (u := U) hv f1, f2, f3, f4, f5, va_X.moved (u := U) hv f6, vx_Zq.moved (u := U) hv f7, vx_Zq.moved (u := U) hv f8, fun q hq => ⟨(f9 q hq).choose, vk_R.same (u := U) rfl (f9 q hq).choose_spec⟩, fun q hq => va_Nc.moved (u := U) hv (f10 q hq), fun w hw => va_Nw.same (u := U) (ax_bad_on w hw) rfl (f11 w hw), va_AO.moved (u := U) hv f12, ax_AO_moved (u := U) hv f13⟩
theorem ax_blind (G : ax_G) (av : List Value) (h : ax_H) : FrameBlind (ax_Pc G av h) := fun a U g mk q => ⟨q.1, ax_fix_calling q.2.1, q.2.2⟩
theorem ax_fix_warm {G : ax_G} {s U : State} {H : Heap} {locs : List Loc} (hW : s.WarmedH U.vm) (hU : U.heap = H) (Fx : ax_fix G s s.heap) (hS : va_S (ax_A G) s.heap H locs) : ax_fix G U U.heap := by
  obtain ⟨f1, ⟨k, f2, f2'⟩, f3, f4, f5, f6, f7, f8, f9, f10, f11, f12, f13⟩ := Fx
  obtain ⟨k', hk', he⟩ := hW.alike.2.2 _ _ f2
  have hk : ∀ a : Nat, a < s.heap.size → ¬ ax_A G a → U.heap[a]? = s.heap[a]? := fun a h1 h2 => by rw [hU]; exact hS.2.1 a h1 h2
  exact ⟨va_K.moved hW.alike f1, ⟨k', hk', by rw [he]; exact f2'⟩, by rw [hU]; exact Nat.le_trans f3 hS.1, f4, f5, va_X.moved hW.alike (f6.kept (hk _ (Nat.lt_of_lt_of_le f5 f3) (Nat.not_le.mpr f5))), vx_Zq.moved hW.alike (f7.kept hk), vx_Zq.moved hW.alike (f8.kept hk), fun q hq => ⟨(f9 q hq).choose, vk_R.warm hW (f9 q hq).choose_spec⟩, fun q hq => va_Nc.moved hW.alike (f10 q hq), ax_bad_warm hW f11, va_AO.moved hW.alike f12, ax_AO_moved hW.alike f13⟩
theorem ax_met {G : ax_G} {M : ax_M} {d mc ms : Nat} {Q : ax_P} {av : List Value} {h : ax_H} (hy : plainName M.1.cls = true) (hM : M.2.2.2.2.1 = []) (hn : (lg_sl av).length ≤ M.2.2.1) (k : AW G M d mc ms Q 0 (lv_args 0 av) [] h 0 0) :
    vx_Met G.1 M.1 (Cond.code M.1 M.2.1 M.2.2.1 M.2.2.2.1 :: ax_all) (ax_room d mc ms) (ax_Pc G av h) (ax_Qc G Q) (ax_XC G Q) mc ms (ax_A G) := by
  refine vx_ofW (cc := M.2.1) (maxL := M.2.2.1) (ret := M.2.2.2.1) hy rfl ?_
  intro p e s m args below meth c s₁ B hml ht hv
  obtain ⟨rfl, Fx, Hp⟩ := hv
  have hts := atoms_spec (ws := Cond.code M.1 M.2.1 M.2.2.1 M.2.2.2.1 :: ax_all) B.pre
  have hl := lv_entry av (n := M.2.2.1) hn
  rw [lg_entry_eq]
  have hT : c.exceptionTable.toList = tableOf M.2.2.2.2.1 := by
    rw [hM]
    cases hc : c.exceptionTable.toList with
    | nil => rfl
    | cons x l => exact (ht x (by rw [hc]; exact List.mem_cons_self)).elim
  exact k p e s m _ below meth c _ s.heap [] _ ⟨B.exec, B.bytes, B.returns, hml, findClass_of_methodNamed B.named, fun w hw => hts w (List.mem_cons_of_mem _ hw), B.notSynchronized, hT, (name_of_methodNamed B.named B.method).1⟩ ⟨rfl, rfl, Nat.le_refl _, Nat.le_refl _⟩ Fx Hp va_S.rf hl (Nat.zero_le _) (Nat.zero_le _)
theorem ax_metH {G : ax_G} {M : ax_M} {d mc ms : Nat} {Q : ax_P} {av : List Value} {h : ax_H} (hy : plainName M.1.cls = true) (hn : (lg_sl av).length ≤ M.2.2.1) (k : AW G M d mc ms Q 0 (lv_args 0 av) [] h 0 0) :
    vx_Met G.1 M.1 (Cond.codeWith M.1 M.2.1 M.2.2.1 M.2.2.2.1 M.2.2.2.2.1 :: ax_all) (ax_room d mc ms) (ax_Pc G av h) (ax_Qc G Q) (ax_XC G Q) mc ms (ax_A G) := by
  refine vx_ofWH (cc := M.2.1) (maxL := M.2.2.1) (ret := M.2.2.2.1) (hh := M.2.2.2.2.1) hy rfl ?_
  intro p e s m args below meth c s₁ B hml hv
  obtain ⟨rfl, Fx, Hp⟩ := hv
  have hts := atoms_spec (ws := Cond.codeWith M.1 M.2.1 M.2.2.1 M.2.2.2.1 M.2.2.2.2.1 :: ax_all) B.pre
  have hl := lv_entry av (n := M.2.2.1) hn
  rw [lg_entry_eq]
  exact k p e s m _ below meth c _ s.heap [] _ ⟨B.exec, B.bytes, B.returns, hml, findClass_of_methodNamed B.named, fun w hw => hts w (List.mem_cons_of_mem _ hw), B.notSynchronized, vx_table (x := M.1) B (hts _ List.mem_cons_self), (name_of_methodNamed B.named B.method).1⟩ ⟨rfl, rfl, Nat.le_refl _, Nat.le_refl _⟩ Fx Hp va_S.rf hl (Nat.zero_le _) (Nat.zero_le _)
section AXC
variable {p : Program} {G : ax_G} {e : Env} {R : Room} {s : State} {m : MethodId} {args : Array Value} {below : List Frame} {meth : Method} {c : Code} {H : Heap} {locs : List Loc} {cells slots : Nat} {Qf : State → Prop}
variable {mc ms : Nat} {Q1 : ax_P} {a : Array Value} {pc : Nat} {ls : Array Slot} {st0 rest : List Value}
theorem ax_call0 (hr : vx_Run p G.1 e R s m args below meth c H locs cells slots mc ms (F0 m pc ls st0) rest (ax_Qc G Q1 a) (ax_XC G Q1) (ax_A G)) (hS : va_S (ax_A G) s.heap H locs)
    (kx : ∀ (E : String) (ce : Cell) (q9 : Addr) (h1 : ax_H) (H1 : Heap) (locs1 : List Loc), Q1 (.inr E) h1 → ax_holds G h1 H1 → va_S (ax_A G) s.heap H1 locs1 → H1[q9]? = some ce → ce.vm = .none → s.vm.findClass E = some ce.cls → vx_W p G.1 e R s m args below meth c H1 locs1 (cells + mc) (slots + ms) Qf (F0 m pc ls rest) q9)
    (kk : ∀ (v : Option Value) (h1 : ax_H) (H1 : Heap) (locs1 : List Loc), Q1 (.inl v) h1 → ax_holds G h1 H1 → va_S (ax_A G) s.heap H1 locs1 → W p G.1 e R s m args below meth c H1 locs1 (cells + mc) (slots + ms) Qf (F0 m (pc + 3) ls (v.toList ++ rest))) : W p G.1 e R s m args below meth c H locs cells slots Qf (F0 m pc ls st0) := by
  intro T hT X
  rcases hr T hT X with ⟨v, st₀, t, T', L, h0, X', hL, e1, e2, ⟨v9, h1, hv, hq, hh, hF⟩, st⟩ | ⟨q, st₀, t, T', L, E, ce, h0, X', hL, e1, e2, ⟨h1, hq, hh, hF⟩, hce, hcv, hcl, st⟩
  · cases hv
    obtain ⟨k1, k2, k3⟩ := vx_keep h0 e1 hS (fun _ _ h => h) (fun _ h => h) hL hF
    obtain ⟨t2, a1, b1⟩ := kk v h1 T'.heap (locs ++ L) hq (by rw [e1]; exact hh) k3 T' rfl X'
    exact ⟨t2, st t2 a1, b1⟩
  · obtain ⟨k1, k2, k3⟩ := vx_keep h0 e1 hS (fun _ _ h => h) (fun _ h => h) hL hF
    obtain ⟨t2, a1, b1⟩ := kx E ce q h1 T'.heap (locs ++ L) hq (by rw [e1]; exact hh) k3 (by rw [e1]; exact hce) hcv hcl T' rfl X'
    exact ⟨t2, st.trans a1, b1⟩
end AXC
/-- what every callee must be -/
def ax_ok (M : ax_M) : Prop := plainName M.1.cls = true ∧ M.1.cls ≠ "java/lang/invoke/MethodHandle" ∧ M.1.cls ≠ "java/lang/invoke/VarHandle" ∧ (parseMethodDescriptor M.1.desc).map (fun d => d.parameters.length) = some M.2.2.2.2.2 ∧ M.2.2.1 ≤ 21 ∧ Cond.initialized M.1.cls ∈ ax_all
def ax_lkV (own : String) (i : Nat) (M : ax_M) (ci : Nat) : Prop := ax_ok M ∧ M.2.2.2.2.1 = [] ∧ Cond.code M.1 M.2.1 M.2.2.1 M.2.2.2.1 ∈ ax_all ∧ Cond.methodLink own i M.1 ∈ ax_all ∧ Cond.instanceMethod M.1 ∈ ax_all ∧ Cond.selects M.1.cls M.1 M.1 ∈ ax_all ∧ ∃ (T : u_T) (N : Nat), vwCl[ci]? = some (M.1.cls, T, N)
def ax_lkS (own : String) (i : Nat) (M : ax_M) : Prop := ax_ok M ∧ M.2.2.2.2.1 = [] ∧ Cond.code M.1 M.2.1 M.2.2.1 M.2.2.2.1 ∈ ax_all ∧ Cond.methodLink own i M.1 ∈ ax_all ∧ Cond.static M.1 ∈ ax_all ∧ M.1.cls = own
def ax_lkH (own : String) (i : Nat) (M : ax_M) : Prop := ax_ok M ∧ Cond.codeWith M.1 M.2.1 M.2.2.1 M.2.2.2.1 M.2.2.2.2.1 ∈ ax_all ∧ Cond.methodLink own i M.1 ∈ ax_all ∧ Cond.static M.1 ∈ ax_all
def ax_lkI (own : String) (i : Nat) (M : ax_M) : Prop := ax_ok M ∧ M.2.2.2.2.1 = [] ∧ M.2.2.2.1 = none ∧ M.1.name = "<init>" ∧ Cond.code M.1 M.2.1 M.2.2.1 none ∈ ax_all ∧ Cond.methodLink own i M.1 ∈ ax_all ∧ Cond.instanceMethod M.1 ∈ ax_all
theorem ax_wsin {w0 : Cond} {l : List Cond} (h0 : w0 ∈ ax_all) (h1 : ∀ w ∈ l, w ∈ ax_all) : ∀ w ∈ l ++ (w0 :: ax_all), w ∈ ax_all := fun w hw => (List.mem_append.mp hw).elim (h1 w) (fun h => (List.mem_cons.mp h).elim (fun e => by rw [e]; exact h0) id)
theorem ax_callV {G : ax_G} {M : ax_M} {d mc ms : Nat} {Q : ax_P} {pc : Nat} {lv : ax_L} {h : ax_H} {cn sn : Nat} {i : Nat} {M' : ax_M} {b ci : Nat} {fs : List Value} {av rest : List Value} {mc' ms' : Nat} {Q1 : ax_P} (hd : decode M.2.1 pc = .ok (.invokevirtual i, 3)) (hM : M.2.2.2.2.1 = []) (hlk : ax_lkV M.1.cls i M' ci) (hb : h b = some (.inr (ci, fs))) (hn : av.length = M'.2.2.2.2.2) (hsl : (lg_sl (.ref b :: av)).length ≤ M'.2.2.1) (hcat : (rest.map fun v => v.category).sum ≤ 8) (h1' : cn + mc' ≤ mc) (h2' : sn + ms' ≤ ms)
    (kc : AW G M' d mc' ms' Q1 0 (lv_args 0 (.ref b :: av)) [] h 0 0) (kx : ∀ (E : String) (h1 : ax_H), Q1 (.inr E) h1 → Q (.inr E) h1) (kk : ∀ (v : Option Value) (h1 : ax_H), Q1 (.inl v) h1 → AW G M (d + 1) mc ms Q (pc + 3) lv (v.toList ++ rest) h1 (cn + mc') (sn + ms')) : AW G M (d + 1) mc ms Q pc lv (av.reverse ++ .ref b :: rest) h cn sn := by
  intro p e s m args below meth c R H locs ls E Rm Fx Hp hS hl hc hs
  obtain ⟨⟨o1, o2, o3, o4, o5, o6⟩, l1, l2, l3, l4, l5, T, N, l6⟩ := hlk
  obtain ⟨L, hL, hP, hD⟩ := id Hp
  obtain ⟨q0, hq0⟩ := ax_get0 (kc := G.2.2.1) hL hb
  have hT : c.exceptionTable.toList = [] := by rw [E.2.2.2.2.2.2.2.1, hM]; rfl
  have hrun := vx_runV (Ts := ax_all) (e := e) (below := below) (meth := meth) (locs := locs) (g := F0 m pc ls (av.reverse ++ .ref b :: rest)) (rest := rest) (As := av) ⟨E.1, E.2.1, E.2.2.2.1, E.2.2.2.2.1, E.2.2.2.2.2.1⟩ (ax_met o1 l1 hsl kc) (cwV M'.2.2.2.2.2 (C := M'.1.cls) (own := M.1.cls) (index := i) E.2.2.2.2.2.1 (ax_goodIn (ax_wsin l2 (fun w hw => by
      rcases List.mem_cons.mp hw with rfl | hw
      · exact l3
      · rcases List.mem_cons.mp hw with rfl | hw
        · exact l4
        · rcases List.mem_cons.mp hw with rfl | hw
          · exact l5
          · rcases List.mem_cons.mp hw with rfl | hw
            · exact o6
            · cases hw))) rfl rfl rfl ⟨rfl, o2, o3, o4⟩ ⟨by have := Rm.2.2.1; show d + 8 + 1 ≤ R.frames; omega, by have := Rm.2.2.2; show 8 + (M'.2.2.1 + 11) + (40 * d + 120) ≤ R.locals; omega⟩)
    ⟨ax_blind G _ h, va_recv Fx.1 hP l6 hq0, fun U hU hW => ⟨rfl, ax_fix_warm hW hU Fx hS, by rw [hU]; exact Hp⟩⟩ rfl hn hl.1 rfl (lv_room hcat) hd ⟨by rw [Rm.1]; exact h1', by rw [Rm.2.1]; exact h2'⟩
  refine ax_call0 hrun hS (fun E9 ce q9 h1 H1 locs1 q1 q2 q3 w1 w2 w3 => ?_) (fun v h1 H1 locs1 q1 q2 q3 => kk v h1 q1 p e s m args below meth c R H1 locs1 ls E Rm Fx q2 q3 hl h1' h2')
  exact vx_out (fun x hx => by rw [hT] at hx; cases hx) E.2.2.2.2.2.2.1 w1 w2 w3 (fun t ht _ => ⟨h1, kx E9 h1 q1, by rw [ht]; exact q2, q3.F ht⟩) q3.2.2 h1' h2'
theorem ax_callS {G : ax_G} {M : ax_M} {d mc ms : Nat} {Q : ax_P} {pc : Nat} {lv : ax_L} {h : ax_H} {cn sn : Nat} {i : Nat} {M' : ax_M}  {av rest : List Value} {mc' ms' : Nat} {Q1 : ax_P} (hd : decode M.2.1 pc = .ok (.invokestatic i, 3)) (hM : M.2.2.2.2.1 = []) (hlk : ax_lkS M.1.cls i M')  (hn : av.length = M'.2.2.2.2.2) (hsl : (lg_sl (av)).length ≤ M'.2.2.1) (hcat : (rest.map fun v => v.category).sum ≤ 8) (h1' : cn + mc' ≤ mc) (h2' : sn + ms' ≤ ms)
    (kc : AW G M' d mc' ms' Q1 0 (lv_args 0 (av)) [] h 0 0) (kx : ∀ (E : String) (h1 : ax_H), Q1 (.inr E) h1 → Q (.inr E) h1) (kk : ∀ (v : Option Value) (h1 : ax_H), Q1 (.inl v) h1 → AW G M (d + 1) mc ms Q (pc + 3) lv (v.toList ++ rest) h1 (cn + mc') (sn + ms')) : AW G M (d + 1) mc ms Q pc lv (av.reverse ++ rest) h cn sn := by
  intro p e s m args below meth c R H locs ls E Rm Fx Hp hS hl hc hs
  obtain ⟨⟨o1, o2, o3, o4, o5, o6⟩, l1, l2, l3, l4, l5⟩ := hlk
  have hT : c.exceptionTable.toList = [] := by rw [E.2.2.2.2.2.2.2.1, hM]; rfl
  have hrun := vx_runS (Ts := ax_all) (e := e) (below := below) (meth := meth) (locs := locs) (g := F0 m pc ls (av.reverse ++ rest)) (rest := rest) (As := av) ⟨E.1, E.2.1, E.2.2.2.1, E.2.2.2.2.1, E.2.2.2.2.2.1⟩ (ax_met o1 l1 hsl kc) (cwS M'.2.2.2.2.2 (own := M.1.cls) (index := i) E.2.2.2.2.2.1 (ax_goodIn (ax_wsin l2 (fun w hw => by
      rcases List.mem_cons.mp hw with rfl | hw
      · exact l3
      · rcases List.mem_cons.mp hw with rfl | hw
        · exact l4
        · rcases List.mem_cons.mp hw with rfl | hw
          · rw [← l5]; exact o6
          · cases hw))) rfl rfl rfl ⟨l5, o2, o3, o4⟩ ⟨by have := Rm.2.2.1; show d + 8 + 1 ≤ R.frames; omega, by have := Rm.2.2.2; show 8 + (M'.2.2.1 + 11) + (40 * d + 120) ≤ R.locals; omega⟩)
    ⟨ax_blind G _ h, fun U hU hW => ⟨rfl, ax_fix_warm hW hU Fx hS, by rw [hU]; exact Hp⟩⟩ rfl hn hl.1 rfl (lv_room hcat) hd ⟨by rw [Rm.1]; exact h1', by rw [Rm.2.1]; exact h2'⟩
  refine ax_call0 hrun hS (fun E9 ce q9 h1 H1 locs1 q1 q2 q3 w1 w2 w3 => ?_) (fun v h1 H1 locs1 q1 q2 q3 => kk v h1 q1 p e s m args below meth c R H1 locs1 ls E Rm Fx q2 q3 hl h1' h2')
  exact vx_out (fun x hx => by rw [hT] at hx; cases hx) E.2.2.2.2.2.2.1 w1 w2 w3 (fun t ht _ => ⟨h1, kx E9 h1 q1, by rw [ht]; exact q2, q3.F ht⟩) q3.2.2 h1' h2'
theorem ax_callH {G : ax_G} {M : ax_M} {d mc ms : Nat} {Q : ax_P} {pc : Nat} {lv : ax_L} {h : ax_H} {cn sn : Nat} {i : Nat} {M' : ax_M}  {av rest : List Value} {mc' ms' : Nat} {Q1 : ax_P} (hd : decode M.2.1 pc = .ok (.invokestatic i, 3)) (hM : M.2.2.2.2.1 = []) (hlk : ax_lkH M.1.cls i M')  (hn : av.length = M'.2.2.2.2.2) (hsl : (lg_sl (av)).length ≤ M'.2.2.1) (hcat : (rest.map fun v => v.category).sum ≤ 8) (h1' : cn + mc' ≤ mc) (h2' : sn + ms' ≤ ms)
    (kc : AW G M' d mc' ms' Q1 0 (lv_args 0 (av)) [] h 0 0) (kx : ∀ (E : String) (h1 : ax_H), Q1 (.inr E) h1 → Q (.inr E) h1) (kk : ∀ (v : Option Value) (h1 : ax_H), Q1 (.inl v) h1 → AW G M (d + 1) mc ms Q (pc + 3) lv (v.toList ++ rest) h1 (cn + mc') (sn + ms')) : AW G M (d + 1) mc ms Q pc lv (av.reverse ++ rest) h cn sn := by
  intro p e s m args below meth c R H locs ls E Rm Fx Hp hS hl hc hs
  obtain ⟨⟨o1, o2, o3, o4, o5, o6⟩, l2, l3, l4⟩ := hlk
  have hT : c.exceptionTable.toList = [] := by rw [E.2.2.2.2.2.2.2.1, hM]; rfl
  have hrun := vx_runSX (Ts := ax_all) (e := e) (below := below) (meth := meth) (locs := locs) (g := F0 m pc ls (av.reverse ++ rest)) (rest := rest) (As := av) ⟨E.1, E.2.1, E.2.2.2.1, E.2.2.2.2.1, E.2.2.2.2.2.1⟩ (ax_metH o1 hsl kc) (vx_cwSW M'.2.2.2.2.2 (own := M.1.cls) (index := i) E.2.2.2.2.2.1 (ax_goodIn (ax_wsin l2 (fun w hw => by
      rcases List.mem_cons.mp hw with rfl | hw
      · exact l3
      · rcases List.mem_cons.mp hw with rfl | hw
        · exact l4
        · rcases List.mem_cons.mp hw with rfl | hw
          · exact o6
          · cases hw))) rfl rfl rfl ⟨o2, o3, o4⟩ ⟨by have := Rm.2.2.1; show d + 8 + 1 ≤ R.frames; omega, by have := Rm.2.2.2; show 8 + (M'.2.2.1 + 11) + (40 * d + 120) ≤ R.locals; omega⟩)
    ⟨ax_blind G _ h, fun U hU hW => ⟨rfl, ax_fix_warm hW hU Fx hS, by rw [hU]; exact Hp⟩⟩ rfl hn hl.1 rfl (lv_room hcat) hd ⟨by rw [Rm.1]; exact h1', by rw [Rm.2.1]; exact h2'⟩
  refine ax_call0 hrun hS (fun E9 ce q9 h1 H1 locs1 q1 q2 q3 w1 w2 w3 => ?_) (fun v h1 H1 locs1 q1 q2 q3 => kk v h1 q1 p e s m args below meth c R H1 locs1 ls E Rm Fx q2 q3 hl h1' h2')
  exact vx_out (fun x hx => by rw [hT] at hx; cases hx) E.2.2.2.2.2.2.1 w1 w2 w3 (fun t ht _ => ⟨h1, kx E9 h1 q1, by rw [ht]; exact q2, q3.F ht⟩) q3.2.2 h1' h2'
theorem ax_callI {G : ax_G} {M : ax_M} {d mc ms : Nat} {Q : ax_P} {pc : Nat} {lv : ax_L} {h : ax_H} {cn sn : Nat} {i : Nat} {M' : ax_M} {b : Nat} {av rest : List Value} {mc' ms' : Nat} {Q1 : ax_P} (hd : decode M.2.1 pc = .ok (.invokespecial i, 3)) (hM : M.2.2.2.2.1 = []) (hlk : ax_lkI M.1.cls i M')  (hn : av.length = M'.2.2.2.2.2) (hsl : (lg_sl (.ref b :: av)).length ≤ M'.2.2.1) (hcat : (rest.map fun v => v.category).sum ≤ 8) (h1' : cn + mc' ≤ mc) (h2' : sn + ms' ≤ ms)
    (kc : AW G M' d mc' ms' Q1 0 (lv_args 0 (.ref b :: av)) [] h 0 0) (kx : ∀ (E : String) (h1 : ax_H), Q1 (.inr E) h1 → Q (.inr E) h1) (kk : ∀ (v : Option Value) (h1 : ax_H), Q1 (.inl v) h1 → AW G M (d + 1) mc ms Q (pc + 3) lv (v.toList ++ rest) h1 (cn + mc') (sn + ms')) : AW G M (d + 1) mc ms Q pc lv (av.reverse ++ .ref b :: rest) h cn sn := by
  intro p e s m args below meth c R H locs ls E Rm Fx Hp hS hl hc hs
  obtain ⟨⟨o1, o2, o3, o4, o5, o6⟩, l1, l1', l1'', l2, l3, l4⟩ := hlk
  have hT : c.exceptionTable.toList = [] := by rw [E.2.2.2.2.2.2.2.1, hM]; rfl
  have hmet := ax_met o1 l1 hsl kc
  rw [l1'] at hmet
  have hrun := vx_runI (Ts := ax_all) (e := e) (below := below) (meth := meth) (locs := locs) (g := F0 m pc ls (av.reverse ++ .ref b :: rest)) (rest := rest) (As := av) (b := b) ⟨E.1, E.2.1, E.2.2.2.1, E.2.2.2.2.1, E.2.2.2.2.2.1⟩ hmet (cwI M'.2.2.2.2.2 (own := M.1.cls) (index := i) E.2.2.2.2.2.1 (ax_goodIn (ax_wsin (l := []) l2 (fun w hw => by cases hw))) rfl rfl rfl (E.2.2.2.2.2.1 _ o6) (E.2.2.2.2.2.1 _ l3) (E.2.2.2.2.2.1 _ l4) l1'' ⟨o2, o3, o4⟩ ⟨by have := Rm.2.2.1; show d + 8 + 1 ≤ R.frames; omega, by have := Rm.2.2.2; show 8 + (M'.2.2.1 + 11) + (40 * d + 120) ≤ R.locals; omega⟩)
    ⟨ax_blind G _ h, fun U hU hW => ⟨rfl, ax_fix_warm hW hU Fx hS, by rw [hU]; exact Hp⟩⟩ rfl hn hl.1 rfl (lv_room hcat) hd ⟨by rw [Rm.1]; exact h1', by rw [Rm.2.1]; exact h2'⟩
  refine ax_call0 hrun hS (fun E9 ce q9 h1 H1 locs1 q1 q2 q3 w1 w2 w3 => ?_) (fun v h1 H1 locs1 q1 q2 q3 => kk v h1 q1 p e s m args below meth c R H1 locs1 ls E Rm Fx q2 q3 hl h1' h2')
  exact vx_out (fun x hx => by rw [hT] at hx; cases hx) E.2.2.2.2.2.2.1 w1 w2 w3 (fun t ht _ => ⟨h1, kx E9 h1 q1, by rw [ht]; exact q2, q3.F ht⟩) q3.2.2 h1' h2'
