/-! ===== throw new E("text") by another entry: the row, and the rule ===== -/
def nx_L (own : String) (ic : Nat) (cls Y : String) (r : List String) : List Cond := (Bundle.ownAtoms own ic cls (Y :: r)).filter (fun w => decide (w ≠ .methodLink cls 7 (Bundle.initS Y)) && decide (w ≠ .code (Bundle.initS cls) Bundle.six 2 none))
def nx_atS (own : String) (ic : Nat) (cls Y : String) (r : List String) : List Cond := (nx_L own ic cls Y r).filter vx_no
section NSE2
variable {p : Program} {l : Launch} {e : Env} {R : Room} {s : State} {m : MethodId} {args : Array Value} {below : List Frame} {meth : Method} {c : Code} {T : State} {H : Heap} {locs : List Loc} {cells slots : Nat} {ls : Array Slot} {rest : List Value} {Qc : Array Value → State → Outcome → State → Prop} {XC : String → State → State → Prop} {free : Addr → Prop}
theorem nx_throwS {cc : ByteArray} {pc : Nat} (hexec : p.tables.exec = Jvm.exec) (hb : c.code = cc) (hl : l.stackTraces = false) {own cls Y text : String} {r : List String} {ik is ic ix mc ms sa : Nat} {rx : ByteArray} {A : Nat → Prop}
    (hown : s.vm.findClass own = some m.cls) (hcls : Bundle.fit cls = true) (hY : Bundle.fit Y = true) (hnames : ∀ n ∈ r, Bundle.fit n = true) (g1 : ∀ w ∈ Bundle.throwableAtoms ++ Bundle.throwableSAtoms ++ Bundle.chainSAtoms Y r, w ≠ .methodLink cls 7 (Bundle.initS Y) ∧ w ≠ .code (Bundle.initS cls) Bundle.six 2 none) (hoc : own ≠ cls)
    (x0 : decode rx 0 = .ok (.aload_n 0, 1)) (x1 : decode rx 1 = .ok (.aload_n 1, 1)) (x2 : decode rx 2 = .ok (.invokespecial ix, 3)) (x5 : decode rx 5 = .ok (.return_, 1))
    (hl13 : (Cond.methodLink cls ix (Bundle.initS Y)).before args s = true) (gl13 : vx_ot (Cond.methodLink cls ix (Bundle.initS Y)) = true) (hc13 : (Cond.code (Bundle.initS cls) rx 2 none).before args s = true) (gc13 : vx_ot (Cond.code (Bundle.initS cls) rx 2 none) = true)
    (hk : (Cond.classLink own ik cls).before args s = true) (hini : (Cond.initialized cls).before args s = true) (hstr : vk_R own is text sa s) (hat : ∀ w ∈ nx_atS own ic cls Y r, w.before args s = true)
    (hgood : ∀ w ∈ Cond.classLink own ik cls :: Cond.initialized cls :: nx_atS own ic cls Y r, vx_ot w = true)
    (hU : vx_Zq Bundle.tN "UNASSIGNED_STACK" Bundle.steD A s s.heap) (hN : vx_Zq Bundle.tN "SUPPRESSED_SENTINEL" Bundle.listD A s s.heap) (hS : va_S A s.heap H locs) (hsize : ls.size = c.maxLocals)
    (d0 : decode cc pc = .ok (.new ik, 3)) (d3 : decode cc (pc + 3) = .ok (.dup, 1)) (d4 : decode cc (pc + 4) = .ok (.ldc is, 2)) (d6 : decode cc (pc + 6) = .ok (.invokespecial ic, 3)) (d9 : decode cc (pc + 9) = .ok (.athrow, 1))
    (hout : ∀ x ∈ c.exceptionTable.toList, covers x (pc + 9) = false)
    (hRframes : r.length + 4 < R.frames) (hRlocals : (rest.map fun v => v.category).sum + (13 * (r.length + 2) + 43) ≤ R.locals) (hRcells : cells + 1 ≤ R.cells) (hRslots : slots + 6 ≤ R.slots) (hlocks : meth.locks = false)
    (hx : ∀ t : State, s.vm.Alike t.vm → H.size ≤ t.heap.size → (∀ q : Nat, q < H.size → t.heap[q]? = H[q]?) → XC cls s t)
    (hf : ∀ z ∈ locs, free z.base) (hc : cells + 1 ≤ mc) (hs : slots + 6 ≤ ms) :
    W p l e R s m args below meth c H locs cells slots (vx_MQ below Qc XC args s mc ms free) (F0 m pc ls rest) := by
  intro T hT X
  have htr : e.platform.stackTraces = false := (show e.platform.stackTraces = l.stackTraces by rw [X.admits.platform]).trans hl
  have Yq := vx_rebase X (R' := { frames := R.frames, locals := R.locals, cells := 1, slots := 6 }) (Nat.le_refl _) (Nat.le_refl _) hRcells hRslots
  obtain ⟨s', hA⟩ : ∃ z, z = (T.setVm s.vm).setFrames (.invoking m args :: below) := ⟨_, rfl⟩
  rw [← hA] at Yq
  have hvm : s'.vm = s.vm := by rw [hA]; rfl
  have hhp : s'.heap = H := by rw [hA]; exact hT
  have hW0 : s.WarmedH s'.vm := by rw [hvm]; exact State.WarmedH.refl s
  have hat' : ∀ w ∈ nx_atS own ic cls Y r, w.before args s' = true := fun w hw => vx_ot_at hW0 hvm.symm (hgood w (List.mem_cons_of_mem _ (List.mem_cons_of_mem _ hw))) (hat w hw)
  have hk' : (Cond.classLink own ik cls).before args s' = true := vx_ot_at hW0 hvm.symm (hgood _ List.mem_cons_self) hk
  have hini' : (Cond.initialized cls).before args s' = true := vx_ot_at hW0 hvm.symm (hgood _ (List.mem_cons_of_mem _ List.mem_cons_self)) hini
  have hU' : vx_Zq Bundle.tN "UNASSIGNED_STACK" Bundle.steD A s' s'.heap := by rw [hhp]; exact vx_Zq.moved hW0.alike (hU.kept hS.2.1)
  have hN' : vx_Zq Bundle.tN "SUPPRESSED_SENTINEL" Bundle.listD A s' s'.heap := by rw [hhp]; exact vx_Zq.moved hW0.alike (hN.kept hS.2.1)
  have hh : ∀ w ∈ nx_L own ic cls Y r, w.before args s' = true := vx_own hat' (vx_isRefq hU'.1) (vx_isRefq hN'.1) hU'.2.word hN'.2.word
  have h : ∀ w ∈ Bundle.ownAtoms own ic cls (Y :: r), w ≠ .methodLink cls 7 (Bundle.initS Y) → w ≠ .code (Bundle.initS cls) Bundle.six 2 none → w.before args s' = true := fun w hw n1 n2 => hh w (List.mem_filter.mpr ⟨hw, by rw [decide_eq_true n1, decide_eq_true n2]; rfl⟩)
  have hl13' : (Cond.methodLink cls ix (Bundle.initS Y)).before args s' = true := vx_ot_at hW0 hvm.symm gl13 hl13
  have hc13' : (Cond.code (Bundle.initS cls) rx 2 none).before args s' = true := vx_ot_at hW0 hvm.symm gc13 hc13
  have hown' : s'.vm.findClass own = some m.cls := by rw [hvm]; exact hown
  have hins : (Cond.instantiable cls 6).before args s' = true := h _ (by simp [Bundle.ownAtoms]) (fun k => nomatch k) (fun k => nomatch k)
  obtain ⟨vm₁, cX, kX, hfX, hkX, -, -, X₁, st1⟩ := Yq.newCold hexec (own := own) (C := cls) (index := ik) (n := 6) hown' hk' hins hini'
    (g := F0 m pc ls rest) rfl (by rw [hb]; exact d0) (Nat.le_refl _) (Nat.le_refl _)
  generalize hT1 : (T.setVm vm₁).pushCell { cls := cX, slots := kX.instanceTypes.map defaultValue, vm := .none } = T1 at X₁ st1
  have hcat : (Value.ref T.heap.size).category = 1 := rfl
  have hcellA : T1.heap[T.heap.size]? = some (freshCell cX kX) := by rw [← hT1]; exact State.heap_pushCell_size _ _
  have d3' : decode c.code (pc + 3) = .ok (.dup, 1) := by rw [hb]; exact d3
  have d4' : decode c.code (pc + 4) = .ok (.ldc is, 2) := by rw [hb]; exact d4
  have hstr' : vk_R own is text sa s' := vk_R.warm hW0 hstr
  obtain ⟨U, hsteps, hrun, hend, hW, hsame, ce, hce, hOv, hOc⟩ := nx_ctor X₁ hexec htr (own := own) (cls := cls) (Y := Y) (r := r) (ic := ic) (ix := ix) (rx := rx) x0 x1 x2 x5 hown' hcls hY hnames g1 hoc ⟨h, hl13', hc13'⟩ (fun x hx => nomatch hx) hfX hkX hcellA (by rw [hhp, hT]; exact Nat.le_refl _) (msg := .ref sa) rfl
    (g := { method := m, pc := pc + 6, locals := ls, stack := .ref sa :: .ref T.heap.size :: .ref T.heap.size :: rest, locked := none }) rfl hsize rfl rfl (rest := rest) rfl
    (by rw [hb]; exact d6) (by rw [hb]; exact d9) hout hRframes (by simp only [List.map_cons, List.sum_cons, hcat]; omega) hlocks
  obtain ⟨f1, f2⟩ := vx_frame hsame
  rw [hhp] at f1 f2
  have hWs : s.WarmedH U.vm := State.WarmedH.trans hW0 hW
  have hcl : s.vm.findClass cls = some ce.cls := by
    have h9 := hOc
    rw [hvm] at h9
    exact h9
  have hall : s.sameButNew ({ U with vm := s.vm } : State) locs mc ms := by
    subst hA
    obtain ⟨e1, e2⟩ := hsame
    rw [State.setFrames_setFrames] at e1
    have h2 : (T.setVm s.vm).sameButNew ({ U with vm := s.vm } : State) [] (0 + 1) (0 + 6) := ⟨e1, e2⟩
    have h3 := X.same.trans h2
    rw [List.append_nil] at h3
    exact h3.mono hc hs
  refine ⟨U, ?_, .threw T.heap.size, hrun, hend, Or.inr ⟨T.heap.size, rfl, cls, ce, locs, hx U hWs.alike f1 (fun q hq => f2 q hq (fun z hz => nomatch hz)), hce, hOv, hcl, hWs, hall, hf⟩⟩
  refine st1 _ ?_
  show Steps p.tables e below (T1.setTop { method := m, pc := pc + 3, locals := ls, stack := .ref T.heap.size :: rest, locked := none }) _
  jvm_step X₁.here [X₁.here.top, hexec, d3', Value.category]
  exact X₁.ldcString hexec (own := own) (text := text) (index := is) (a := sa) hown' hstr'.1 hstr'.2
    (g := { method := m, pc := pc + 4, locals := ls, stack := .ref T.heap.size :: .ref T.heap.size :: rest, locked := none }) rfl d4' _ hsteps
end NSE2
def nx_six : ByteArray := ⟨#[0x2a, 0x2b, 0xb7, 0x00, 0x0d, 0xb1]⟩
theorem nx_6_0 : decode nx_six 0 = .ok (.aload_n 0, 1) := by decide +kernel
theorem nx_6_1 : decode nx_six 1 = .ok (.aload_n 1, 1) := by decide +kernel
theorem nx_6_2 : decode nx_six 2 = .ok (.invokespecial 13, 3) := by decide +kernel
theorem nx_6_5 : decode nx_six 5 = .ok (.return_, 1) := by decide +kernel
def ax_thN (own : String) (ik is ic : Nat) (cls text : String) : Prop := Bundle.fit cls = true ∧ (∀ n ∈ ax_nms, Bundle.fit n = true) ∧ Cond.classLink own ik cls ∈ ax_all ∧ Cond.initialized cls ∈ ax_all ∧ (own, is, text) ∈ ax_strs ∧ (∀ w ∈ nx_atS own ic cls "java/lang/RuntimeException" ["java/lang/Exception"], w ∈ ax_all ∨ w ∈ ax_bad) ∧ (∀ w ∈ Bundle.throwableAtoms ++ Bundle.throwableSAtoms ++ Bundle.chainSAtoms "java/lang/RuntimeException" ["java/lang/Exception"], w ≠ .methodLink cls 7 (Bundle.initS "java/lang/RuntimeException") ∧ w ≠ .code (Bundle.initS cls) Bundle.six 2 none) ∧ own ≠ cls ∧ Cond.methodLink cls 13 (Bundle.initS "java/lang/RuntimeException") ∈ ax_all ∧ Cond.code (Bundle.initS cls) nx_six 2 none ∈ ax_all
theorem ax_throwN {G : ax_G} {M : ax_M} {d mc ms : Nat} {Q : ax_P} {pc : Nat} {lv : ax_L} {st : List Value} {h : ax_H} {cn sn : Nat} {ik is ic : Nat} {cls text : String} (hM : M.2.2.2.2.1 = []) (ht : ax_thN M.1.cls ik is ic cls text) (d0 : decode M.2.1 pc = .ok (.new ik, 3)) (d3 : decode M.2.1 (pc + 3) = .ok (.dup, 1)) (d4 : decode M.2.1 (pc + 4) = .ok (.ldc is, 2)) (d6 : decode M.2.1 (pc + 6) = .ok (.invokespecial ic, 3)) (d9 : decode M.2.1 (pc + 9) = .ok (.athrow, 1)) (hcat : (st.map fun v => v.category).sum ≤ 8) (h1 : cn + 1 ≤ mc) (h2 : sn + 6 ≤ ms) (hq : Q (.inr cls) h) : AW G M d mc ms Q pc lv st h cn sn := by
  intro p e s m args below meth c R H locs ls E Rm Fx Hp hS hl hc hs
  obtain ⟨t1, t2, t3, t4, t5, t6, t7, t8, t9, t10⟩ := ht
  have hca : ∀ w ∈ ax_bad, w.before args s = true := fun w hw => va_Nw.use (ax_bad_on w hw) (Fx.2.2.2.2.2.2.2.2.2.2.1 w hw)
  obtain ⟨sa, hsa⟩ := Fx.2.2.2.2.2.2.2.2.1 _ t5
  have hT : c.exceptionTable.toList = [] := by rw [E.2.2.2.2.2.2.2.1, hM]; rfl
  refine nx_throwS E.1 E.2.1 Fx.2.2.2.1 E.2.2.2.2.1 t1 (t2 _ List.mem_cons_self) (fun n hn => t2 n (List.mem_cons_of_mem _ hn)) t7 t8 nx_6_0 nx_6_1 nx_6_2 nx_6_5 (E.2.2.2.2.2.1 _ t9) (ax_ot t9) (E.2.2.2.2.2.1 _ t10) (ax_ot t10) (E.2.2.2.2.2.1 _ t3) (E.2.2.2.2.2.1 _ t4) hsa (fun w hw => (t6 w hw).elim (fun h9 => E.2.2.2.2.2.1 _ h9) (fun h9 => hca w h9)) (fun w hw => ?_) Fx.2.2.2.2.2.2.1 Fx.2.2.2.2.2.2.2.1 hS (by rw [E.2.2.2.1]; exact hl.1) d0 d3 d4 d6 d9 (fun x hx => by rw [hT] at hx; cases hx) (by have := Rm.2.2.1; show 1 + 4 < R.frames; omega) (by have := Rm.2.2.2; show _ + (13 * (1 + 2) + 43) ≤ R.locals; omega) (by rw [Rm.1]; exact h1) (by rw [Rm.2.1]; exact h2) E.2.2.2.2.2.2.1 (fun t _ hz hk => ?_) hS.2.2 h1 h2
  · rcases List.mem_cons.mp hw with rfl | hw
    · exact ax_ot t3
    · rcases List.mem_cons.mp hw with rfl | hw
      · exact ax_ot t4
      · rcases t6 w hw with h9 | h9
        · exact ax_ot h9
        · unfold vx_ot; rw [ax_bad_on w h9]; rfl
  · obtain ⟨L, hL, hP, hD⟩ := Hp
    refine ⟨h, hq, ⟨L, hL, hP.kept (fun k q hq => hk _ (hP k q hq).lt), hD⟩, Nat.le_trans hS.1 hz, fun q q1 q2 => (hk q (Nat.lt_of_lt_of_le q1 hS.1)).trans (hS.2.1 q q1 q2)⟩
theorem ax_all_of {w : Cond} (h : w ∈ lw_tbl) (hg : goodWord w = true) : w ∈ ax_all := List.mem_filter.mpr ⟨h, hg⟩
theorem nx_at_of {own cls Y : String} {r : List String} {ic : Nat} (h1 : ∀ w ∈ (nx_atS own ic cls Y r).filter goodWord, w ∈ lw_tbl) (h2 : ∀ w ∈ (nx_atS own ic cls Y r).filter (fun w => !goodWord w), w ∈ ax_bad) : ∀ w ∈ nx_atS own ic cls Y r, w ∈ ax_all ∨ w ∈ ax_bad := by
  intro w hw
  by_cases hg : goodWord w = true
  · exact Or.inl (List.mem_filter.mpr ⟨h1 w (List.mem_filter.mpr ⟨hw, hg⟩), hg⟩)
  · exact Or.inr (h2 w (List.mem_filter.mpr ⟨hw, by simpa using hg⟩))
theorem atNSE : ∀ w ∈ nx_atS RX6 139 "java/util/NoSuchElementException" "java/lang/RuntimeException" ["java/lang/Exception"], w ∈ ax_all ∨ w ∈ ax_bad := nx_at_of (by decide +kernel) (by decide +kernel)
theorem thNSE {is : Nat} {text : String} (h : (RX6, is, text) ∈ ax_strs) : ax_thN RX6 135 is 139 "java/util/NoSuchElementException" text := ⟨by decide +kernel, by decide +kernel, tkNSE, tiNSE, h, atNSE, by decide +kernel, by decide +kernel, ax_all_of (by decide +kernel) (by decide +kernel), ax_all_of (by decide +kernel) (by decide +kernel)⟩
