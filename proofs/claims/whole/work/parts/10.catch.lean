/-! ===== a call whose exceptions are caught here ===== -/
def ax_hd (M : ax_M) (pc : Nat) (E : String) (hpc : Nat) : Prop := ∃ (pre : List ExceptionTableEntry) (x : ExceptionTableEntry) (suf : List ExceptionTableEntry), tableOf M.2.2.2.2.1 = pre ++ x :: suf ∧ (∀ z ∈ pre, covers z pc = false ∨ (z.catchType ≠ 0 ∧ ∃ nm : String, Cond.classLink M.1.cls z.catchType nm ∈ ax_all ∧ (E, nm) ∈ ax_ncs)) ∧ covers x pc = true ∧ x.catchType ≠ 0 ∧ Cond.classLink M.1.cls x.catchType E ∈ ax_all ∧ Cond.castable E E ∈ ax_bad ∧ x.handlerPc = hpc
theorem ax_callVc {G : ax_G} {M : ax_M} {d mc ms : Nat} {Q : ax_P} {pc : Nat} {lv : ax_L} {h : ax_H} {cn sn : Nat} {i : Nat} {M' : ax_M} {b ci : Nat} {fs : List Value} {av rest : List Value} {mc' ms' : Nat} {Q1 : ax_P} (hd : decode M.2.1 pc = .ok (.invokevirtual i, 3)) (hlk : ax_lkV M.1.cls i M' ci) (hb : h b = some (.inr (ci, fs))) (hn : av.length = M'.2.2.2.2.2) (hsl : (lg_sl (.ref b :: av)).length ≤ M'.2.2.1) (hcat : (rest.map fun v => v.category).sum ≤ 8) (h1' : cn + mc' ≤ mc) (h2' : sn + ms' ≤ ms)
    (kc : AW G M' d mc' ms' Q1 0 (lv_args 0 (.ref b :: av)) [] h 0 0) (kx : ∀ (E : String) (h1 : ax_H), Q1 (.inr E) h1 → ∃ hpc, ax_hd M pc E hpc ∧ ∀ q : Nat, AW G M (d + 1) mc ms Q hpc lv [.ref q] h1 (cn + mc') (sn + ms')) (kk : ∀ (v : Option Value) (h1 : ax_H), Q1 (.inl v) h1 → AW G M (d + 1) mc ms Q (pc + 3) lv (v.toList ++ rest) h1 (cn + mc') (sn + ms')) : AW G M (d + 1) mc ms Q pc lv (av.reverse ++ .ref b :: rest) h cn sn := by
  intro p e s m args below meth c R H locs ls E Rm Fx Hp hS hl hc hs
  obtain ⟨⟨o1, o2, o3, o4, o5, o6⟩, l1, l2, l3, l4, l5, T, N, l6⟩ := hlk
  obtain ⟨L, hL, hP, hD⟩ := id Hp
  obtain ⟨q0, hq0⟩ := ax_get0 (kc := G.2.2.1) hL hb
  have hrun := vx_runV (Ts := ax_all) (e := e) (below := below) (meth := meth) (locs := locs) (g := F0 m pc ls (av.reverse ++ .ref b :: rest)) (rest := rest) (As := av) ⟨E.1, E.2.1, E.2.2.2.1, E.2.2.2.2.1, E.2.2.2.2.2.1⟩ (ax_met o1 l1 hsl kc) (cwV M'.2.2.2.2.2 (C := M'.1.cls) (own := M.1.cls) (index := i) E.2.2.2.2.2.1 (ax_goodIn (ax_wsin l2 (fun w hw => by
      rcases List.mem_cons.mp hw with rfl | hw
      · exact l3
      · rcases List.mem_cons.mp hw with rfl | hw
        · exact l4
        · rcases List.mem_cons.mp hw with rfl | hw
          · exact l5
          · rcases List.mem_cons.mp hw with rfl | hw
            · exact o6
            · cases hw))) rfl rfl rfl ⟨rfl, o2, o3, o4⟩ ⟨by have := Rm.2.2.1; show d + 8 + 1 ≤ R.frames; omega, by have := Rm.2.2.2; show 8 + (M'.2.2.1 + 11) + (40 * d + 120) ≤ R.locals; omega⟩)
    ⟨ax_blind G _ h, va_recv Fx.1 hP l6 hq0, fun U hU hW => ⟨rfl, ax_fix_warm hW hU Fx hS, by rw [hU]; exact Hp⟩⟩ rfl hn hl.1 rfl (lv_room hcat) hd ⟨by rw [Rm.1]; exact h1', by rw [Rm.2.1]; exact h2'⟩
  refine ax_call0 hrun hS (fun E9 ce q9 h1 H1 locs1 q1 q2 q3 w1 w2 w3 => ?_) (fun v h1 H1 locs1 q1 q2 q3 => kk v h1 q1 p e s m args below meth c R H1 locs1 ls E Rm Fx q2 q3 hl h1' h2')
  obtain ⟨hpc, ⟨pre, x, suf, e1, e2, e3, e4, e5, e6, rfl⟩, kx⟩ := kx E9 h1 q1
  exact vx_catch E.2.2.2.2.1 pre x suf (E.2.2.2.2.2.2.2.1.trans e1) (fun z hz => (e2 z hz).elim Or.inl (fun ⟨g1, nm, g2, g3⟩ => Or.inr ⟨g1, nm, E.2.2.2.2.2.1 _ g2, Fx.2.2.2.2.2.2.2.2.2.1 _ g3⟩)) e3 e4 (E.2.2.2.2.2.1 _ e5) (va_Nw.use (ax_bad_on _ e6) (Fx.2.2.2.2.2.2.2.2.2.2.1 _ e6)) w1 w2 w3 (kx q9 p e s m args below meth c R H1 locs1 ls E Rm Fx q2 q3 hl h1' h2')
theorem hdL_addConstructor_IOB : ax_hd mL_addConstructor 11 "java/lang/IndexOutOfBoundsException" 19 := ⟨[], ⟨0, 16, 19, 25⟩, [⟨0, 16, 23, 13⟩, ⟨0, 16, 27, 19⟩], rfl, (fun z hz => by cases hz), by decide, by decide, hkIOB, by decide, rfl⟩
theorem hdL_addConstructor_IAE : ax_hd mL_addConstructor 11 "java/lang/IllegalArgumentException" 23 := ⟨[⟨0, 16, 19, 25⟩], ⟨0, 16, 23, 13⟩, [⟨0, 16, 27, 19⟩], rfl, (fun z hz => by
    simp only [List.mem_cons, List.not_mem_nil, or_false] at hz
    rcases hz with rfl
    · exact Or.inr ⟨by decide, _, hkIOB, by decide⟩), by decide, by decide, hkIAE, by decide, rfl⟩
theorem hdL_addConstructor_ISE : ax_hd mL_addConstructor 11 "java/lang/IllegalStateException" 27 := ⟨[⟨0, 16, 19, 25⟩, ⟨0, 16, 23, 13⟩], ⟨0, 16, 27, 19⟩, [], rfl, (fun z hz => by
    simp only [List.mem_cons, List.not_mem_nil, or_false] at hz
    rcases hz with rfl | rfl
    · exact Or.inr ⟨by decide, _, hkIOB, by decide⟩
    · exact Or.inr ⟨by decide, _, hkIAE, by decide⟩), by decide, by decide, hkISE, by decide, rfl⟩
theorem hdL_addType_ISE : ax_hd mL_addType 3 "java/lang/IllegalStateException" 11 := ⟨[], ⟨0, 8, 11, 19⟩, [], rfl, (fun z hz => by cases hz), by decide, by decide, hkISE, by decide, rfl⟩
theorem hdL_code_ISE : ax_hd mL_code 4 "java/lang/IllegalStateException" 12 := ⟨[], ⟨0, 9, 12, 19⟩, [⟨0, 9, 15, 25⟩], rfl, (fun z hz => by cases hz), by decide, by decide, hkISE, by decide, rfl⟩
theorem hdL_code_IOB : ax_hd mL_code 4 "java/lang/IndexOutOfBoundsException" 15 := ⟨[⟨0, 9, 12, 19⟩], ⟨0, 9, 15, 25⟩, [], rfl, (fun z hz => by
    simp only [List.mem_cons, List.not_mem_nil, or_false] at hz
    rcases hz with rfl
    · exact Or.inr ⟨by decide, _, hkISE, by decide⟩), by decide, by decide, hkIOB, by decide, rfl⟩
theorem hdL_count_IOB : ax_hd mL_count 5 "java/lang/IndexOutOfBoundsException" 13 := ⟨[], ⟨0, 10, 13, 25⟩, [⟨0, 10, 17, 13⟩, ⟨0, 10, 21, 19⟩], rfl, (fun z hz => by cases hz), by decide, by decide, hkIOB, by decide, rfl⟩
theorem hdL_count_IAE : ax_hd mL_count 5 "java/lang/IllegalArgumentException" 17 := ⟨[⟨0, 10, 13, 25⟩], ⟨0, 10, 17, 13⟩, [⟨0, 10, 21, 19⟩], rfl, (fun z hz => by
    simp only [List.mem_cons, List.not_mem_nil, or_false] at hz
    rcases hz with rfl
    · exact Or.inr ⟨by decide, _, hkIOB, by decide⟩), by decide, by decide, hkIAE, by decide, rfl⟩
theorem hdL_count_ISE : ax_hd mL_count 5 "java/lang/IllegalStateException" 21 := ⟨[⟨0, 10, 13, 25⟩, ⟨0, 10, 17, 13⟩], ⟨0, 10, 21, 19⟩, [], rfl, (fun z hz => by
    simp only [List.mem_cons, List.not_mem_nil, or_false] at hz
    rcases hz with rfl | rfl
    · exact Or.inr ⟨by decide, _, hkIOB, by decide⟩
    · exact Or.inr ⟨by decide, _, hkIAE, by decide⟩), by decide, by decide, hkISE, by decide, rfl⟩
theorem hdL_draw_IOB : ax_hd mL_draw 7 "java/lang/IndexOutOfBoundsException" 15 := ⟨[], ⟨0, 12, 15, 25⟩, [⟨0, 12, 19, 13⟩, ⟨0, 12, 23, 19⟩, ⟨0, 12, 27, 45⟩], rfl, (fun z hz => by cases hz), by decide, by decide, hkIOB, by decide, rfl⟩
theorem hdL_draw_IAE : ax_hd mL_draw 7 "java/lang/IllegalArgumentException" 19 := ⟨[⟨0, 12, 15, 25⟩], ⟨0, 12, 19, 13⟩, [⟨0, 12, 23, 19⟩, ⟨0, 12, 27, 45⟩], rfl, (fun z hz => by
    simp only [List.mem_cons, List.not_mem_nil, or_false] at hz
    rcases hz with rfl
    · exact Or.inr ⟨by decide, _, hkIOB, by decide⟩), by decide, by decide, hkIAE, by decide, rfl⟩
theorem hdL_draw_ISE : ax_hd mL_draw 7 "java/lang/IllegalStateException" 23 := ⟨[⟨0, 12, 15, 25⟩, ⟨0, 12, 19, 13⟩], ⟨0, 12, 23, 19⟩, [⟨0, 12, 27, 45⟩], rfl, (fun z hz => by
    simp only [List.mem_cons, List.not_mem_nil, or_false] at hz
    rcases hz with rfl | rfl
    · exact Or.inr ⟨by decide, _, hkIOB, by decide⟩
    · exact Or.inr ⟨by decide, _, hkIAE, by decide⟩), by decide, by decide, hkISE, by decide, rfl⟩
theorem hdL_draw_NSE : ax_hd mL_draw 7 "java/util/NoSuchElementException" 27 := ⟨[⟨0, 12, 15, 25⟩, ⟨0, 12, 19, 13⟩, ⟨0, 12, 23, 19⟩], ⟨0, 12, 27, 45⟩, [], rfl, (fun z hz => by
    simp only [List.mem_cons, List.not_mem_nil, or_false] at hz
    rcases hz with rfl | rfl | rfl
    · exact Or.inr ⟨by decide, _, hkIOB, by decide⟩
    · exact Or.inr ⟨by decide, _, hkIAE, by decide⟩
    · exact Or.inr ⟨by decide, _, hkISE, by decide⟩), by decide, by decide, hkNSE, by decide, rfl⟩
theorem hdL_firstAgainst_IOB : ax_hd mL_firstAgainst 7 "java/lang/IndexOutOfBoundsException" 15 := ⟨[], ⟨0, 12, 15, 25⟩, [⟨0, 12, 19, 13⟩, ⟨0, 12, 23, 19⟩], rfl, (fun z hz => by cases hz), by decide, by decide, hkIOB, by decide, rfl⟩
theorem hdL_firstAgainst_IAE : ax_hd mL_firstAgainst 7 "java/lang/IllegalArgumentException" 19 := ⟨[⟨0, 12, 15, 25⟩], ⟨0, 12, 19, 13⟩, [⟨0, 12, 23, 19⟩], rfl, (fun z hz => by
    simp only [List.mem_cons, List.not_mem_nil, or_false] at hz
    rcases hz with rfl
    · exact Or.inr ⟨by decide, _, hkIOB, by decide⟩), by decide, by decide, hkIAE, by decide, rfl⟩
theorem hdL_firstAgainst_ISE : ax_hd mL_firstAgainst 7 "java/lang/IllegalStateException" 23 := ⟨[⟨0, 12, 15, 25⟩, ⟨0, 12, 19, 13⟩], ⟨0, 12, 23, 19⟩, [], rfl, (fun z hz => by
    simp only [List.mem_cons, List.not_mem_nil, or_false] at hz
    rcases hz with rfl | rfl
    · exact Or.inr ⟨by decide, _, hkIOB, by decide⟩
    · exact Or.inr ⟨by decide, _, hkIAE, by decide⟩), by decide, by decide, hkISE, by decide, rfl⟩
theorem hdL_height_ISE : ax_hd mL_height 3 "java/lang/IllegalStateException" 11 := ⟨[], ⟨0, 8, 11, 19⟩, [], rfl, (fun z hz => by cases hz), by decide, by decide, hkISE, by decide, rfl⟩
theorem hdL_holds_ISE : ax_hd mL_holds 4 "java/lang/IllegalStateException" 19 := ⟨[], ⟨0, 16, 19, 19⟩, [⟨0, 16, 22, 13⟩], rfl, (fun z hz => by cases hz), by decide, by decide, hkISE, by decide, rfl⟩
theorem hdL_holds_IAE : ax_hd mL_holds 4 "java/lang/IllegalArgumentException" 22 := ⟨[⟨0, 16, 19, 19⟩], ⟨0, 16, 22, 13⟩, [], rfl, (fun z hz => by
    simp only [List.mem_cons, List.not_mem_nil, or_false] at hz
    rcases hz with rfl
    · exact Or.inr ⟨by decide, _, hkISE, by decide⟩), by decide, by decide, hkIAE, by decide, rfl⟩
theorem hdL_length_ISE : ax_hd mL_length 3 "java/lang/IllegalStateException" 11 := ⟨[], ⟨0, 8, 11, 19⟩, [], rfl, (fun z hz => by cases hz), by decide, by decide, hkISE, by decide, rfl⟩
theorem hdL_mean_ISE : ax_hd mL_mean 3 "java/lang/IllegalStateException" 10 := ⟨[], ⟨0, 7, 10, 19⟩, [], rfl, (fun z hz => by cases hz), by decide, by decide, hkISE, by decide, rfl⟩
theorem hdL_number_ISE : ax_hd mL_number 3 "java/lang/IllegalStateException" 11 := ⟨[], ⟨0, 8, 11, 19⟩, [], rfl, (fun z hz => by cases hz), by decide, by decide, hkISE, by decide, rfl⟩
theorem hdL_read_IOB : ax_hd mL_read 4 "java/lang/IndexOutOfBoundsException" 12 := ⟨[], ⟨0, 9, 12, 25⟩, [⟨0, 9, 15, 19⟩], rfl, (fun z hz => by cases hz), by decide, by decide, hkIOB, by decide, rfl⟩
theorem hdL_read_ISE : ax_hd mL_read 4 "java/lang/IllegalStateException" 15 := ⟨[⟨0, 9, 12, 25⟩], ⟨0, 9, 15, 19⟩, [], rfl, (fun z hz => by
    simp only [List.mem_cons, List.not_mem_nil, or_false] at hz
    rcases hz with rfl
    · exact Or.inr ⟨by decide, _, hkIOB, by decide⟩), by decide, by decide, hkISE, by decide, rfl⟩
theorem hdL_reduce_ISE : ax_hd mL_reduce 4 "java/lang/IllegalStateException" 12 := ⟨[], ⟨0, 9, 12, 19⟩, [⟨0, 9, 15, 13⟩], rfl, (fun z hz => by cases hz), by decide, by decide, hkISE, by decide, rfl⟩
theorem hdL_reduce_IAE : ax_hd mL_reduce 4 "java/lang/IllegalArgumentException" 15 := ⟨[⟨0, 9, 12, 19⟩], ⟨0, 9, 15, 13⟩, [], rfl, (fun z hz => by
    simp only [List.mem_cons, List.not_mem_nil, or_false] at hz
    rcases hz with rfl
    · exact Or.inr ⟨by decide, _, hkISE, by decide⟩), by decide, by decide, hkIAE, by decide, rfl⟩
theorem hdL_reduction_ISE : ax_hd mL_reduction 4 "java/lang/IllegalStateException" 12 := ⟨[], ⟨0, 9, 12, 19⟩, [⟨0, 9, 15, 25⟩], rfl, (fun z hz => by cases hz), by decide, by decide, hkISE, by decide, rfl⟩
theorem hdL_reduction_IOB : ax_hd mL_reduction 4 "java/lang/IndexOutOfBoundsException" 15 := ⟨[⟨0, 9, 12, 19⟩], ⟨0, 9, 15, 25⟩, [], rfl, (fun z hz => by
    simp only [List.mem_cons, List.not_mem_nil, or_false] at hz
    rcases hz with rfl
    · exact Or.inr ⟨by decide, _, hkISE, by decide⟩), by decide, by decide, hkIOB, by decide, rfl⟩
theorem hdL_reductionCount_ISE : ax_hd mL_reductionCount 3 "java/lang/IllegalStateException" 11 := ⟨[], ⟨0, 8, 11, 19⟩, [], rfl, (fun z hz => by cases hz), by decide, by decide, hkISE, by decide, rfl⟩
theorem hdL_select_IOB : ax_hd mL_select 5 "java/lang/IndexOutOfBoundsException" 13 := ⟨[], ⟨0, 10, 13, 25⟩, [⟨0, 10, 17, 19⟩], rfl, (fun z hz => by cases hz), by decide, by decide, hkIOB, by decide, rfl⟩
theorem hdL_select_ISE : ax_hd mL_select 5 "java/lang/IllegalStateException" 17 := ⟨[⟨0, 10, 13, 25⟩], ⟨0, 10, 17, 19⟩, [], rfl, (fun z hz => by
    simp only [List.mem_cons, List.not_mem_nil, or_false] at hz
    rcases hz with rfl
    · exact Or.inr ⟨by decide, _, hkIOB, by decide⟩), by decide, by decide, hkISE, by decide, rfl⟩
theorem hdL_setRange_IAE : ax_hd mL_setRange 5 "java/lang/IllegalArgumentException" 20 := ⟨[], ⟨0, 17, 20, 13⟩, [], rfl, (fun z hz => by cases hz), by decide, by decide, hkIAE, by decide, rfl⟩
theorem hdL_tell_IAE : ax_hd mL_tell 4 "java/lang/IllegalArgumentException" 12 := ⟨[], ⟨0, 9, 12, 13⟩, [⟨0, 9, 15, 19⟩], rfl, (fun z hz => by cases hz), by decide, by decide, hkIAE, by decide, rfl⟩
theorem hdL_tell_ISE : ax_hd mL_tell 4 "java/lang/IllegalStateException" 15 := ⟨[⟨0, 9, 12, 13⟩], ⟨0, 9, 15, 19⟩, [], rfl, (fun z hz => by
    simp only [List.mem_cons, List.not_mem_nil, or_false] at hz
    rcases hz with rfl
    · exact Or.inr ⟨by decide, _, hkIAE, by decide⟩), by decide, by decide, hkISE, by decide, rfl⟩
theorem hdL_total_IOB : ax_hd mL_total 5 "java/lang/IndexOutOfBoundsException" 13 := ⟨[], ⟨0, 10, 13, 25⟩, [⟨0, 10, 17, 13⟩, ⟨0, 10, 21, 19⟩], rfl, (fun z hz => by cases hz), by decide, by decide, hkIOB, by decide, rfl⟩
theorem hdL_total_IAE : ax_hd mL_total 5 "java/lang/IllegalArgumentException" 17 := ⟨[⟨0, 10, 13, 25⟩], ⟨0, 10, 17, 13⟩, [⟨0, 10, 21, 19⟩], rfl, (fun z hz => by
    simp only [List.mem_cons, List.not_mem_nil, or_false] at hz
    rcases hz with rfl
    · exact Or.inr ⟨by decide, _, hkIOB, by decide⟩), by decide, by decide, hkIAE, by decide, rfl⟩
theorem hdL_total_ISE : ax_hd mL_total 5 "java/lang/IllegalStateException" 21 := ⟨[⟨0, 10, 13, 25⟩, ⟨0, 10, 17, 13⟩], ⟨0, 10, 21, 19⟩, [], rfl, (fun z hz => by
    simp only [List.mem_cons, List.not_mem_nil, or_false] at hz
    rcases hz with rfl | rfl
    · exact Or.inr ⟨by decide, _, hkIOB, by decide⟩
    · exact Or.inr ⟨by decide, _, hkIAE, by decide⟩), by decide, by decide, hkISE, by decide, rfl⟩
