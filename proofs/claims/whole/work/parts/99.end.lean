/-! ===== the claim out of the law's own run ===== -/
def lw_P (b : Addr) (xs : List Int32) (args : Array Value) (s : State) : Prop := args = #[.ref b] ∧ s.IntsAt b xs ∧ xs.length ≤ 3072 ∧ (Jvm.Cond.and given_1 narrow_1).before args s = true
theorem lw_closed {s t : State} {o : Outcome} {d0 : Drawn} {L : List Loc} {k n : Nat} (hd0 : s.drawn.sameBut d0 lw_cs) (hv : ∃ v, o = .returned v) (hW : (s.setDrawn d0).WarmedH t.vm) (hs : (s.setDrawn d0).sameButNew ({ t with vm := s.vm } : State) L k n) : State.butDraws s t lw_cs (fun t1 => Framed s o t1 L k n) := by
  have h2 : t.drawn = d0 := congrArg State.drawn hs.1
  refine ⟨⟨hv, hW, State.sameButNew.setDrawn hs s.drawn⟩, ?_, by decide⟩
  rw [h2]
  exact hd0
def lw_Q (_ : Array Value) (s : State) (o : Outcome) (t : State) : Prop := o = .returned (some (.int 1)) ∧ State.butDraws s t lw_cs (fun t1 => Framed s o t1 [] 694440 7012785)
theorem ax_i0 : Cond.instantiable RX0 2 ∈ ax_all := ax_t1 (i := 208) rfl rfl
theorem ax_i1 : Cond.instantiable RX1 8 ∈ ax_all := ax_t1 (i := 27) rfl rfl
theorem ax_i2 : Cond.instantiable RX2 2 ∈ ax_all := ax_t1 (i := 222) rfl rfl
theorem ax_i3 : Cond.instantiable RX3 10 ∈ ax_all := ax_t1 (i := 68) rfl rfl
theorem ax_i4 : Cond.instantiable RX4 6 ∈ ax_all := ax_t1 (i := 180) rfl rfl
theorem ax_i5 : Cond.instantiable RX5 16 ∈ ax_all := ax_t1 (i := 75) rfl rfl
theorem ax_i6 : Cond.instantiable RX6 6 ∈ ax_all := ax_t1 (i := 19) rfl rfl
theorem ax_i7 : Cond.instantiable RX7 25 ∈ ax_all := ax_t4 (i := 59) rfl rfl
theorem ax_cls {s : State} {args : Array Value} (hts : ∀ w ∈ lw_tbl, w.before args s = true) : ∃ (dC : Nat → ClassId) (dI : Nat → Nat → Nat), ∀ (k : Nat) (q : vw_C), vwCl[k]? = some q → u_Kn s q.1 q.2.1 q.2.2 (dC k) (dI k) := by
  have hall : ∀ w ∈ ax_all, w.before args s = true := fun w hw => hts w (List.mem_filter.mp hw).1
  obtain ⟨c0, i0, h0⟩ := u_known (C := RX0) (T := TX0) (N := 2) (n := 2) hall inA0 (hall _ (ax_i0))
  obtain ⟨c1, i1, h1⟩ := u_known (C := RX1) (T := TX1) (N := 8) (n := 8) hall inA1 (hall _ (ax_i1))
  obtain ⟨c2, i2, h2⟩ := u_known (C := RX2) (T := TX2) (N := 2) (n := 2) hall inA2 (hall _ (ax_i2))
  obtain ⟨c3, i3, h3⟩ := u_known (C := RX3) (T := TX3) (N := 10) (n := 10) hall inA3 (hall _ (ax_i3))
  obtain ⟨c4, i4, h4⟩ := u_known (C := RX4) (T := TX4) (N := 6) (n := 6) hall inA4 (hall _ (ax_i4))
  obtain ⟨c5, i5, h5⟩ := u_known (C := RX5) (T := TX5) (N := 16) (n := 16) hall inA5 (hall _ (ax_i5))
  obtain ⟨c6, i6, h6⟩ := u_known (C := RX6) (T := TX6) (N := 6) (n := 6) hall inA6 (hall _ (ax_i6))
  obtain ⟨c7, i7, h7⟩ := u_known (C := RX7) (T := TX7) (N := 25) (n := 25) hall inA7 (hall _ (ax_i7))
  refine ⟨fun k => match k with | 0 => c0 | 1 => c1 | 2 => c2 | 3 => c3 | 4 => c4 | 5 => c5 | 6 => c6 | _ => c7, fun k => match k with | 0 => i0 | 1 => i1 | 2 => i2 | 3 => i3 | 4 => i4 | 5 => i5 | 6 => i6 | _ => i7, ?_⟩
  intro k q hq
  match k, hq with
  | 0, hq => cases hq; exact h0
  | 1, hq => cases hq; exact h1
  | 2, hq => cases hq; exact h2
  | 3, hq => cases hq; exact h3
  | 4, hq => cases hq; exact h4
  | 5, hq => cases hq; exact h5
  | 6, hq => cases hq; exact h6
  | 7, hq => cases hq; exact h7
  | k + 8, hq => simp [vwCl] at hq
theorem ax_strs_tbl : ∀ q ∈ ax_strs, Cond.stringRef q.1 q.2.1 q.2.2 ∈ lw_tbl := by decide +kernel
theorem ax_strs_own : ∀ q ∈ ax_strs, q.1 = RX6 := by decide +kernel
theorem ax_bad_tbl : ∀ w ∈ ax_bad, w ∈ lw_tbl := by decide +kernel
theorem ax_AOof {args : Array Value} {s : State} (h : (Cond.arrayOver (.array .int)).before args s = true) : ax_AO s := h
theorem ax_kcs {s : State} {args : Array Value} (hts : ∀ w ∈ lw_tbl, w.before args s = true) : ∃ kc : Nat → ClassId, (∀ (k : Nat) (q : ClassId × FieldType), (ax_tys kc)[k]? = some q → ArrOfT s q.1 q.2 ∧ va_RA s q.1 q.2) ∧ (∃ k : Class, s.vm.classes[kc 4]? = some k ∧ k.kind = .array (kc 0) (.array .int)) ∧ va_AO "DataMaker$Value" s ∧ ax_AO s := by
  have hall : ∀ w ∈ ax_all, w.before args s = true := fun w hw => hts w (List.mem_filter.mp hw).1
  obtain ⟨c0, k0, d0, a0, b0, e0⟩ := Cond.arrayClass_spec (hall _ ax_aI)
  obtain ⟨c1, k1, d1, a1, b1, e1⟩ := Cond.arrayClass_spec (hall _ ax_aJ)
  obtain ⟨c2, k2, d2, a2, b2, e2⟩ := Cond.arrayClass_spec (hall _ ax_aD)
  have hO : (Cond.arrayOver (.object "DataMaker$Value")).before args s = true := hts _ (by decide +kernel)
  have hA : (Cond.arrayOver (.array .int)).before args s = true := hts _ (by decide +kernel)
  obtain ⟨p3, c3, k3, a3, -, b3, e3, f3⟩ := Cond.arrayOver_spec hO
  obtain ⟨p4, c4, k4, a4, -, b4, e4, f4⟩ := arrayOverA_spec hA
  have hp4 : p4 = c0 := Option.some.inj (a4.symm.trans a0)
  subst hp4
  refine ⟨fun k => match k with | 0 => p4 | 1 => c1 | 2 => c2 | 3 => c3 | _ => c4, ?_, ⟨k4, b4, e4⟩, va_AO.of hO, ax_AOof hA⟩
  intro k q hq
  match k, hq with
  | 0, hq => cases hq; exact ⟨fun n z => ⟨(fun _ h => by cases h), k0, b0, d0, e0⟩, a0⟩
  | 1, hq => cases hq; exact ⟨fun n z => ⟨(fun _ h => by cases h), k1, b1, d1, e1⟩, a1⟩
  | 2, hq => cases hq; exact ⟨fun n z => ⟨(fun _ h => by cases h), k2, b2, d2, e2⟩, a2⟩
  | 3, hq => cases hq; exact ⟨fun n z => ⟨(fun _ h => by cases h), k3, b3, p3, e3⟩, k3, p3, b3, e3, a3, f3⟩
  | 4, hq => cases hq; exact ⟨fun n z => ⟨(fun _ h => by cases h), k4, b4, p4, e4⟩, f4⟩
  | k + 5, hq => simp [ax_tys] at hq
theorem ax_ncs_in : ∀ q ∈ ax_ncs, Cond.not (.castable q.1 q.2) ∈ flatC (Jvm.Cond.and given_1 narrow_1) := by decide +kernel
set_option maxHeartbeats 4000000 in
theorem ax_walk (hlaw : ax_law) (l : Launch) (hflags : l.flags = flags0) (b : Addr) (xs : List Int32) : MetFree l x (headSpec (Jvm.Cond.code x code maxLocals ret :: tables_1) room_1) (lw_P b xs) (fun _ _ _ _ _ => True) lw_Q := by
  refine MetFree.of_bodyS (code := code) (maxLocals := maxLocals) (ret := ret) (by decide) ?_ ?_
  · intro args s m h hn
    obtain ⟨meth, c, h1, h2, h3, h4, h5, h6, -, -⟩ := Cond.code_spec hn (atoms_spec (ws := Jvm.Cond.code x code maxLocals ret :: tables_1) h _ List.mem_cons_self)
    exact ⟨meth, c, h1, h2, h3, h4, h5, h6⟩
  · intro p e s m args below meth c s₁ B hml0 hP _
    obtain ⟨rfl, hx, hbd, hgv⟩ := hP
    obtain ⟨scr, harrAt, hlist, hof, hsmall⟩ := hx
    obtain ⟨hcb, hkn, -, -⟩ := State.arrayAt?_spec harrAt
    have hts0 : ∀ c ∈ (Jvm.Cond.code x code maxLocals ret :: tables_1), c.before #[Value.ref b] s = true := atoms_spec (ws := Jvm.Cond.code x code maxLocals ret :: tables_1) B.pre
    have hts : ∀ w ∈ lw_tbl, w.before #[Value.ref b] s = true := k2_hts_sels lw_privs (fun w hw => hts0 w (List.mem_cons_of_mem _ hw)) lw_privs_ok
    have hml : c.maxLocals = 9 := B.maxLocals_eq (hts0 _ List.mem_cons_self)
    have hh0 : s₁.heap = s.heap := by rw [B.state]; rfl
    have hsz : scr.slots.size = xs.length := by rw [← Array.length_toList, hlist, List.length_map]
    have hval : ∀ j : Nat, j < xs.length → scr.slots[j]? = some (.int (xs.getD j 0)) := fun j hj => by
      rw [← Array.getElem?_toList, hlist]
      simp [hj]
    have hbl : b < s.heap.size := (Array.getElem?_eq_some_iff.mp hcb).1
    have hX : va_X b xs.length (fun j => xs.getD j 0) s s.heap := ⟨scr, hcb, hof, hkn, hsz, hval⟩
    have hT : c.exceptionTable.toList = [] := by
      obtain ⟨meth9, c9, h1, h2, -, -, -, -, h7, -⟩ := Cond.code_spec B.named (hts0 _ List.mem_cons_self)
      cases Option.some.inj (h1.symm.trans B.method)
      cases Option.some.inj (h2.symm.trans (Stand.of_body B).code)
      rw [Array.isEmpty_iff.mp h7]
    obtain ⟨dC, dI, hKc⟩ := ax_cls hts
    obtain ⟨kc, hk1, hk2, hk3, hk4⟩ := ax_kcs hts
    have hs := flat_of_before _ hgv
    have hst : l.stackTraces = false := by
      unfold Launch.stackTraces
      rw [hflags]
      decide +kernel
    let G : ax_G := (l, (dC, dI), kc, s.heap.size, b, xs.length, fun j => xs.getD j 0)
    have hAn : ∀ a : Nat, a < s.heap.size → ¬ ax_A G a := fun a h => Nat.not_le.mpr h
    have Fx : ax_fix G s s.heap := by
      refine ⟨⟨hKc, hk1⟩, hk2, Nat.le_refl _, hst, hbl, hX, vx_Zqof (hts _ (by decide +kernel)) (hts _ (by decide +kernel)) (hs _ (by decide +kernel)) hAn, vx_Zqof (hts _ (by decide +kernel)) (hts _ (by decide +kernel)) (hs _ (by decide +kernel)) hAn, fun q hq => ?_, fun q hq => ?_, fun w hw => va_Nw.of (ax_bad_on w hw) (hts _ (ax_bad_tbl w hw)), hk3, hk4⟩
      · have h1 := hts _ (ax_strs_tbl q hq)
        have ho : q.1 = RX6 := ax_strs_own q hq
        obtain ⟨_, _, _, sa, _, _, _, _, _, hev⟩ := Cond.stringRef_spec (by rw [ho]; exact (hKc 6 (RX6, TX6, 6) rfl).2.1) h1
        exact ⟨sa, vk_R.of h1 hev⟩
      · exact va_Nc.of (hs _ (ax_ncs_in q hq))
    have K := hlaw G hbd p e s m #[Value.ref b] below meth c room_1 s.heap [] _ ⟨B.exec, B.bytes, B.returns, hml, findClass_of_methodNamed B.named, fun w hw => hts w (List.mem_filter.mp hw).1, B.notSynchronized, by rw [hT]; rfl, (name_of_methodNamed B.named B.method).1⟩ ⟨rfl, rfl, by decide, by decide⟩ Fx ⟨[], fun a => by simp, fun k q h => by simp [va_pl] at h, ⟨fun i j p q h => by simp [va_pl] at h, fun k q h => by simp [va_pl] at h⟩⟩ va_S.rf (lv_entry ([.ref b]) (n := 9) (Nat.le_of_ble_eq_true rfl)) (Nat.zero_le _) (Nat.zero_le _)
    rw [← lg_entry_eq] at K
    obtain ⟨t, a1, o, b1, b2, b3⟩ := K s₁ hh0 (Stand.of_body B)
    rcases b3 with ⟨⟨v, h9, rfl, hq, -, -⟩, L, hfe, hL⟩ | ⟨q, rfl, E, ce, L, ⟨h9, hq, -⟩, -⟩
    · cases hq
      obtain ⟨hv9, hW9, q1, q2, q3, q4, q5, q6⟩ := hfe
      refine ⟨t, _, a1, b1, b2, rfl, lw_closed (d0 := s.drawn) (Drawn.sameBut.refl s.drawn lw_cs) ⟨_, rfl⟩ hW9 ⟨q1, q2, q3, q4, q5, fun a c9 hc9 => ?_⟩⟩
      obtain ⟨c', g1, g2, g3, g4⟩ := q6 a c9 hc9
      exact ⟨c', g1, g2, g3, fun i _ => g4 i (fun hin => absurd (hL _ hin) (hAn a (Array.getElem?_eq_some_iff.mp hc9).1))⟩
    · cases hq
theorem lw_pre_spec {args : Array Value} {s : State} (h : (Jvm.Cond.and given_1 narrow_1).before args s = true) (hr : rest_1_c.before args s = true) : ∃ (b : Addr) (xs : List Int32), lw_P b xs args s := by
  have hs := flat_of_before _ h
  have hq := flat_of_before _ hr
  have hc : (Cond.count 1).before args s = true := hs _ (by decide +kernel)
  have harr : (Cond.arrayOf (.arg 0) .int).before args s = true := hs _ (by decide +kernel)
  have hle : (Cond.le (.length (.arg 0)) (.int 3072)).before args s = true := hs _ (by decide +kernel)
  have hlen : (Cond.isInt (.length (.arg 0))).before args s = true := hq _ (by decide +kernel)
  have hall : (Cond.all (.arg 0) (.isInt (.elem (.arg 0) (.index 0)))).before args s = true := hq _ (by decide +kernel)
  obtain ⟨b, xs, hb, hx⟩ := State.ints_of_pre rfl harr hlen hall
  have hsm : xs.length < 2 ^ 31 := hx.choose_spec.2.2.2
  have hev : (Term.length (.arg 0)).eval args s none [] s = some (.int xs.length.toInt32) := hx.length_eval hb
  have hv := Cond.le_ints hev (show (Term.int 3072).eval args s none [] s = some (.int 3072) from rfl)
  have hd : xs.length.toInt32 ≤ 3072 := by
    simpa [Cond.before, Cond.holds, hv] using hle
  have hN : xs.length ≤ 3072 := (Int32.ofNat_le_ofNat hsm (by decide)).mp (show Int32.ofNat xs.length ≤ Int32.ofNat 3072 from hd)
  exact ⟨b, xs, Cond.one_arg hc (show args[0]? = some (.ref b) from hb), hx, hN, h⟩
theorem lw_comes (hlaw : ax_law) (l : Launch) (hflags : l.flags = flags0) : Comes l x (Jvm.Cond.code x code maxLocals ret :: tables_1) room_1 (fun tb e args s => Calls_1 tb e args s ∧ rest_1 tb e args s ∧ Pre_1 tb e args s)
    (fun _ _ args s o t => lw_Q args s o t) := by
  intro p e ha hc hk s m args below hf hfit hheap happ hpre
  obtain ⟨b, xs, hP⟩ := lw_pre_spec hpre.2.2 hpre.2.1
  obtain ⟨k, o, h1, h2, h3, hQ⟩ := ax_walk hlaw l hflags b xs p e ha hc hk s m args below hf ((Spec.applies_iff_loose hf).mp happ).1 hP trivial
  exact ⟨k, o, h1, h2, h3, hQ⟩
theorem lw_frame {s t : State} {o : Outcome} {args : Array Value} (h : State.butDraws s t lw_cs (fun t1 => Framed s o t1 [] 694440 7012785)) :
    State.butDraws s t [Jvm.Choice.named "NaN.bits"] (fun t1 => Framed s o t1 (fieldLocs frame_1_writes args s ++ arrayLocs frame_1_arrays args s ++ staticLocs frame_1_statics s) 694440 7012785) := h
theorem lw_limb (hlaw : ax_law) (L : Cond) (hL : ∀ (args : Array Value) (s t : State), L.after args s (.returned (some (.int 1))) t = true) :
    ArmFor flags0 classFile x code maxLocals ret World_1 tables_1 room_1 Calls_1 rest_1 Pre_1
      (fun tb e a s o t => postC L tb e a s o t ∧ State.butDraws s t [Jvm.Choice.named "NaN.bits"] (fun t1 => Framed s o t1 (fieldLocs frame_1_writes a s ++ arrayLocs frame_1_arrays a s ++ staticLocs frame_1_statics s) 694440 7012785)) := by
  intro l hflags _ _ p e ha hc hk s m args below hf hfit hheap happ hpre
  obtain ⟨k, o, h1, h2, h3, rfl, hF⟩ := lw_comes hlaw l hflags p e ha hc hk s m args below hf hfit hheap happ hpre
  exact ⟨k, _, h1, h2, h3, hL args s _, lw_frame hF⟩
theorem ax_vc_open (hlaw : ax_law) : Claimed_1_1 ∧ Claimed_1_2 := ⟨lw_limb hlaw limb_1_1 (fun args s t => by simp [limb_1_1, Cond.after, Cond.holds, Cond.value]), lw_limb hlaw limb_1_2 (fun args s t => Cond.after_iff.mpr (by
  first | (rw [show limb_1_2 = Cond.eq .result (.int 1) from rfl, Cond.eq_ints (x := 1) (y := 1) rfl rfl]; simp; done) | (simp [limb_1_2, Cond.value, Term.eval]; done)))⟩
theorem i_vc : Claimed_1_1 ∧ Claimed_1_2 := ax_vc_open (lw_of rm_ok_all)
