/-! ===== the reference: digest, mean ===== -/
section RP8
variable {G : ax_G} {A : rw_Ad}

set_option maxRecDepth 100000 in
set_option maxHeartbeats 4000000 in
theorem rd_con1 (hA : rw_nd A) (d : Nat) (R : rw_S) (h : ax_H) {g : sp_G} (hg : rw_gr R g) (hw : sp_wg g) {c : Nat} {q : sp_C} (hc : g.2.2.2[c]? = some q) {D : Int64} {Q : ax_P} (kk : AW G mX7_digest (d + 48) 0 0 Q 47 [(0, .ref (A.1 0)), (1, .long (po_dg D (po_dgc q))), (3, .int (nI (c + 1)))] [] (rw_O A R h) 0 0) : AW G mX7_digest (d + 48) 0 0 Q 47 [(0, .ref (A.1 0)), (1, .long D), (3, .int (nI c))] [] (rw_O A R h) 0 0 := by
  have hcl := (List.getElem?_eq_some_iff.mp hc).1
  have hl6 := hw.2.2.2.1
  have hq := hg.2.2.2.2 c q hc
  refine ax_iload_n dX7_digest_47 rfl ?_
  refine ax_aload_n dX7_digest_48 rfl ?_
  refine ax_get (v := .int (nI g.2.2.2.length)) dX7_digest_49 fkX7_80 (rw_g0 hA) (congrArg (fun z => some (Value.int z)) (hg.2.2.2.1)) ?_
  refine ax_icmp_ge (tgt := 123) dX7_digest_52 (by decide) (fun z => absurd z (il_nle g.2.2.2.length c hcl)) (fun _ => ?_)
  refine ax_lload_n dX7_digest_55 rfl ?_
  refine ax_ldc2 dX7_digest_56 lcX7_187 ?_
  refine ax_lmul dX7_digest_59 ?_
  refine ax_aload_n dX7_digest_60 rfl ?_
  refine ax_get (v := .ref (A.1 1)) dX7_digest_61 fkX7_13 (rw_g0 hA) rfl ?_
  refine ax_iload_n dX7_digest_64 rfl ?_
  refine ax_ialdv (x := (nI q.1)) dX7_digest_65 (rw_g1 hA) (nI_in (by omega) (by decide)) (by rw [nI_clamp (by omega)]; exact hq.1) ?_
  refine ax_i2l dX7_digest_66 ?_
  refine ax_ladd dX7_digest_67 ?_
  refine ax_lstore_n dX7_digest_68 (by decide) ?_
  refine ax_sub (lv' := [(0, .ref (A.1 0)), (1, .long ((D * (31 : Int64)) + ((nI q.1).toInt64))), (3, .int (nI c))]) (fun _ z => z) ?_
  refine ax_iconst (v := 0) dX7_digest_69 (by decide) ?_
  refine ax_istore dX7_digest_70 (by decide) ?_
  refine ax_sub (lv' := [(0, .ref (A.1 0)), (1, .long ((D * (31 : Int64)) + ((nI q.1).toInt64))), (3, .int (nI c)), (4, .int 0)]) (fun _ z => z) ?_
  refine ax_iload dX7_digest_72 rfl ?_
  refine ax_iconst (v := 3) dX7_digest_74 (by decide) ?_
  refine ax_icmp_ge (tgt := 103) dX7_digest_75 (by decide) (fun z => absurd z (by decide)) (fun _ => ?_)
  refine ax_lload_n dX7_digest_78 rfl ?_
  refine ax_ldc2 dX7_digest_79 lcX7_187 ?_
  refine ax_lmul dX7_digest_82 ?_
  refine ax_aload_n dX7_digest_83 rfl ?_
  refine ax_get (v := .ref (A.1 2)) dX7_digest_84 fkX7_17 (rw_g0 hA) rfl ?_
  refine ax_iconst (v := 3) dX7_digest_87 (by decide) ?_
  refine ax_iload_n dX7_digest_88 rfl ?_
  refine ax_imul dX7_digest_89 ?_
  refine ax_top (y := (nI (3 * c))) ((pk_mul 3 c)) ?_
  refine ax_iload dX7_digest_90 rfl ?_
  refine ax_iadd dX7_digest_92 ?_
  refine ax_top (y := (nI (3 * c + 0))) (nI_add _ 0) ?_
  refine ax_ialdv (x := (sp_pI (sp_par q 0))) dX7_digest_93 (rw_g2 hA) (nI_in (by omega) (by decide)) (by rw [nI_clamp (by omega)]; exact hq.2.1 0 (by decide)) ?_
  refine ax_i2l dX7_digest_94 ?_
  refine ax_ladd dX7_digest_95 ?_
  refine ax_lstore_n dX7_digest_96 (by decide) ?_
  refine ax_sub (lv' := [(0, .ref (A.1 0)), (1, .long ((((D * (31 : Int64)) + ((nI q.1).toInt64)) * (31 : Int64)) + ((sp_pI (sp_par q 0)).toInt64))), (3, .int (nI c)), (4, .int 0)]) (fun _ z => z) ?_
  refine ax_iinc (v := 1) dX7_digest_97 rfl (by decide) (by decide) ?_
  refine ax_sub (lv' := [(0, .ref (A.1 0)), (1, .long ((((D * (31 : Int64)) + ((nI q.1).toInt64)) * (31 : Int64)) + ((sp_pI (sp_par q 0)).toInt64))), (3, .int (nI c)), (4, .int 1)]) (fun _ z => z) ?_
  refine ax_goto (tgt := 72) dX7_digest_100 (by decide) ?_
  refine ax_iload dX7_digest_72 rfl ?_
  refine ax_iconst (v := 3) dX7_digest_74 (by decide) ?_
  refine ax_icmp_ge (tgt := 103) dX7_digest_75 (by decide) (fun z => absurd z (by decide)) (fun _ => ?_)
  refine ax_lload_n dX7_digest_78 rfl ?_
  refine ax_ldc2 dX7_digest_79 lcX7_187 ?_
  refine ax_lmul dX7_digest_82 ?_
  refine ax_aload_n dX7_digest_83 rfl ?_
  refine ax_get (v := .ref (A.1 2)) dX7_digest_84 fkX7_17 (rw_g0 hA) rfl ?_
  refine ax_iconst (v := 3) dX7_digest_87 (by decide) ?_
  refine ax_iload_n dX7_digest_88 rfl ?_
  refine ax_imul dX7_digest_89 ?_
  refine ax_top (y := (nI (3 * c))) ((pk_mul 3 c)) ?_
  refine ax_iload dX7_digest_90 rfl ?_
  refine ax_iadd dX7_digest_92 ?_
  refine ax_top (y := (nI (3 * c + 1))) (nI_add _ 1) ?_
  refine ax_ialdv (x := (sp_pI (sp_par q 1))) dX7_digest_93 (rw_g2 hA) (nI_in (by omega) (by decide)) (by rw [nI_clamp (by omega)]; exact hq.2.1 1 (by decide)) ?_
  refine ax_i2l dX7_digest_94 ?_
  refine ax_ladd dX7_digest_95 ?_
  refine ax_lstore_n dX7_digest_96 (by decide) ?_
  refine ax_sub (lv' := [(0, .ref (A.1 0)), (1, .long ((((((D * (31 : Int64)) + ((nI q.1).toInt64)) * (31 : Int64)) + ((sp_pI (sp_par q 0)).toInt64)) * (31 : Int64)) + ((sp_pI (sp_par q 1)).toInt64))), (3, .int (nI c)), (4, .int 1)]) (fun _ z => z) ?_
  refine ax_iinc (v := 2) dX7_digest_97 rfl (by decide) (by decide) ?_
  refine ax_sub (lv' := [(0, .ref (A.1 0)), (1, .long ((((((D * (31 : Int64)) + ((nI q.1).toInt64)) * (31 : Int64)) + ((sp_pI (sp_par q 0)).toInt64)) * (31 : Int64)) + ((sp_pI (sp_par q 1)).toInt64))), (3, .int (nI c)), (4, .int 2)]) (fun _ z => z) ?_
  refine ax_goto (tgt := 72) dX7_digest_100 (by decide) ?_
  refine ax_iload dX7_digest_72 rfl ?_
  refine ax_iconst (v := 3) dX7_digest_74 (by decide) ?_
  refine ax_icmp_ge (tgt := 103) dX7_digest_75 (by decide) (fun z => absurd z (by decide)) (fun _ => ?_)
  refine ax_lload_n dX7_digest_78 rfl ?_
  refine ax_ldc2 dX7_digest_79 lcX7_187 ?_
  refine ax_lmul dX7_digest_82 ?_
  refine ax_aload_n dX7_digest_83 rfl ?_
  refine ax_get (v := .ref (A.1 2)) dX7_digest_84 fkX7_17 (rw_g0 hA) rfl ?_
  refine ax_iconst (v := 3) dX7_digest_87 (by decide) ?_
  refine ax_iload_n dX7_digest_88 rfl ?_
  refine ax_imul dX7_digest_89 ?_
  refine ax_top (y := (nI (3 * c))) ((pk_mul 3 c)) ?_
  refine ax_iload dX7_digest_90 rfl ?_
  refine ax_iadd dX7_digest_92 ?_
  refine ax_top (y := (nI (3 * c + 2))) (nI_add _ 2) ?_
  refine ax_ialdv (x := (sp_pI (sp_par q 2))) dX7_digest_93 (rw_g2 hA) (nI_in (by omega) (by decide)) (by rw [nI_clamp (by omega)]; exact hq.2.1 2 (by decide)) ?_
  refine ax_i2l dX7_digest_94 ?_
  refine ax_ladd dX7_digest_95 ?_
  refine ax_lstore_n dX7_digest_96 (by decide) ?_
  refine ax_sub (lv' := [(0, .ref (A.1 0)), (1, .long ((((((((D * (31 : Int64)) + ((nI q.1).toInt64)) * (31 : Int64)) + ((sp_pI (sp_par q 0)).toInt64)) * (31 : Int64)) + ((sp_pI (sp_par q 1)).toInt64)) * (31 : Int64)) + ((sp_pI (sp_par q 2)).toInt64))), (3, .int (nI c)), (4, .int 2)]) (fun _ z => z) ?_
  refine ax_iinc (v := 3) dX7_digest_97 rfl (by decide) (by decide) ?_
  refine ax_sub (lv' := [(0, .ref (A.1 0)), (1, .long ((((((((D * (31 : Int64)) + ((nI q.1).toInt64)) * (31 : Int64)) + ((sp_pI (sp_par q 0)).toInt64)) * (31 : Int64)) + ((sp_pI (sp_par q 1)).toInt64)) * (31 : Int64)) + ((sp_pI (sp_par q 2)).toInt64))), (3, .int (nI c)), (4, .int 3)]) (fun _ z => z) ?_
  refine ax_goto (tgt := 72) dX7_digest_100 (by decide) ?_
  refine ax_iload dX7_digest_72 rfl ?_
  refine ax_iconst (v := 3) dX7_digest_74 (by decide) ?_
  refine ax_icmp_ge (tgt := 103) dX7_digest_75 (by decide) (fun _ => ?_) (fun z => absurd (by decide) z)
  refine ax_lload_n dX7_digest_103 rfl ?_
  refine ax_ldc2 dX7_digest_104 lcX7_187 ?_
  refine ax_lmul dX7_digest_107 ?_
  refine ax_aload_n dX7_digest_108 rfl ?_
  refine ax_get (v := .ref (A.1 3)) dX7_digest_109 fkX7_20 (rw_g0 hA) rfl ?_
  refine ax_iload_n dX7_digest_112 rfl ?_
  refine ax_ialdv (x := (nI q.2.2.2.2)) dX7_digest_113 (rw_g3 hA) (nI_in (by omega) (by decide)) (by rw [nI_clamp (by omega)]; exact hq.2.2) ?_
  refine ax_i2l dX7_digest_114 ?_
  refine ax_ladd dX7_digest_115 ?_
  refine ax_lstore_n dX7_digest_116 (by decide) ?_
  refine ax_sub (lv' := [(0, .ref (A.1 0)), (1, .long ((((((((((D * (31 : Int64)) + ((nI q.1).toInt64)) * (31 : Int64)) + ((sp_pI (sp_par q 0)).toInt64)) * (31 : Int64)) + ((sp_pI (sp_par q 1)).toInt64)) * (31 : Int64)) + ((sp_pI (sp_par q 2)).toInt64)) * (31 : Int64)) + ((nI q.2.2.2.2).toInt64))), (3, .int (nI c)), (4, .int 3)]) (fun _ z => z) ?_
  refine ax_iinc (v := (nI (c + 1))) dX7_digest_117 rfl (nI_1 c) (by decide) ?_
  refine ax_sub (lv' := [(0, .ref (A.1 0)), (1, .long ((((((((((D * (31 : Int64)) + ((nI q.1).toInt64)) * (31 : Int64)) + ((sp_pI (sp_par q 0)).toInt64)) * (31 : Int64)) + ((sp_pI (sp_par q 1)).toInt64)) * (31 : Int64)) + ((sp_pI (sp_par q 2)).toInt64)) * (31 : Int64)) + ((nI q.2.2.2.2).toInt64))), (3, .int (nI (c + 1))), (4, .int 3)]) (fun _ z => z) ?_
  refine ax_goto (tgt := 47) dX7_digest_120 (by decide) ?_
  exact ax_sub (fun q hq => List.mem_append_left [(4, Value.int 3)] hq) kk
theorem rd_con2 (hA : rw_nd A) (d : Nat) (R : rw_S) (h : ax_H) {g : sp_G} (hg : rw_gr R g) (hw : sp_wg g) {D : Int64} {Q : ax_P} (kk : AW G mX7_digest (d + 48) 0 0 Q 123 [(0, .ref (A.1 0)), (1, .long D), (3, .int (nI g.2.2.2.length))] [] (rw_O A R h) 0 0) : AW G mX7_digest (d + 48) 0 0 Q 47 [(0, .ref (A.1 0)), (1, .long D), (3, .int (nI g.2.2.2.length))] [] (rw_O A R h) 0 0 := by
  have hl6 := hw.2.2.2.1
  refine ax_iload_n dX7_digest_47 rfl ?_
  refine ax_aload_n dX7_digest_48 rfl ?_
  refine ax_get (v := .int (nI g.2.2.2.length)) dX7_digest_49 fkX7_80 (rw_g0 hA) (congrArg (fun z => some (Value.int z)) (hg.2.2.2.1)) ?_
  refine ax_icmp_ge (tgt := 123) dX7_digest_52 (by decide) (fun _ => ?_) (fun z => absurd (il_le g.2.2.2.length g.2.2.2.length (Nat.le_refl _)) z)
  exact kk
theorem rd_con (hA : rw_nd A) (d : Nat) (R : rw_S) (h : ax_H) {g : sp_G} (hg : rw_gr R g) (hw : sp_wg g) {Q : ax_P} : ∀ (i c : Nat) (D : Int64), c + i = g.2.2.2.length → AW G mX7_digest (d + 48) 0 0 Q 123 [(0, .ref (A.1 0)), (1, .long (po_dg D ((g.2.2.2.drop c).flatMap po_dgc))), (3, .int (nI g.2.2.2.length))] [] (rw_O A R h) 0 0 → AW G mX7_digest (d + 48) 0 0 Q 47 [(0, .ref (A.1 0)), (1, .long D), (3, .int (nI c))] [] (rw_O A R h) 0 0 := by
  intro i
  induction i with
  | zero =>
    intro c D hc kk
    have hc : c = g.2.2.2.length := by omega
    subst hc
    rw [List.drop_length, List.flatMap_nil] at kk
    exact rd_con2 hA d R h hg hw kk
  | succ i ih =>
    intro c D hc kk
    have hl : c < g.2.2.2.length := by omega
    rw [List.drop_eq_getElem_cons hl, List.flatMap_cons, dg_app] at kk
    exact rd_con1 hA d R h hg hw (List.getElem?_eq_getElem hl) (ih (c + 1) _ (by omega) kk)

set_option maxRecDepth 100000 in
set_option maxHeartbeats 4000000 in
theorem rd_c1 (hA : rw_nd A) (d : Nat) (R : rw_S) (h : ax_H) {b : Nat} {f : Nat → Int32} {L : List Nat} (hb : rw_O A R h b = some (.inl (0, L.length, .inl f))) (hf : ∀ i x, L[i]? = some x → f i = nI x) (hl : L.length ≤ 32) {k : Nat} (hk : k < L.length) {D : Int64} {Q : ax_P} (kk : AW G mX7_digest (d + 48) 0 0 Q 166 [(0, .ref (A.1 0)), (1, .long (po_dg D [nI L[k]])), (3, .ref b), (4, .int (nI L.length)), (5, .int (nI (k + 1)))] [] (rw_O A R h) 0 0) : AW G mX7_digest (d + 48) 0 0 Q 166 [(0, .ref (A.1 0)), (1, .long D), (3, .ref b), (4, .int (nI L.length)), (5, .int (nI k))] [] (rw_O A R h) 0 0 := by
  refine ax_iload dX7_digest_166 rfl ?_
  refine ax_iload dX7_digest_168 rfl ?_
  refine ax_icmp_ge (tgt := 195) dX7_digest_170 (by decide) (fun z => absurd z (il_nle L.length k hk)) (fun _ => ?_)
  refine ax_aload_n dX7_digest_173 rfl ?_
  refine ax_iload dX7_digest_174 rfl ?_
  refine ax_ialdv (x := (nI L[k])) dX7_digest_176 hb (nI_in hk (by omega)) (by rw [nI_clamp (by omega)]; exact hf k _ (List.getElem?_eq_getElem hk)) ?_
  refine ax_istore dX7_digest_177 (by decide) ?_
  refine ax_sub (lv' := [(0, .ref (A.1 0)), (1, .long D), (3, .ref b), (4, .int (nI L.length)), (5, .int (nI k)), (6, .int (nI L[k]))]) (fun _ z => z) ?_
  refine ax_lload_n dX7_digest_179 rfl ?_
  refine ax_ldc2 dX7_digest_180 lcX7_187 ?_
  refine ax_lmul dX7_digest_183 ?_
  refine ax_iload dX7_digest_184 rfl ?_
  refine ax_i2l dX7_digest_186 ?_
  refine ax_ladd dX7_digest_187 ?_
  refine ax_lstore_n dX7_digest_188 (by decide) ?_
  refine ax_sub (lv' := [(0, .ref (A.1 0)), (1, .long ((D * (31 : Int64)) + ((nI L[k]).toInt64))), (3, .ref b), (4, .int (nI L.length)), (5, .int (nI k)), (6, .int (nI L[k]))]) (fun _ z => z) ?_
  refine ax_iinc (v := (nI (k + 1))) dX7_digest_189 rfl (nI_1 k) (by decide) ?_
  refine ax_sub (lv' := [(0, .ref (A.1 0)), (1, .long ((D * (31 : Int64)) + ((nI L[k]).toInt64))), (3, .ref b), (4, .int (nI L.length)), (5, .int (nI (k + 1))), (6, .int (nI L[k]))]) (fun _ z => z) ?_
  refine ax_goto (tgt := 166) dX7_digest_192 (by decide) ?_
  exact ax_sub (fun q hq => List.mem_append_left [(6, Value.int (nI L[k]))] hq) kk
theorem rd_c2 (hA : rw_nd A) (d : Nat) (R : rw_S) (h : ax_H) {b : Nat} {L : List Nat} (hl : L.length ≤ 32) {D : Int64} {Q : ax_P} (hq : Q (.inl (some (.long D))) (rw_O A R h)) : AW G mX7_digest (d + 48) 0 0 Q 166 [(0, .ref (A.1 0)), (1, .long D), (3, .ref b), (4, .int (nI L.length)), (5, .int (nI L.length))] [] (rw_O A R h) 0 0 := by
  refine ax_iload dX7_digest_166 rfl ?_
  refine ax_iload dX7_digest_168 rfl ?_
  refine ax_icmp_ge (tgt := 195) dX7_digest_170 (by decide) (fun _ => ?_) (fun z => absurd (il_le L.length L.length (Nat.le_refl _)) z)
  refine ax_lload_n dX7_digest_195 rfl ?_
  exact ax_lret (st := []) dX7_digest_196 rfl hq
theorem rd_c (hA : rw_nd A) (d : Nat) (R : rw_S) (h : ax_H) {b : Nat} {f : Nat → Int32} {L : List Nat} (hb : rw_O A R h b = some (.inl (0, L.length, .inl f))) (hf : ∀ i x, L[i]? = some x → f i = nI x) (hl : L.length ≤ 32) {Q : ax_P} : ∀ (i k : Nat) (D : Int64), k + i = L.length → Q (.inl (some (.long (po_dg D ((L.drop k).map nI))))) (rw_O A R h) → AW G mX7_digest (d + 48) 0 0 Q 166 [(0, .ref (A.1 0)), (1, .long D), (3, .ref b), (4, .int (nI L.length)), (5, .int (nI k))] [] (rw_O A R h) 0 0 := by
  intro i
  induction i with
  | zero =>
    intro k D hc hq
    have hc : k = L.length := by omega
    subst hc
    rw [List.drop_length, List.map_nil] at hq
    exact rd_c2 hA d R h hl hq
  | succ i ih =>
    intro k D hc hq
    have hk : k < L.length := by omega
    rw [List.drop_eq_getElem_cons hk, List.map_cons] at hq
    exact rd_c1 hA d R h hb hf hl hk (ih (k + 1) _ (by omega) hq)

set_option maxRecDepth 100000 in
set_option maxHeartbeats 4000000 in
theorem rb_digest (hA : rw_nd A) (d : Nat) (R : rw_S) (h : ax_H) {σ : sp_St} (hR : RI A σ R h)  : AW G mX7_digest (d + 48) 0 0 (fun r h1 => ∃ R' h', h1 = rw_O A R' h' ∧ hx_le h h' ∧ RI A σ R' h' ∧ r = .inl (some (.long (po_digest σ)))) 0 [(0, .ref (A.1 0))] [] (rw_O A R h) 0 0 := by
  have hg : rw_gr (rw_setS R 0 0) σ.1 := (RI_s0 0 hR).2.1
  have e0 : po_digest σ = po_dg (po_dg (po_dg 137 ([nI σ.1.1, nI σ.1.2.1, nI σ.1.2.2.1, nI σ.1.2.2.2.length] ++ σ.1.2.2.2.flatMap po_dgc)) [nI σ.2.1.length]) (match σ.2.2 with | none => [] | some v => (sp_cd (po_T σ) v).map nI) := by
    unfold po_digest
    rw [dg_app, dg_app]
    cases σ.2.2 <;> rfl
  rw [e0]
  refine ax_aload_n dX7_digest_0 rfl ?_
  refine ax_iconst (v := 0) dX7_digest_1 (by decide) ?_
  refine ax_put dX7_digest_2 fpX7_52 (rw_g0 hA) rfl rfl (Nat.le_of_ble_eq_true rfl) ?_
  refine ax_eqh (rw_ps0 hA) ?_
  refine ax_ldc2 dX7_digest_5 lcX7_185 ?_
  refine ax_aload_n dX7_digest_8 rfl ?_
  refine ax_get (v := .int (nI σ.1.1)) dX7_digest_9 fkX7_66 (rw_g0 hA) (congrArg (fun z => some (Value.int z)) (hg.1)) ?_
  refine ax_i2l dX7_digest_12 ?_
  refine ax_ladd dX7_digest_13 ?_
  refine ax_ldc2 dX7_digest_14 lcX7_187 ?_
  refine ax_lmul dX7_digest_17 ?_
  refine ax_aload_n dX7_digest_18 rfl ?_
  refine ax_get (v := .int (nI σ.1.2.1)) dX7_digest_19 fkX7_7 (rw_g0 hA) (congrArg (fun z => some (Value.int z)) (hg.2.1)) ?_
  refine ax_i2l dX7_digest_22 ?_
  refine ax_ladd dX7_digest_23 ?_
  refine ax_ldc2 dX7_digest_24 lcX7_187 ?_
  refine ax_lmul dX7_digest_27 ?_
  refine ax_aload_n dX7_digest_28 rfl ?_
  refine ax_get (v := .int (nI σ.1.2.2.1)) dX7_digest_29 fkX7_55 (rw_g0 hA) (congrArg (fun z => some (Value.int z)) (hg.2.2.1)) ?_
  refine ax_i2l dX7_digest_32 ?_
  refine ax_ladd dX7_digest_33 ?_
  refine ax_ldc2 dX7_digest_34 lcX7_187 ?_
  refine ax_lmul dX7_digest_37 ?_
  refine ax_aload_n dX7_digest_38 rfl ?_
  refine ax_get (v := .int (nI σ.1.2.2.2.length)) dX7_digest_39 fkX7_80 (rw_g0 hA) (congrArg (fun z => some (Value.int z)) (hg.2.2.2.1)) ?_
  refine ax_i2l dX7_digest_42 ?_
  refine ax_ladd dX7_digest_43 ?_
  refine ax_lstore_n dX7_digest_44 (by decide) ?_
  refine ax_sub (lv' := [(0, .ref (A.1 0)), (1, .long ((((((((4247 : Int64) + ((nI σ.1.1).toInt64)) * (31 : Int64)) + ((nI σ.1.2.1).toInt64)) * (31 : Int64)) + ((nI σ.1.2.2.1).toInt64)) * (31 : Int64)) + ((nI σ.1.2.2.2.length).toInt64)))]) (fun _ z => z) ?_
  refine ax_iconst (v := 0) dX7_digest_45 (by decide) ?_
  refine ax_istore_n dX7_digest_46 (by decide) ?_
  refine ax_sub (lv' := [(0, .ref (A.1 0)), (1, .long ((((((((4247 : Int64) + ((nI σ.1.1).toInt64)) * (31 : Int64)) + ((nI σ.1.2.1).toInt64)) * (31 : Int64)) + ((nI σ.1.2.2.1).toInt64)) * (31 : Int64)) + ((nI σ.1.2.2.2.length).toInt64))), (3, .int 0)]) (fun _ z => z) ?_
  refine rd_con hA d (rw_setS R 0 0) h hg hR.1 σ.1.2.2.2.length 0 _ (by omega) ?_
  rw [List.drop_zero, show (4247 : Int64) = 137 * 31 by decide]
  show AW G mX7_digest (d + 48) 0 0 _ 123 [(0, .ref (A.1 0)), (1, .long (po_dg 137 ([nI σ.1.1, nI σ.1.2.1, nI σ.1.2.2.1, nI σ.1.2.2.2.length] ++ σ.1.2.2.2.flatMap po_dgc))), (3, .int (nI σ.1.2.2.2.length))] [] (rw_O A (rw_setS R 0 0) h) 0 0
  obtain ⟨D, hD⟩ : ∃ D, D = po_dg 137 ([nI σ.1.1, nI σ.1.2.1, nI σ.1.2.2.1, nI σ.1.2.2.2.length] ++ σ.1.2.2.2.flatMap po_dgc) := ⟨_, rfl⟩
  rw [← hD] at *
  cases hs : σ.2.2 with
  | none =>
    have h10 : R.1 10 = -1 := by have := hR.2.2.2.2; rw [hs] at this; exact this
    refine ax_lload_n dX7_digest_123 rfl ?_
    refine ax_ldc2 dX7_digest_124 lcX7_187 ?_
    refine ax_lmul dX7_digest_127 ?_
    refine ax_aload_n dX7_digest_128 rfl ?_
    refine ax_get (v := .int (nI σ.2.1.length)) dX7_digest_129 fkX7_160 (rw_g0 hA) (congrArg (fun z => some (Value.int z)) (hR.2.2.1.1)) ?_
    refine ax_i2l dX7_digest_132 ?_
    refine ax_ladd dX7_digest_133 ?_
    refine ax_lstore_n dX7_digest_134 (by decide) ?_
    refine ax_sub (lv' := [(0, .ref (A.1 0)), (1, .long ((D * (31 : Int64)) + ((nI σ.2.1.length).toInt64))), (3, .int (nI σ.1.2.2.2.length))]) (fun _ z => z) ?_
    refine ax_aload_n dX7_digest_135 rfl ?_
    refine ax_get (v := .int (-1)) dX7_digest_136 fkX7_26 (rw_g0 hA) (congrArg (fun z => some (Value.int z)) (h10)) ?_
    refine ax_iconst (v := (-1)) dX7_digest_139 (by decide) ?_
    refine ax_icmp_ne (tgt := 145) dX7_digest_140 (by decide) (fun z => absurd rfl z) (fun _ => ?_)
    refine ax_lload_n dX7_digest_143 rfl ?_
    exact ax_lret (st := []) dX7_digest_144 rfl ⟨_, h, rfl, hx_rfl h, RI_s0 0 hR, rfl⟩
  | some v =>
    obtain ⟨e, b, f, o1, o2, o3, o4, o5, o6, o7, o8, o9, o10, o11, o12, o13, o14, o15, o16, o17⟩ := rs_ok (RI_s0 0 hR) hs
    refine ax_lload_n dX7_digest_123 rfl ?_
    refine ax_ldc2 dX7_digest_124 lcX7_187 ?_
    refine ax_lmul dX7_digest_127 ?_
    refine ax_aload_n dX7_digest_128 rfl ?_
    refine ax_get (v := .int (nI σ.2.1.length)) dX7_digest_129 fkX7_160 (rw_g0 hA) (congrArg (fun z => some (Value.int z)) (hR.2.2.1.1)) ?_
    refine ax_i2l dX7_digest_132 ?_
    refine ax_ladd dX7_digest_133 ?_
    refine ax_lstore_n dX7_digest_134 (by decide) ?_
    refine ax_sub (lv' := [(0, .ref (A.1 0)), (1, .long ((D * (31 : Int64)) + ((nI σ.2.1.length).toInt64))), (3, .int (nI σ.1.2.2.2.length))]) (fun _ z => z) ?_
    refine ax_aload_n dX7_digest_135 rfl ?_
    refine ax_get (v := .int (nI e.1)) dX7_digest_136 fkX7_26 (rw_g0 hA) (congrArg (fun z => some (Value.int z)) (o7)) ?_
    refine ax_iconst (v := (-1)) dX7_digest_139 (by decide) ?_
    refine ax_icmp_ne (tgt := 145) dX7_digest_140 (by decide) (fun _ => ?_) (fun z => absurd z (nI_m1 (by omega)))
    refine ax_aload_n dX7_digest_145 rfl ?_
    refine ax_callV (b := (A.1 0)) (av := []) (rest := []) (mc' := 0) (ms' := 0) dX7_digest_146 rfl lkX7_137 (rw_g0 hA) rfl (Nat.le_of_ble_eq_true rfl) (Nat.le_of_ble_eq_true rfl) (by omega) (by omega) (r_make1 hA _ (rw_setS R 0 0) h o2 (Q := fun r h1 => r = .inl none ∧ h1 = rw_O A (rw_setS R 0 0) h) ⟨rfl, rfl⟩) (fun E9 h9 q9 => by cases q9.1) (fun v9 h9 q9 => ?_)
    obtain ⟨e9, rfl⟩ := q9
    cases e9
    show AW G mX7_digest (d + 48) 0 0 _ 149 [(0, .ref (A.1 0)), (1, .long ((D * (31 : Int64)) + ((nI σ.2.1.length).toInt64))), (3, .int (nI σ.1.2.2.2.length))] [] (rw_O A (rw_setS R 0 0) h) 0 0
    refine ax_aload_n dX7_digest_149 rfl ?_
    refine ax_get (v := .ref (A.1 5)) dX7_digest_150 fkX7_30 (rw_g0 hA) rfl ?_
    refine ax_aload_n dX7_digest_153 rfl ?_
    refine ax_callV (b := (A.1 0)) (av := []) (rest := [.ref (A.1 5)]) (mc' := 0) (ms' := 0) dX7_digest_154 rfl lkX7_171 (rw_g0 hA) rfl (Nat.le_of_ble_eq_true rfl) (Nat.le_of_ble_eq_true rfl) (by omega) (by omega) (r_current hA _ (rw_setS R 0 0) h (RI_s0 0 hR) hs) (fun E9 h9 q9 => by cases q9.1) (fun v9 h9 q9 => ?_)
    obtain ⟨e9, rfl⟩ := q9
    cases e9
    show AW G mX7_digest (d + 48) 0 0 _ 157 [(0, .ref (A.1 0)), (1, .long ((D * (31 : Int64)) + ((nI σ.2.1.length).toInt64))), (3, .int (nI σ.1.2.2.2.length))] [.int (nI v), .ref (A.1 5)] (rw_O A (rw_setS R 0 0) h) 0 0
    refine ax_raald dX7_digest_157 (rw_g5 hA) (nI_in o5 (by decide)) (w := b) (by rw [nI_clamp (by omega)]; exact o11) ?_
    refine ax_astore_n dX7_digest_158 (by decide) ?_
    refine ax_sub (lv' := [(0, .ref (A.1 0)), (1, .long ((D * (31 : Int64)) + ((nI σ.2.1.length).toInt64))), (3, .ref b)]) (fun _ z => z) ?_
    refine ax_aload_n dX7_digest_159 rfl ?_
    refine ax_alen (n := (sp_cd (po_T σ) v).length) dX7_digest_160 (rw_rd o12) (by decide) ?_
    refine ax_istore dX7_digest_161 (by decide) ?_
    refine ax_sub (lv' := [(0, .ref (A.1 0)), (1, .long ((D * (31 : Int64)) + ((nI σ.2.1.length).toInt64))), (3, .ref b), (4, .int (nI ((sp_cd (po_T σ) v).length)))]) (fun _ z => z) ?_
    refine ax_iconst (v := 0) dX7_digest_163 (by decide) ?_
    refine ax_istore dX7_digest_164 (by decide) ?_
    refine ax_sub (lv' := [(0, .ref (A.1 0)), (1, .long ((D * (31 : Int64)) + ((nI σ.2.1.length).toInt64))), (3, .ref b), (4, .int (nI ((sp_cd (po_T σ) v).length))), (5, .int 0)]) (fun _ z => z) ?_
    exact rd_c hA d (rw_setS R 0 0) h (rw_rd o12) o13 o16 (sp_cd (po_T σ) v).length 0 _ (by omega) ⟨_, h, rfl, hx_rfl h, RI_s0 0 hR, rfl⟩
end RP8
