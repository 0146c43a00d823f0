/-! ===== the reference: rows of codes, choices ===== -/
def rw_row (A : rw_Ad) (h : ax_H) (a : Nat) (L : List Nat) : Prop := ∃ f, rw_at A h a (.inl (0, L.length, .inl f)) ∧ ∀ i x, L[i]? = some x → f i = nI x
def rw_chs (A : rw_Ad) (h : ax_H) (a : Nat) (Ls : List (List Nat)) : Prop := ∃ cf, rw_at A h a (.inl (4, Ls.length, .inr (.inr (.inr (.inr cf))))) ∧ ∀ i L, Ls[i]? = some L → ∃ b, cf i = some b ∧ rw_row A h b L
theorem rw_row_le {A : rw_Ad} {h h' : ax_H} {a : Nat} {L : List Nat} (hl : hx_le h h') (hr : rw_row A h a L) : rw_row A h' a L := by
  obtain ⟨f, h1, h2⟩ := hr
  exact ⟨f, rw_at_le hl h1, h2⟩
theorem rw_chs_le {A : rw_Ad} {h h' : ax_H} {a : Nat} {Ls : List (List Nat)} (hl : hx_le h h') (hr : rw_chs A h a Ls) : rw_chs A h' a Ls := by
  obtain ⟨f, h1, h2⟩ := hr
  refine ⟨f, rw_at_le hl h1, fun i L hi => ?_⟩
  obtain ⟨b, b1, b2⟩ := h2 i L hi
  exact ⟨b, b1, rw_row_le hl b2⟩
/-- an array of rows that is being filled: j of them stand -/
def rw_fil (A : rw_Ad) (h h' : ax_H) (q n : Nat) (Ls : List (List Nat)) : Prop := h q = none ∧ hx_le h h' ∧ ∃ cf, rw_at A h' q (.inl (4, n, .inr (.inr (.inr (.inr cf))))) ∧ ∀ i L, Ls[i]? = some L → ∃ b, cf i = some b ∧ rw_row A h' b L
theorem rw_fil_add {A : rw_Ad} {h h' h2 : ax_H} {q n b : Nat} {Ls : List (List Nat)} {L : List Nat} {cf : Nat → Option Nat} (hq : h q = none) (hl : hx_le h h2) (hat : rw_at A h2 q (.inl (4, n, .inr (.inr (.inr (.inr cf)))))) (hcf : ∀ i L, Ls[i]? = some L → ∃ b, cf i = some b ∧ rw_row A h2 b L) (hb : rw_row A h2 b L) : rw_fil A h (va_up h2 q (some (.inl (4, n, .inr (.inr (.inr (.inr (va_up cf Ls.length (some b))))))))) q n (Ls ++ [L]) := by
  have hk : ∀ b L, rw_row A h2 b L → rw_row A (va_up h2 q (some (.inl (4, n, .inr (.inr (.inr (.inr (va_up cf Ls.length (some b)))))))) ) b L → True := fun _ _ _ _ => trivial
  have hne : ∀ b L, rw_row A h2 b L → b ≠ q := fun b L hr e => by
    obtain ⟨f, h1, -⟩ := hr
    have h1 := h1.1
    rw [e, hat.1] at h1
    injection h1 with h1; injection h1 with h1; injection h1 with h1; cases h1
  have hrow : ∀ o, ∀ b L, rw_row A h2 b L → rw_row A (va_up h2 q (some o)) b L := fun o b L hr => by
    have hb := hne b L hr
    obtain ⟨f, h1, h2'⟩ := hr
    exact ⟨f, ⟨(ax_up_n hb).trans h1.1, h1.2⟩, h2'⟩
  refine ⟨hq, fun x o z => ?_, _, ⟨ax_up_s, hat.2⟩, fun i M hi => ?_⟩
  · rw [ax_up_n (fun e => by rw [e, hq] at z; cases z)]; exact hl x o z
  · by_cases hil : i < Ls.length
    · rw [List.getElem?_append_left hil] at hi
      obtain ⟨c, c1, c2⟩ := hcf i M hi
      exact ⟨c, by rw [va_up_ne _ _ (by omega)]; exact c1, hrow _ _ _ c2⟩
    · have hi2 := (List.getElem?_eq_some_iff.mp hi).1
      rw [List.length_append] at hi2
      have hi2 : i < Ls.length + 1 := hi2
      have hie : i = Ls.length := by omega
      subst hie
      rw [List.getElem?_append_right (Nat.le_refl _), Nat.sub_self] at hi
      have e1 : L = M := by simpa using hi
      subst e1
      exact ⟨b, va_up_self _ _ _, hrow _ _ _ hb⟩
theorem rw_fil_chs {A : rw_Ad} {h h' : ax_H} {q n : Nat} {Ls : List (List Nat)} (hf : rw_fil A h h' q n Ls) (hn : n = Ls.length) : rw_chs A h' q Ls := by
  obtain ⟨-, -, cf, h1, h2⟩ := hf
  rw [hn] at h1
  exact ⟨cf, h1, h2⟩
section RCH
variable {G : ax_G} {A : rw_Ad}

set_option maxRecDepth 100000 in
set_option maxHeartbeats 4000000 in
theorem ci_turn (d : Nat) (h : ax_H) {ca : Nat} {f : Nat → Int32} {L : List Nat} (hca : h ca = some (.inl (0, L.length, .inl f))) (hL : L.length ≤ 100) {m k a : Nat} (hk : k < L.length) (hf : f k = nI a) (ha : a ≤ 105) {Q : ax_P} (kk : AW G mX7_constructorsIn d 0 0 Q 4 [(0, .ref ca), (1, .int (nI (m + (if 100 ≤ a then 1 else 0)))), (2, .int (nI (k + 1)))] [] h 0 0) : AW G mX7_constructorsIn d 0 0 Q 4 [(0, .ref ca), (1, .int (nI m)), (2, .int (nI k))] [] h 0 0 := by
  by_cases c1 : 100 ≤ a
  · rw [if_pos c1] at kk
    refine ax_iload_n dX7_constructorsIn_4 rfl ?_
    refine ax_aload_n dX7_constructorsIn_5 rfl ?_
    refine ax_alen (n := L.length) dX7_constructorsIn_6 hca (by decide) ?_
    refine ax_icmp_ge (tgt := 32) dX7_constructorsIn_7 (by decide) (fun z => absurd z (il_nle L.length k hk)) (fun _ => ?_)
    refine ax_iload_n dX7_constructorsIn_10 rfl ?_
    refine ax_aload_n dX7_constructorsIn_11 rfl ?_
    refine ax_iload_n dX7_constructorsIn_12 rfl ?_
    refine ax_ialdv (x := (nI a)) dX7_constructorsIn_13 hca (nI_in hk (by omega)) (by rw [nI_clamp (by omega)]; exact hf) ?_
    refine ax_bipush (v := 100) dX7_constructorsIn_14 (by decide) ?_
    refine ax_icmp_lt (tgt := 23) dX7_constructorsIn_16 (by decide) (fun z => absurd z (il_nlt a 100 c1)) (fun _ => ?_)
    refine ax_iconst (v := 1) dX7_constructorsIn_19 (by decide) ?_
    refine ax_goto (tgt := 24) dX7_constructorsIn_20 (by decide) ?_
    refine ax_iadd dX7_constructorsIn_24 ?_
    refine ax_top (y := (nI (m + 1))) (nI_1 m) ?_
    refine ax_istore_n dX7_constructorsIn_25 (by decide) ?_
    refine ax_sub (lv' := [(0, .ref ca), (1, .int (nI (m + 1))), (2, .int (nI k))]) (fun _ z => z) ?_
    refine ax_iinc (v := (nI (k + 1))) dX7_constructorsIn_26 rfl (nI_1 k) (by decide) ?_
    refine ax_sub (lv' := [(0, .ref ca), (1, .int (nI (m + 1))), (2, .int (nI (k + 1)))]) (fun _ z => z) ?_
    refine ax_goto (tgt := 4) dX7_constructorsIn_29 (by decide) ?_
    exact kk
  · rw [if_neg c1] at kk
    refine ax_iload_n dX7_constructorsIn_4 rfl ?_
    refine ax_aload_n dX7_constructorsIn_5 rfl ?_
    refine ax_alen (n := L.length) dX7_constructorsIn_6 hca (by decide) ?_
    refine ax_icmp_ge (tgt := 32) dX7_constructorsIn_7 (by decide) (fun z => absurd z (il_nle L.length k hk)) (fun _ => ?_)
    refine ax_iload_n dX7_constructorsIn_10 rfl ?_
    refine ax_aload_n dX7_constructorsIn_11 rfl ?_
    refine ax_iload_n dX7_constructorsIn_12 rfl ?_
    refine ax_ialdv (x := (nI a)) dX7_constructorsIn_13 hca (nI_in hk (by omega)) (by rw [nI_clamp (by omega)]; exact hf) ?_
    refine ax_bipush (v := 100) dX7_constructorsIn_14 (by decide) ?_
    refine ax_icmp_lt (tgt := 23) dX7_constructorsIn_16 (by decide) (fun _ => ?_) (fun z => absurd (il_lt a 100 (by omega)) z)
    refine ax_iconst (v := 0) dX7_constructorsIn_23 (by decide) ?_
    refine ax_iadd dX7_constructorsIn_24 ?_
    refine ax_top (y := (nI (m + 0))) (nI_add m 0) ?_
    refine ax_istore_n dX7_constructorsIn_25 (by decide) ?_
    refine ax_sub (lv' := [(0, .ref ca), (1, .int (nI (m + 0))), (2, .int (nI k))]) (fun _ z => z) ?_
    refine ax_iinc (v := (nI (k + 1))) dX7_constructorsIn_26 rfl (nI_1 k) (by decide) ?_
    refine ax_sub (lv' := [(0, .ref ca), (1, .int (nI (m + 0))), (2, .int (nI (k + 1)))]) (fun _ z => z) ?_
    refine ax_goto (tgt := 4) dX7_constructorsIn_29 (by decide) ?_
    exact kk
theorem ci_end (d : Nat) (h : ax_H) {ca : Nat} {f : Nat → Int32} {L : List Nat} (hca : h ca = some (.inl (0, L.length, .inl f))) (hL : L.length ≤ 100) {m : Nat} {Q : ax_P} (hq : Q (.inl (some (.int (nI m)))) h) : AW G mX7_constructorsIn d 0 0 Q 4 [(0, .ref ca), (1, .int (nI m)), (2, .int (nI L.length))] [] h 0 0 := by
  refine ax_iload_n dX7_constructorsIn_4 rfl ?_
  refine ax_aload_n dX7_constructorsIn_5 rfl ?_
  refine ax_alen (n := L.length) dX7_constructorsIn_6 hca (by decide) ?_
  refine ax_icmp_ge (tgt := 32) dX7_constructorsIn_7 (by decide) (fun _ => ?_) (fun z => absurd (il_le L.length L.length (Nat.le_refl _)) z)
  refine ax_iload_n dX7_constructorsIn_32 rfl ?_
  exact ax_iret (st := []) dX7_constructorsIn_33 rfl rfl hq
def ci_n (L : List Nat) : Nat := L.countP (fun a => decide (100 ≤ a))
theorem r_consIn (d : Nat) (h : ax_H) {ca : Nat} {f : Nat → Int32} {L : List Nat} (hca : h ca = some (.inl (0, L.length, .inl f))) (hL : L.length ≤ 100) (hf : ∀ i x, L[i]? = some x → f i = nI x) (hx : ∀ a ∈ L, a ≤ 105) : AW G mX7_constructorsIn d 0 0 (fun r h1 => r = .inl (some (.int (nI (ci_n L)))) ∧ h1 = h) 0 [(0, .ref ca)] [] h 0 0 := by
  have loop : ∀ (i k : Nat), k + i = L.length → AW G mX7_constructorsIn d 0 0 (fun r h1 => r = .inl (some (.int (nI (ci_n L)))) ∧ h1 = h) 4 [(0, .ref ca), (1, .int (nI (ci_n (L.take k)))), (2, .int (nI k))] [] h 0 0 := by
    intro i
    induction i with
    | zero =>
      intro k hk
      have hk : k = L.length := by omega
      subst hk
      rw [List.take_length]
      exact ci_end d h hca hL ⟨rfl, rfl⟩
    | succ i ih =>
      intro k hk
      have hkl : k < L.length := by omega
      have hi := ih (k + 1) (by omega)
      have e : ci_n (L.take (k + 1)) = ci_n (L.take k) + (if 100 ≤ L[k] then 1 else 0) := by
        unfold ci_n
        rw [List.take_succ_eq_append_getElem hkl, List.countP_append, List.countP_singleton]
        simp
      rw [e] at hi
      exact ci_turn d h hca hL hkl (hf _ _ (List.getElem?_eq_getElem hkl)) (hx _ (List.getElem_mem hkl)) hi
  refine ax_iconst (v := 0) dX7_constructorsIn_0 (by decide) ?_
  refine ax_istore_n dX7_constructorsIn_1 (by decide) ?_
  refine ax_sub (lv' := [(0, .ref ca), (1, .int 0)]) (fun _ z => z) ?_
  refine ax_iconst (v := 0) dX7_constructorsIn_2 (by decide) ?_
  refine ax_istore_n dX7_constructorsIn_3 (by decide) ?_
  refine ax_sub (lv' := [(0, .ref ca), (1, .int 0), (2, .int 0)]) (fun _ z => z) ?_
  exact loop L.length 0 (by omega)

set_option maxRecDepth 100000 in
set_option maxHeartbeats 4000000 in
theorem r_ch10 (hA : rw_nd A) (d : Nat) (R : rw_S) (h : ax_H) (m : Int32) : AW G mX7_choices d 2 1 (fun r h1 => ∃ a h', r = .inl (some (.ref a)) ∧ h1 = rw_O A R h' ∧ hx_le h h' ∧ rw_chs A h' a [[]]) 0 [(0, .ref (A.1 0)), (1, .int (-1)), (2, .int m)] [] (rw_O A R h) 0 0 := by
  refine ax_iload_n dX7_choices_0 rfl ?_
  refine ax_iconst (v := -1) dX7_choices_1 (by decide) ?_
  refine ax_icmp_ne (tgt := 16) dX7_choices_2 (by decide) (fun z => absurd rfl z) (fun _ => ?_)
  refine ax_iconst (v := 1) dX7_choices_5 (by decide) ?_
  refine ax_newq4 (N := 1) dX7_choices_6 anX7_29 (by decide) (by decide) (by decide) (by decide) (by decide) (fun q hq => ?_)
  obtain ⟨q1, q2⟩ := rw_new hA hq
  refine ax_eqh (rw_up q1) ?_
  refine ax_dup dX7_choices_9 rfl ?_
  refine ax_iconst (v := 0) dX7_choices_10 (by decide) ?_
  refine ax_iconst (v := 0) dX7_choices_11 (by decide) ?_
  refine ax_newa_int (N := 0) dX7_choices_12 ax_aI (by decide) (by decide) (by decide) (by decide) (by decide) (fun b hb => ?_)
  obtain ⟨b1, b2⟩ := rw_new hA hb
  refine ax_eqh (rw_up b1) ?_
  have hbq : q ≠ b := fun e => by rw [← e, ax_up_s] at b2; cases b2
  have hat : rw_at A (va_up (va_up h q (some (.inl (4, 1, .inr (.inr (.inr (.inr (fun _ => none)))))))) b (some (.inl (0, 0, .inl (fun _ => 0))))) q (.inl (4, 1, .inr (.inr (.inr (.inr (fun _ => none)))))) := ⟨by rw [ax_up_n hbq, ax_up_s], q1⟩
  have hbt : rw_at A (va_up (va_up h q (some (.inl (4, 1, .inr (.inr (.inr (.inr (fun _ => none)))))))) b (some (.inl (0, 0, .inl (fun _ => 0))))) b (.inl (0, 0, .inl (fun _ => 0))) := ⟨ax_up_s, b1⟩
  refine ax_aast4 dX7_choices_14 (rw_rd hat) (rw_rd hbt) (by unfold vp_in; decide) ?_
  refine ax_eqh (rw_up q1) ?_
  have hfl := rw_fil_add (A := A) (h := h) (h' := h) (Ls := []) (L := []) q2 (hx_tr (hx_up q2) (hx_up b2)) hat (fun i L z => by simp at z) ⟨_, hbt, fun i x z => by simp at z⟩
  exact ax_aret (st := []) dX7_choices_15 rfl (Or.inr ⟨_, rfl⟩) (Or.inr ⟨_, rfl⟩) ⟨q, _, rfl, rfl, hfl.2.1, rw_fil_chs hfl rfl⟩

set_option maxRecDepth 100000 in
set_option maxHeartbeats 4000000 in
theorem c9_turn (hA : rw_nd A) (d mc ms : Nat) (R : rw_S) (h h' : ax_H) {m : Int32} {q n lo hh k cn sn : Nat} {Ls : List (List Nat)} (hf : rw_fil A h h' q n Ls) (h1 : R.1 1 = nI lo) (h2 : R.1 2 = nI hh) (hh5 : hh ≤ 5) (hlk : lo ≤ k) (hk : k ≤ hh) (hls : Ls.length = k - lo) (hn : k - lo < n) (hn6 : n ≤ 6) (hc1 : cn + 1 ≤ mc) (hc2 : sn + 1 ≤ ms) {Q : ax_P} (kk : ∀ h2, rw_fil A h h2 q n (Ls ++ [[k]]) → AW G mX7_choices d mc ms Q 43 [(0, .ref (A.1 0)), (1, .int (nI 9)), (2, .int m), (3, .ref q), (4, .int (nI (k + 1)))] [] (rw_O A R h2) (cn + 1) (sn + 1)) : AW G mX7_choices d mc ms Q 43 [(0, .ref (A.1 0)), (1, .int (nI 9)), (2, .int m), (3, .ref q), (4, .int (nI k))] [] (rw_O A R h') cn sn := by
  refine ax_iload dX7_choices_43 rfl ?_
  refine ax_aload_n dX7_choices_45 rfl ?_
  refine ax_get (v := .int (nI hh)) dX7_choices_46 fkX7_7 (rw_g0 hA) (congrArg (fun z => some (Value.int z)) h2) ?_
  refine ax_icmp_gt (tgt := 75) dX7_choices_49 (by decide) (fun z => absurd z (il_nlt hh k hk)) (fun _ => ?_)
  refine ax_aload_n dX7_choices_52 rfl ?_
  refine ax_iload dX7_choices_53 rfl ?_
  refine ax_aload_n dX7_choices_55 rfl ?_
  refine ax_get (v := .int (nI lo)) dX7_choices_56 fkX7_66 (rw_g0 hA) (congrArg (fun z => some (Value.int z)) h1) ?_
  refine ax_isub dX7_choices_59 ?_
  refine ax_top (y := nI (k - lo)) (pk_sub hlk) ?_
  refine ax_iconst (v := 1) dX7_choices_60 (by decide) ?_
  refine ax_newa_int (N := 1) dX7_choices_61 ax_aI (by decide) (by decide) (by decide) hc1 hc2 (fun b hb => ?_)
  obtain ⟨b1, b2⟩ := rw_new hA hb
  refine ax_eqh (rw_up b1) ?_
  obtain ⟨hq, hl, cf, hat, hcf⟩ := hf
  refine ax_dup dX7_choices_63 rfl ?_
  refine ax_iconst (v := 0) dX7_choices_64 (by decide) ?_
  refine ax_iload dX7_choices_65 rfl ?_
  have hbt : rw_at A (va_up h' b (some (.inl (0, 1, .inl (fun _ => 0))))) b (.inl (0, 1, .inl (fun _ => 0))) := ⟨ax_up_s, b1⟩
  refine ax_iast dX7_choices_67 (rw_rd hbt) (by unfold vp_in; decide) ?_
  refine ax_eqh (rw_up b1) ?_
  have hbq : q ≠ b := fun e => by rw [e] at hat; rw [hat.1] at b2; cases b2
  have hle : hx_le h' (va_up (va_up h' b (some (.inl (0, 1, .inl (fun _ => 0))))) b (some (.inl (0, 1, .inl (upd (fun _ => 0) (0 : Int32).toNatClampNeg (nI k)))))) := fun x o z => by
    have : x ≠ b := fun e => by rw [e, b2] at z; cases z
    rw [ax_up_n this, ax_up_n this]; exact z
  have hat2 := rw_at_le hle hat
  have hbt2 : rw_at A (va_up (va_up h' b (some (.inl (0, 1, .inl (fun _ => 0))))) b (some (.inl (0, 1, .inl (upd (fun _ => 0) (0 : Int32).toNatClampNeg (nI k)))))) b (.inl (0, 1, .inl (upd (fun _ => 0) (0 : Int32).toNatClampNeg (nI k)))) := ⟨ax_up_s, b1⟩
  refine ax_aast4 dX7_choices_68 (rw_rd hat2) (rw_rd hbt2) (nI_in hn (by omega)) ?_
  refine ax_eqh (rw_up hat.2) ?_
  have hfl := rw_fil_add (A := A) (h := h) (h' := h) (Ls := Ls) (L := [k]) hq (hx_tr hl hle) hat2 (fun i L z => by
    obtain ⟨b, c1, c2⟩ := hcf i L z
    exact ⟨b, c1, rw_row_le hle c2⟩) ⟨_, hbt2, fun i x z => by
      have : i = 0 := by have := (List.getElem?_eq_some_iff.mp z).1; simp at this; exact this
      subst this
      simp at z
      rw [← z]; rfl⟩
  rw [nI_clamp (by omega), ← hls]
  refine ax_iinc (v := nI (k + 1)) dX7_choices_69 rfl (nI_1 k) (by decide) ?_
  refine ax_sub (lv' := [(0, .ref (A.1 0)), (1, .int (nI 9)), (2, .int m), (3, .ref q), (4, .int (nI (k + 1)))]) (fun _ z => z) ?_
  refine ax_goto (tgt := 43) dX7_choices_72 (by decide) ?_
  exact kk _ hfl
theorem c9_end (hA : rw_nd A) (d mc ms : Nat) (R : rw_S) (h' : ax_H) {m : Int32} {q hh cn sn : Nat} (h2 : R.1 2 = nI hh) (hh5 : hh ≤ 5) {Q : ax_P} (hq : Q (.inl (some (.ref q))) (rw_O A R h')) : AW G mX7_choices d mc ms Q 43 [(0, .ref (A.1 0)), (1, .int (nI 9)), (2, .int m), (3, .ref q), (4, .int (nI (hh + 1)))] [] (rw_O A R h') cn sn := by
  refine ax_iload dX7_choices_43 rfl ?_
  refine ax_aload_n dX7_choices_45 rfl ?_
  refine ax_get (v := .int (nI hh)) dX7_choices_46 fkX7_7 (rw_g0 hA) (congrArg (fun z => some (Value.int z)) h2) ?_
  refine ax_icmp_gt (tgt := 75) dX7_choices_49 (by decide) (fun _ => ?_) (fun z => absurd (il_lt hh (hh + 1) (by omega)) z)
  refine ax_aload_n dX7_choices_75 rfl ?_
  exact ax_aret (st := []) dX7_choices_76 rfl (Or.inr ⟨_, rfl⟩) (Or.inr ⟨_, rfl⟩) hq
theorem r_ch9 (hA : rw_nd A) (d : Nat) (R : rw_S) (h : ax_H) (m : Int32) {lo hh : Nat} (h1 : R.1 1 = nI lo) (h2 : R.1 2 = nI hh) (hlh : lo ≤ hh) (hh5 : hh ≤ 5) : AW G mX7_choices d (1 + (hh + 1 - lo)) (2 * (hh + 1 - lo)) (fun r h1 => ∃ a h', r = .inl (some (.ref a)) ∧ h1 = rw_O A R h' ∧ hx_le h h' ∧ rw_chs A h' a ((List.range' lo (hh + 1 - lo)).map (fun k => [k]))) 0 [(0, .ref (A.1 0)), (1, .int (nI 9)), (2, .int m)] [] (rw_O A R h) 0 0 := by
  have loop : ∀ (i k cn sn : Nat) (q : Nat) (h' : ax_H), k + i = hh + 1 → lo ≤ k → rw_fil A h h' q (hh + 1 - lo) ((List.range' lo (k - lo)).map (fun k => [k])) → cn = 1 + (k - lo) → sn = hh + 1 - lo + (k - lo) → AW G mX7_choices d (1 + (hh + 1 - lo)) (2 * (hh + 1 - lo)) (fun r h1 => ∃ a h', r = .inl (some (.ref a)) ∧ h1 = rw_O A R h' ∧ hx_le h h' ∧ rw_chs A h' a ((List.range' lo (hh + 1 - lo)).map (fun k => [k]))) 43 [(0, .ref (A.1 0)), (1, .int (nI 9)), (2, .int m), (3, .ref q), (4, .int (nI k))] [] (rw_O A R h') cn sn := by
    intro i
    induction i with
    | zero =>
      intro k cn sn q h' hk hlk hf hcn hsn
      have hk : k = hh + 1 := by omega
      subst hk
      exact c9_end hA d _ _ R h' h2 hh5 ⟨q, h', rfl, rfl, hf.2.1, rw_fil_chs hf (by simp)⟩
    | succ i ih =>
      intro k cn sn q h' hk hlk hf hcn hsn
      refine c9_turn hA d _ _ R h h' hf h1 h2 hh5 hlk (by omega) (by simp) (by omega) (by omega) (by omega) (by omega) (fun h2' hf2 => ?_)
      refine ih (k + 1) _ _ q h2' (by omega) (by omega) ?_ (by omega) (by omega)
      rw [show k + 1 - lo = (k - lo) + 1 by omega, List.range'_concat, List.map_append]
      show rw_fil A h h2' q _ (_ ++ [[lo + 1 * (k - lo)]])
      rw [show lo + 1 * (k - lo) = k by omega]
      exact hf2
  refine ax_iload_n dX7_choices_0 rfl ?_
  refine ax_iconst (v := -1) dX7_choices_1 (by decide) ?_
  refine ax_icmp_ne (tgt := 16) dX7_choices_2 (by decide) (fun _ => ?_) (fun z => absurd z (by decide))
  refine ax_iload_n dX7_choices_16 rfl ?_
  refine ax_bipush (v := 9) dX7_choices_17 (by decide) ?_
  refine ax_icmp_ne (tgt := 77) dX7_choices_19 (by decide) (fun z => absurd (by decide) z) (fun _ => ?_)
  refine ax_aload_n dX7_choices_22 rfl ?_
  refine ax_get (v := .int (nI hh)) dX7_choices_23 fkX7_7 (rw_g0 hA) (congrArg (fun z => some (Value.int z)) h2) ?_
  refine ax_aload_n dX7_choices_26 rfl ?_
  refine ax_get (v := .int (nI lo)) dX7_choices_27 fkX7_66 (rw_g0 hA) (congrArg (fun z => some (Value.int z)) h1) ?_
  refine ax_isub dX7_choices_30 ?_
  refine ax_top (y := nI (hh - lo)) (pk_sub hlh) ?_
  refine ax_iconst (v := 1) dX7_choices_31 (by decide) ?_
  refine ax_iadd dX7_choices_32 ?_
  refine ax_top (y := nI (hh + 1 - lo)) (by rw [nI_1]; congr 1; omega) ?_
  refine ax_newq4 (N := hh + 1 - lo) dX7_choices_33 anX7_29 (nI_pos (by omega)) (nI_clamp (by omega)) (by omega) (by omega) (by omega) (fun q hq => ?_)
  obtain ⟨q1, q2⟩ := rw_new hA hq
  refine ax_eqh (rw_up q1) ?_
  refine ax_astore_n dX7_choices_36 (by decide) ?_
  refine ax_sub (lv' := [(0, .ref (A.1 0)), (1, .int (nI 9)), (2, .int m), (3, .ref q)]) (fun _ z => z) ?_
  refine ax_aload_n dX7_choices_37 rfl ?_
  refine ax_get (v := .int (nI lo)) dX7_choices_38 fkX7_66 (rw_g0 hA) (congrArg (fun z => some (Value.int z)) h1) ?_
  refine ax_istore dX7_choices_41 (by decide) ?_
  refine ax_sub (lv' := [(0, .ref (A.1 0)), (1, .int (nI 9)), (2, .int m), (3, .ref q), (4, .int (nI lo))]) (fun _ z => z) ?_
  refine loop (hh + 1 - lo) lo _ _ q _ (by omega) (Nat.le_refl _) ?_ (by omega) (by omega)
  rw [Nat.sub_self]
  exact ⟨q2, hx_up q2, _, ⟨ax_up_s, q1⟩, fun i L z => by simp at z⟩

end RCH
