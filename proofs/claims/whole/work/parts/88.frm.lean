/-! ===== the reference: findReductions, the loop over the ints ===== -/
def fi_num (T : List sp_E) (t : Nat) (M : List Nat) : Option Nat := ((sp_of T t).find? (fun w => decide (sp_cd T w = M))).map (sp_rk T)
def fi_i (o : Option Nat) : Int32 := match o with
  | none => -1
  | some r => nI r
theorem fi_res_num (T : List sp_E) (t : Nat) (M : List Nat) : fi_res T t M = fi_i (fi_num T t M) := by
  unfold fi_res fi_num
  cases (sp_of T t).find? (fun w => decide (sp_cd T w = M)) <;> rfl
theorem fi_num_lt {T : List sp_E} (hwT : sp_wT T) {t : Nat} {M : List Nat} {r : Nat} (h : fi_num T t M = some r) : r < 300 := by
  unfold fi_num at h
  cases hf : (sp_of T t).find? (fun w => decide (sp_cd T w = M)) with
  | none => rw [hf] at h; cases h
  | some x =>
    rw [hf] at h
    have h2 := List.mem_of_find?_eq_some hf
    obtain ⟨i, hi⟩ := List.getElem?_of_mem h2
    have h3 := (sp_rk_of hi).2.2
    have h4 := (List.getElem?_eq_some_iff.mp hi).1
    rw [sp_of_len] at h4
    have := sp_cnt_le T t
    have := hwT.1
    have h : sp_rk T x = r := by simpa using h
    omega
def rf_add (Rs : List Nat) (o : Option Nat) : List Nat := match o with
  | none => Rs
  | some r => if r ∈ Rs then Rs else Rs ++ [r]
def rf_ms (T : List sp_E) (t : Nat) (L : List Nat) (a : Nat) : Nat → Nat → List Nat → List Nat
  | 0, _, Rs => Rs
  | j + 1, m, Rs => rf_ms T t L a j (m + 1) (rf_add Rs (fi_num T t (L.set a m)))
def rf_at (T : List sp_E) (t : Nat) (L : List Nat) (lo a : Nat) (Rs : List Nat) : List Nat := match L[a]? with
  | none => Rs
  | some x => if x < 100 then rf_ms T t L a (x - lo) lo Rs else Rs
def rf_2 (T : List sp_E) (t : Nat) (L : List Nat) (lo : Nat) : Nat → Nat → List Nat → List Nat
  | 0, _, Rs => Rs
  | i + 1, a, Rs => rf_2 T t L lo i (a + 1) (rf_at T t L lo a Rs)
def rf_ok (Rs : List Nat) : Prop := Rs.Nodup ∧ ∀ r ∈ Rs, r < 300
theorem rf_ok_len {Rs : List Nat} (h : rf_ok Rs) : Rs.length ≤ 300 := sp_nd_len 300 Rs h.1 h.2
theorem rf_ok_add {Rs : List Nat} (h : rf_ok Rs) {o : Option Nat} (ho : ∀ r, o = some r → r < 300) : rf_ok (rf_add Rs o) := by
  unfold rf_add
  cases o with
  | none => exact h
  | some r =>
    show rf_ok (if r ∈ Rs then Rs else Rs ++ [r])
    split
    · exact h
    · rename_i hr
      refine ⟨?_, fun x hx => ?_⟩
      · rw [List.nodup_append]
        refine ⟨h.1, by simp, fun x hx y hy e => ?_⟩
        simp at hy
        exact hr (by rw [← hy, ← e]; exact hx)
      · rcases List.mem_append.mp hx with z | z
        · exact h.2 x z
        · simp at z; rw [z]; exact ho r rfl
theorem rf_ok_ms {T : List sp_E} (hwT : sp_wT T) (t : Nat) (L : List Nat) (a : Nat) : ∀ (j m : Nat) (Rs : List Nat), rf_ok Rs → rf_ok (rf_ms T t L a j m Rs) := by
  intro j
  induction j with
  | zero => intro m Rs h; exact h
  | succ j ih => intro m Rs h; exact ih _ _ (rf_ok_add h (fun r hr => fi_num_lt hwT hr))
theorem rf_ok_at {T : List sp_E} (hwT : sp_wT T) (t : Nat) (L : List Nat) (lo a : Nat) {Rs : List Nat} (h : rf_ok Rs) : rf_ok (rf_at T t L lo a Rs) := by
  unfold rf_at
  cases L[a]? with
  | none => exact h
  | some x =>
    show rf_ok (if x < 100 then _ else _)
    split
    · exact rf_ok_ms hwT _ _ _ _ _ _ h
    · exact h
/-- the ints from a place on -/
def fq_n (L : List Nat) (a : Nat) : Nat := (L.drop a).countP (fun x => decide (x < 100))
theorem fq_n_s {L : List Nat} {a x : Nat} (h : L[a]? = some x) : fq_n L a = (if x < 100 then 1 else 0) + fq_n L (a + 1) := by
  unfold fq_n
  have hl := (List.getElem?_eq_some_iff.mp h).1
  rw [List.drop_eq_getElem_cons hl, (List.getElem?_eq_some_iff.mp h).2, List.countP_cons]
  by_cases hx : x < 100
  · simp [hx]; omega
  · simp [hx]
section FRM
variable {G : ax_G} {A : rw_Ad}
theorem fq_had (hA : rw_nd A) (d : Nat) (R : rw_S) (h : ax_H) {Rs : List Nat} (hok : rf_ok Rs) (hr : rr_L Rs R) {o : Option Nat} (ho : ∀ r, o = some r → r < 300) : AW G mX7_add d 0 0 (fun r h1 => r = .inl none ∧ ∃ R', h1 = rw_O A R' h ∧ rr_fr R R' ∧ rr_L (rf_add Rs o) R') 0 [(0, .ref (A.1 0)), (1, .int (fi_i o))] [] (rw_O A R h) 0 0 := by
  have hl := rf_ok_len hok
  cases o with
  | none => exact r_addN hA d R h hr ⟨rfl, R, rfl, rr_fr_rfl R, hr⟩
  | some r =>
    refine r_add hA d R h hr (by omega) (ho r rfl) (fun z => ⟨rfl, R, rfl, rr_fr_rfl R, ?_⟩) (fun z R' w1 w2 => ⟨rfl, R', rfl, w1, ?_⟩)
    · show rr_L (if r ∈ Rs then Rs else Rs ++ [r]) R
      rw [if_pos z]; exact hr
    · show rr_L (if r ∈ Rs then Rs else Rs ++ [r]) R'
      rw [if_neg z]; exact w2
theorem fq_l3 (hA : rw_nd A) {g : sp_G} (hw : sp_wg g) (d mc ms : Nat) {T : List sp_E} (hwT : sp_wT T) (hty : sp_ty g T) {t : Nat} (ht : t < 4) {ca : Nat} {L : List Nat} (hN : L.length ≤ 40) (hL : ∀ a ∈ L, a ≤ 5 ∨ (100 ≤ a ∧ a ≤ 105)) {a x : Nat} (hax : L[a]? = some x) (hx5 : x ≤ 5) {cn sn : Nat} (hcn : cn ≤ mc) (hsn : sn ≤ ms) (R0 : rw_S) (h0 : ax_H) (hrow : rw_row A h0 ca L) (hI : fr_I A g T t R0 h0) {o : Nat} (ho : h0 o = none) (hoA : rw_fz A o) {Q : ax_P} : ∀ (j m : Nat) (R : rw_S) (h : ax_H) (fo : Nat → Int32) (Rs : List Nat), x - m = j → m ≤ 5 → rr_fr R0 R → hx_le h0 h → h o = some (.inl (0, L.length, .inl fo)) → (∀ k z, k ≠ a → L[k]? = some z → fo k = nI z) → rf_ok Rs → rr_L Rs R → (∀ R' h', rr_fr R0 R' → hx_le h0 h' → rr_L (rf_ms T t L a j m Rs) R' → AW G mX7_findReductions (d + 10) mc ms Q 95 [(0, .ref (A.1 0)), (1, .ref ca), (2, .int (nI (a + 1)))] [] (rw_O A R' h') cn sn) → AW G mX7_findReductions (d + 10) mc ms Q 136 [(0, .ref (A.1 0)), (1, .ref ca), (2, .int (nI a)), (3, .int (nI x)), (4, .ref o), (5, .int (nI m))] [] (rw_O A R h) cn sn := by
  have hal := (List.getElem?_eq_some_iff.mp hax).1
  intro j
  induction j with
  | zero =>
    intro m R h fo Rs hj hm hR hl hot hfo hok hr kk
    obtain ⟨f, hft, hff⟩ := rw_row_le hl hrow
    exact fq_e3 hA d mc ms R h hft hN (by omega) hm (kk R h hR hl hr)
  | succ j ih =>
    intro m R h fo Rs hj hm hR hl hot hfo hok hr kk
    have hl2 : hx_le h0 (va_up h o (some (.inl (0, L.length, .inl (upd fo a (nI m)))))) := fun z q hz => by
      have : z ≠ o := fun e => by rw [e, ho] at hz; cases hz
      rw [ax_up_n this]; exact hl z q hz
    have hI2 := fr_I_mv hI hR hl2
    have hcdM : rw_cd (L.set a m) L.length (upd fo a (nI m)) := by
      refine ⟨by rw [List.length_set]; exact Nat.le_refl _, by omega, fun i z hi => ?_⟩
      by_cases hia : i = a
      · subst hia
        rw [List.getElem?_set_self hal] at hi
        rw [← Option.some.inj hi]
        exact if_pos rfl
      · rw [List.getElem?_set_ne (Ne.symm hia)] at hi
        rw [pk_un hia]; exact hfo i z hia hi
    have hMb : ∀ b ∈ L.set a m, b ≤ 105 := fun b hb => by
      rcases List.mem_or_eq_of_mem_set hb with z | z
      · have := hL b z; omega
      · omega
    have hot2 : rw_at A (va_up h o (some (.inl (0, L.length, .inl (upd fo a (nI m)))))) o (.inl (0, L.length, .inl (upd fo a (nI m)))) := ⟨ax_up_s, hoA⟩
    have hfi := r_find (G := G) hA (d + 7) R _ hcdM hMb (rw_rd hot2) hI2.2.2.1 hI2.2.1 hwT (fun v e0 h0 b hb => by have := cd_ent hw hwT hty _ _ _ h0 (Nat.lt_succ_self _) b hb; omega) ht
    rw [fi_res_num, List.length_set] at hfi
    have hn3 : ∀ r, fi_num T t (L.set a m) = some r → r < 300 := fun r hr => fi_num_lt hwT hr
    refine fq_add hA d mc ms R h ⟨hot, hoA⟩ hN hal (by omega) hx5 hI2.2.2.2 hcn hsn hfi (fq_had hA (d + 9) R _ hok hr hn3) (fun R' w1 => ?_)
    refine ih (m + 1) R' _ _ (rf_add Rs (fi_num T t (L.set a m))) (by omega) (by omega) (rr_fr_tr hR w1.1) hl2 ax_up_s (fun k z hk hz => ?_) (rf_ok_add hok hn3) w1.2 kk
    rw [pk_un hk]; exact hfo k z hk hz
theorem fq_loop (hA : rw_nd A) {g : sp_G} (hw : sp_wg g) (d mc ms : Nat) {T : List sp_E} (hwT : sp_wT T) (hty : sp_ty g T) {t : Nat} (ht : t < 4) {ca : Nat} {L : List Nat} (hN : L.length ≤ 40) (hL : ∀ a ∈ L, a ≤ 5 ∨ (100 ≤ a ∧ a ≤ 105)) {Q : ax_P} : ∀ (i a cn sn : Nat) (R : rw_S) (h : ax_H) (Rs : List Nat), a + i = L.length → rw_row A h ca L → fr_I A g T t R h → rf_ok Rs → rr_L Rs R → cn + fq_n L a ≤ mc → sn + L.length * fq_n L a ≤ ms → (∀ R' h', rr_fr R R' → hx_le h h' → rr_L (rf_2 T t L g.1 i a Rs) R' → Q (.inl none) (rw_O A R' h')) → AW G mX7_findReductions (d + 10) mc ms Q 95 [(0, .ref (A.1 0)), (1, .ref ca), (2, .int (nI a))] [] (rw_O A R h) cn sn := by
  have hlo5 : g.1 ≤ 5 := Nat.le_trans hw.1 hw.2.1
  intro i
  induction i with
  | zero =>
    intro a cn sn R h Rs hi hrow hI hok hr hcn hsn hq
    obtain ⟨f, hft, hff⟩ := hrow
    exact fq_end hA d mc ms R h hft hN (by omega) (hq R h (rr_fr_rfl R) (hx_rfl h) hr)
  | succ i ih =>
    intro a cn sn R h Rs hi hrow hI hok hr hcn hsn hq
    have hal : a < L.length := by omega
    have hax : L[a]? = some L[a] := List.getElem?_eq_getElem hal
    have hq' : ∀ R' h', rr_fr R R' → hx_le h h' → rr_L (rf_2 T t L g.1 i (a + 1) (rf_at T t L g.1 a Rs)) R' → Q (.inl none) (rw_O A R' h') := hq
    have hn := fq_n_s hax
    obtain ⟨f, hft, hff⟩ := id hrow
    rcases hL _ (List.getElem_mem hal) with hx5 | ⟨hx1, hx2⟩
    · have hat : rf_at T t L g.1 a Rs = rf_ms T t L a (L[a] - g.1) g.1 Rs := by unfold rf_at; rw [hax]; exact if_pos (by omega)
      rw [hat] at hq'
      rw [if_pos (by omega)] at hn
      have hm2 : L.length * fq_n L a = L.length + L.length * fq_n L (a + 1) := by rw [hn, Nat.mul_add, Nat.mul_one]
      refine fq_new hA d mc ms R h hft hN hal (hff a _ hax) hx5 hI.1.1 (by omega) (by omega) (fun o h' fo k1 k2 k3 k4 => ?_)
      refine fq_l3 hA hw d mc ms hwT hty ht hN hL hax hx5 (by omega) (by omega) R h hrow hI k2 k3.2 (L[a] - g.1) g.1 R h' fo Rs rfl hlo5 (rr_fr_rfl R) k1 k3.1 (fun k z _ hz => ?_) hok hr (fun R' h2 m1 m2 m3 => ?_)
      · rw [k4 k (List.getElem?_eq_some_iff.mp hz).1]; exact hff k z hz
      · refine ih (a + 1) _ _ R' h2 _ (by omega) (rw_row_le m2 hrow) (fr_I_mv hI m1 m2) (rf_ok_ms hwT _ _ _ _ _ _ hok) m3 (by omega) (by omega) (fun R2 h3 n1 n2 n3 => ?_)
        exact hq' R2 h3 (rr_fr_tr m1 n1) (hx_tr m2 n2) n3
    · have hat : rf_at T t L g.1 a Rs = Rs := by unfold rf_at; rw [hax]; exact if_neg (by omega)
      rw [hat] at hq'
      rw [if_neg (by omega), Nat.zero_add] at hn
      rw [hn] at hcn hsn
      refine fq_con hA d mc ms R h hft hN hal (c := L[a] - 100) ?_ (by omega) ?_
      · rw [show 100 + (L[a] - 100) = L[a] by omega]; exact hff a _ hax
      · exact ih (a + 1) cn sn R h Rs (by omega) hrow hI hok hr hcn hsn hq'
end FRM
