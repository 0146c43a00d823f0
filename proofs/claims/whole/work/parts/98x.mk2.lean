/-! ===== the room: a making is cheaper by what is large ===== -/
def cz (K : Nat) (T : List sp_E) : Nat := T.countP (fun e => decide (sp_sz e = K))
theorem cz_pre {K : Nat} {T F : List sp_E} (h : T <+: F) : cz K T ≤ cz K F ∧ cz K F - cz K T ≤ F.length - T.length := by
  obtain ⟨N, rfl⟩ := h
  unfold cz
  rw [List.countP_append, List.length_append]
  have := List.countP_le_length (p := fun e : sp_E => decide (sp_sz e = K)) (l := N)
  omega
theorem cz_lv {K s : Nat} {T F : List sp_E} (h : T <+: F) (hn : ∀ v e, F[v]? = some e → T.length ≤ v → sp_sz e = s + 1) (hk : K ≠ s + 1) : cz K F = cz K T := by
  obtain ⟨N, rfl⟩ := h
  unfold cz
  rw [List.countP_append]
  have : N.countP (fun e => decide (sp_sz e = K)) = 0 := List.countP_eq_zero.mpr (fun e he => by
    obtain ⟨i, hi⟩ := List.getElem?_of_mem he
    have := hn (T.length + i) e (by rw [List.getElem?_append_right (by omega), Nat.add_sub_cancel_left]; exact hi) (by omega)
    simp only [decide_eq_true_eq]
    omega)
  omega
theorem mk_px {g : sp_G} (hw : sp_wg g) : ∀ (j s : Nat) (T : List sp_E), s + j = 8 → sp_wT T → sp_srt T → sp_le T s → T <+: (sp_mk g j T s).1 := by
  intro j
  induction j with
  | zero => intro s T _ _ _ _; exact List.prefix_refl T
  | succ j ih =>
    intro s T hs h1 h2 h3
    obtain ⟨o1, o2, o3, o4, o5⟩ := rf_pc_ok hw h1 h2 h3 (by omega) g.2.2.2.length
    unfold sp_mk
    split
    · exact List.prefix_refl T
    · exact o2.trans (ih (s + 1) _ (by omega) o1 o4 o5)
theorem rx_mk {g : sp_G} (hw : sp_wg g) {A t K : Nat} (ht : t = 8 ∨ t = 9 ∨ t = 10) (hlev : ∀ T : List sp_E, 4 + (g.2.2.2.map (rf_cSq g T)).sum ≤ A + t * T.length) : ∀ (j s : Nat) (T : List sp_E), s + j = 8 → sp_wT T → sp_srt T → sp_le T s → mk_S g j T s + (t - 3) * ((K - 1 - s) * (cz K (sp_mk g j T s).1 - cz K T)) ≤ A * j + t * j * T.length + (300 - T.length) * ((j - (j - 1)) * (t * (j - 1) + 28 - 3 * j)) := by
  intro j
  induction j with
  | zero =>
    intro s T hs h1 h2 h3
    show 0 + (t - 3) * ((K - 1 - s) * (cz K T - cz K T)) ≤ _
    rw [Nat.sub_self, Nat.mul_zero, Nat.mul_zero]
    exact Nat.zero_le _
  | succ j ih =>
    intro s T hs h1 h2 h3
    obtain ⟨o1, o2, o3, o4, o5⟩ := rf_pc_ok hw h1 h2 h3 (by omega) g.2.2.2.length
    have l1 : (rf_lv g T s).1.length ≤ 300 := o1.1
    have l2 : T.length ≤ (rf_lv g T s).1.length := o2.length_le
    have hc := hlev T
    have hgr := rx_lvS hw h1 h2 h3 (by omega)
    have hi := ih (s + 1) (rf_lv g T s).1 (by omega) o1 o4 o5
    have hp := cz_pre (K := K) (mk_px hw j (s + 1) (rf_lv g T s).1 (by omega) o1 o4 o5)
    have hF : (sp_mk g j (rf_lv g T s).1 (s + 1)).1.length ≤ 300 := (sp_mk_ok hw j (s + 1) _ (by omega) o1 o4 o5).1.1
    have hlv : K ≠ s + 1 → cz K (rf_lv g T s).1 = cz K T := fun z => cz_lv o2 o3 z
    have em : sp_mk g (j + 1) T s = if (rf_lv g T s).2 then (T, s) else sp_mk g j (rf_lv g T s).1 (s + 1) := rfl
    show 4 + (g.2.2.2.map (rf_cSq g T)).sum + (rf_slots (rf_lv g T s).1 - rf_slots T) + (if (rf_lv g T s).2 then 0 else mk_S g j (rf_lv g T s).1 (s + 1)) + _ ≤ _
    rw [em]
    have hj : s = 7 - j := by omega
    subst hj
    cases hb : (rf_lv g T (7 - j)).2 with
    | true =>
      rw [if_pos rfl, if_pos rfl]
      show _ + (t - 3) * ((K - 1 - (7 - j)) * (cz K T - cz K T)) ≤ _
      rw [Nat.sub_self, Nat.mul_zero, Nat.mul_zero]
      generalize rf_slots (rf_lv g T (7 - j)).1 - rf_slots T = Z at hgr ⊢
      generalize (g.2.2.2.map (rf_cSq g T)).sum = W at hc ⊢
      generalize (rf_lv g T (7 - j)).1.length = m at l1 l2 hgr
      generalize T.length = n at l2 hc hgr ⊢
      clear ih hi hp hF hlv em hlev hb o1 o2 o3 o4 o5 h1 h2 h3
      rcases ht with rfl | rfl | rfl <;> rcases (show j = 0 ∨ j = 1 ∨ j = 2 ∨ j = 3 ∨ j = 4 ∨ j = 5 ∨ j = 6 ∨ j = 7 by omega) with rfl | rfl | rfl | rfl | rfl | rfl | rfl | rfl <;> simp only [Nat.reduceAdd, Nat.reduceMul, Nat.reduceSub] at hgr ⊢ <;> omega
    | false =>
      rw [if_neg (by decide), if_neg (by decide)]
      generalize hD : cz K (sp_mk g j (rf_lv g T (7 - j)).1 (7 - j + 1)).1 = F at hi hp ⊢
      have hx : (K - 1 - (7 - j)) * (F - cz K T) ≤ (K - 1 - (7 - j + 1)) * (F - cz K (rf_lv g T (7 - j)).1) + (F - cz K (rf_lv g T (7 - j)).1) := by
        by_cases hk : K = 7 - j + 1
        · rw [show K - 1 - (7 - j) = 0 by omega, Nat.zero_mul]; exact Nat.zero_le _
        · rw [hlv hk]
          have : K - 1 - (7 - j) ≤ (K - 1 - (7 - j + 1)) + 1 := by omega
          refine Nat.le_trans (Nat.mul_le_mul_right _ this) ?_
          rw [Nat.add_mul, Nat.one_mul]
          exact Nat.le_refl _
      have hd := hp.2
      have h0 : j = 0 → (sp_mk g j (rf_lv g T (7 - j)).1 (7 - j + 1)).1.length = (rf_lv g T (7 - j)).1.length := fun z => by subst z; rfl
      generalize (K - 1 - (7 - j)) * (F - cz K T) = P1 at hx ⊢
      generalize (K - 1 - (7 - j + 1)) * (F - cz K (rf_lv g T (7 - j)).1) = P2 at hx hi
      generalize F - cz K (rf_lv g T (7 - j)).1 = D at hx hd
      generalize (sp_mk g j (rf_lv g T (7 - j)).1 (7 - j + 1)).1.length = m2 at hF hd h0
      generalize mk_S g j (rf_lv g T (7 - j)).1 (7 - j + 1) = Y at hi ⊢
      generalize rf_slots (rf_lv g T (7 - j)).1 - rf_slots T = Z at hgr ⊢
      generalize (g.2.2.2.map (rf_cSq g T)).sum = W at hc ⊢
      generalize (rf_lv g T (7 - j)).1.length = m at l1 l2 hgr hi hd h0
      generalize T.length = n at l2 hc hgr ⊢
      clear ih hp hlv em hlev hb o1 o2 o3 o4 o5 h1 h2 h3 hD
      rcases ht with rfl | rfl | rfl <;> rcases (show j = 0 ∨ j = 1 ∨ j = 2 ∨ j = 3 ∨ j = 4 ∨ j = 5 ∨ j = 6 ∨ j = 7 by omega) with rfl | rfl | rfl | rfl | rfl | rfl | rfl | rfl <;> simp only [Nat.reduceAdd, Nat.reduceMul, Nat.reduceSub] at hgr hi ⊢ <;> omega
