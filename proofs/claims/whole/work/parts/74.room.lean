/-! ===== the room of a making: cells ===== -/
theorem rm_cC {g : sp_G} (hw : sp_wg g) (p : Nat) : rf_cC g p ≤ 7 := by
  have h5 := hw.2.1
  unfold rf_cC
  by_cases h1 : p = 10
  · rw [if_pos h1]; omega
  · rw [if_neg h1]
    by_cases h2 : p = 9
    · rw [if_pos h2]; omega
    · rw [if_neg h2]; omega
theorem rm_sum {α : Type} (f : α → Nat) (b : Nat) (hf : ∀ x, f x ≤ b) : ∀ l : List α, (l.map f).sum ≤ b * l.length := by
  intro l
  induction l with
  | nil => exact Nat.zero_le _
  | cons a r ih =>
    rw [List.map_cons, List.sum_cons, List.length_cons, Nat.mul_succ]
    have := hf a
    omega
theorem rm_cCs {g : sp_G} (hw : sp_wg g) : (g.2.2.2.map (rf_cCq g)).sum ≤ 126 := by
  have h6 := hw.2.2.2.1
  have h := rm_sum (rf_cCq g) 21 (fun q => by
    have a := rm_cC hw q.2.1
    have b := rm_cC hw q.2.2.1
    have c := rm_cC hw q.2.2.2.1
    unfold rf_cCq
    omega) g.2.2.2
  omega
theorem rm_mkC {g : sp_G} (hw : sp_wg g) : ∀ (j s : Nat) (T : List sp_E), s + j = 8 → sp_wT T → sp_srt T → sp_le T s → mk_C g j T s + T.length ≤ 127 * j + 300 := by
  intro j
  induction j with
  | zero =>
    intro s T hs h1 h2 h3
    have := h1.1
    show 0 + T.length ≤ _
    omega
  | succ j ih =>
    intro s T hs h1 h2 h3
    obtain ⟨o1, o2, o3, o4, o5⟩ := rf_pc_ok hw h1 h2 h3 (by omega) g.2.2.2.length
    have l1 : (rf_lv g T s).1.length ≤ 300 := o1.1
    have l2 : T.length ≤ (rf_lv g T s).1.length := o2.length_le
    have hc := rm_cCs hw
    show 1 + (g.2.2.2.map (rf_cCq g)).sum + ((rf_lv g T s).1.length - T.length) + (if (rf_lv g T s).2 then 0 else mk_C g j (rf_lv g T s).1 (s + 1)) + T.length ≤ 127 * (j + 1) + 300
    cases hb : (rf_lv g T s).2 with
    | true =>
      rw [if_pos rfl]
      omega
    | false =>
      rw [if_neg (fun z => by cases z)]
      have := ih (s + 1) (rf_lv g T s).1 (by omega) o1 o4 o5
      omega
theorem rm_C_le {g : sp_G} (hw : sp_wg g) (R : rw_S) : rm_C R g ≤ 1316 := by
  unfold rm_C
  by_cases h : R.1 12 = 0
  · rw [if_pos h]
    have := rm_mkC hw 8 0 [] rfl ⟨by simp, fun v e he => by simp at he⟩ (fun v w e f _ z => by simp at z) (fun e z => absurd z List.not_mem_nil)
    rw [List.length_nil] at this
    omega
  · rw [if_neg h]
    omega
