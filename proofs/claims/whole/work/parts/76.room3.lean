/-! ===== the room of a making: slots, without a first value ===== -/
theorem rm_xc0 {g : sp_G} {p : Nat} (h : p < 9) : rf_xc g [] p = [] := by
  unfold rf_xc
  rw [if_neg (by omega), if_neg (by omega)]
  rfl
theorem rm_fm {α β : Type} (l : List α) : l.flatMap (fun _ => ([] : List β)) = [] := by
  induction l with
  | nil => rfl
  | cons a r ih => rw [List.flatMap_cons, ih]; rfl
theorem rm_cand0 {g : sp_G} {q : sp_C} (h : rm_t q ≠ 0) (s : Nat) : rf_cand g [] q s = [] := by
  unfold rf_cand
  by_cases a : q.2.1 < 9
  · rw [rm_xc0 a]; rfl
  · by_cases b : q.2.2.1 < 9
    · rw [rm_xc0 b]; exact rm_fm _
    · by_cases c : q.2.2.2.1 < 9
      · rw [rm_xc0 c]
        have e : (fun x : List sp_X => (rf_xc g [] q.2.2.1).flatMap (fun b => if s < sp_size x + sp_size b then ([] : List (List sp_X)) else ([] : List (List sp_X)).flatMap (fun z => if sp_size x + sp_size b + sp_size z = s ∧ sp_cond q.2.2.2.2 (x ++ b ++ z) = true then [x ++ b ++ z] else []))) = fun _ => [] := by
          funext x
          have e2 : (fun b : List sp_X => if s < sp_size x + sp_size b then ([] : List (List sp_X)) else ([] : List (List sp_X)).flatMap (fun z => if sp_size x + sp_size b + sp_size z = s ∧ sp_cond q.2.2.2.2 (x ++ b ++ z) = true then [x ++ b ++ z] else [])) = fun _ => [] := by
            funext y
            by_cases hs : s < sp_size x + sp_size y
            · rw [if_pos hs]
            · rw [if_neg hs]; rfl
          rw [e2]; exact rm_fm _
        rw [e]; exact rm_fm _
      · exact absurd (by unfold rm_t; rw [rm_isT0 a, rm_isT0 b, rm_isT0 c]) h
theorem rm_srt0 : sp_srt [] := fun v w e f _ z => by simp at z
theorem rm_wT0 : sp_wT [] := ⟨by simp, fun v e he => by simp at he⟩
theorem rm_pc0 {g : sp_G} (hw : sp_wg g) (h0 : ¬ ∃ q ∈ g.2.2.2, rm_t q = 0) (s : Nat) : ∀ c, c ≤ g.2.2.2.length → rf_pc g [] s c = ([], false) := by
  intro c
  induction c with
  | zero => intro _; rfl
  | succ c ih =>
    intro hc
    have hq : g.2.2.2[c]? = some (g.2.2.2[c]'(by omega)) := List.getElem?_eq_getElem (by omega)
    have hm : g.2.2.2[c]'(by omega) ∈ g.2.2.2 := List.getElem_mem _
    rw [rf_pc_s hw rm_srt0 hq, ih (by omega), rm_cand0 (fun z => h0 ⟨_, hm, z⟩)]
    rfl
theorem rm_lv0 {g : sp_G} (hw : sp_wg g) (h0 : ¬ ∃ q ∈ g.2.2.2, rm_t q = 0) (s : Nat) : rf_lv g [] s = ([], false) := rm_pc0 hw h0 s g.2.2.2.length (Nat.le_refl _)
theorem rm_mkS0 {g : sp_G} (hw : sp_wg g) (h0 : ¬ ∃ q ∈ g.2.2.2, rm_t q = 0) : ∀ (j s : Nat), mk_S g j [] s ≤ 220 * j := by
  intro j
  induction j with
  | zero => intro s; exact Nat.zero_le _
  | succ j ih =>
    intro s
    have hc := rm_cSl hw [] g.2.2.2 (fun _ h => h)
    rw [List.length_nil, Nat.mul_zero] at hc
    have h6 := hw.2.2.2.1
    have hi := ih (s + 1)
    show 4 + (g.2.2.2.map (rf_cSq g [])).sum + (rf_slots (rf_lv g [] s).1 - rf_slots []) + (if (rf_lv g [] s).2 then 0 else mk_S g j (rf_lv g [] s).1 (s + 1)) ≤ _
    rw [rm_lv0 hw h0 s]
    show 4 + (g.2.2.2.map (rf_cSq g [])).sum + 0 + mk_S g j [] (s + 1) ≤ _
    omega
theorem rm_S_le {g : sp_G} (hw : sp_wg g) (R : rw_S) : rm_S R g ≤ 23960 := by
  unfold rm_S
  by_cases h : R.1 12 = 0
  · rw [if_pos h]
    by_cases h0 : ∃ q ∈ g.2.2.2, rm_t q = 0
    · have := rm_mkS hw h0 8 0 [] rfl rm_wT0 rm_srt0 (fun e z => absurd z List.not_mem_nil)
      rw [List.length_nil] at this
      omega
    · have := rm_mkS0 hw h0 8 0
      omega
  · rw [if_neg h]
    omega
