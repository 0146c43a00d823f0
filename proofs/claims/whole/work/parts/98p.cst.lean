/-! ===== the room: what findReductions costs; the cells ===== -/
theorem dn_pot {T : List sp_E} (hw : sp_wT T) (hs : sp_srt T) (c Φ : Nat → Nat) (h0 : ∀ v, v < T.length → c v ≤ Φ v) (h1 : ∀ v, v < T.length → ∀ w ∈ sp_red T v, c v + Φ w ≤ Φ v) : ∀ v, v < T.length → dn_v c T v ≤ Φ v := by
  have key : ∀ (f v : Nat), v < T.length → dn_m c T f v ≤ Φ v := by
    intro f
    induction f with
    | zero => intro v _; exact Nat.zero_le _
    | succ f ih =>
      intro v hv
      show c v + ((sp_red T v).map (dn_m c T f)).foldr max 0 ≤ Φ v
      have hx : ((sp_red T v).map (dn_m c T f)).foldr max 0 ≤ Φ v - c v := fx_le (fun x hx => by
        obtain ⟨w, hm, rfl⟩ := List.mem_map.mp hx
        have a := ih w (sp_red_lt hw hs hv hm).1
        have b := h1 v hv w hm
        omega)
      have := h0 v hv
      omega
  exact fun v hv => key _ v hv
theorem tb_it {g : sp_G} (hw : sp_wg g) {v : Nat} (hv : v < (sp_tab g).1.length) : it_f (sp_cd (sp_tab g).1 v) = sp_ints (sp_xo (sp_tab g).1 v) ∧ ci_n (sp_cd (sp_tab g).1 v) = zs (sp_tab g).1 v ∧ (sp_cd (sp_tab g).1 v).length = zs (sp_tab g).1 v + nn (sp_tab g).1 v := by
  have he : (sp_tab g).1[v]? = some (sp_tab g).1[v] := List.getElem?_eq_getElem hv
  obtain ⟨a, b, -⟩ := cd_it hw (tb_ok hw).1 (sp_tab_ty hw) he
  have l := sp_cd_len (tb_ok hw).1 v _ he
  unfold zs nn
  rw [xo_eq he]
  exact ⟨a, b, l⟩
theorem fq_le {g : sp_G} (hw : sp_wg g) {v : Nat} (hv : v < (sp_tab g).1.length) : fq_n (sp_cd (sp_tab g).1 v) 1 ≤ nn (sp_tab g).1 v := by
  unfold fq_n nn
  rw [← (tb_it hw hv).1]
  unfold it_f
  rw [← List.countP_eq_length_filter]
  exact List.Sublist.countP_le (List.drop_sublist _ _)
theorem low_z {g : sp_G} (hw : sp_wg g) {v w : Nat} (hv : v < (sp_tab g).1.length) (hwl : w < (sp_tab g).1.length) (h : lowd (sp_tab g).1 v w) : zs (sp_tab g).1 w = zs (sp_tab g).1 v ∧ nn (sp_tab g).1 w = nn (sp_tab g).1 v ∧ sm (sp_tab g).1 w < sm (sp_tab g).1 v := by
  obtain ⟨p, x, m, r, e1, e2, e3⟩ := low_it h
  obtain ⟨a1, a2, -⟩ := tb_it hw hv
  obtain ⟨b1, b2, -⟩ := tb_it hw hwl
  have hc := ci_low h
  refine ⟨by omega, ?_, ?_⟩
  · unfold nn
    rw [← a1, ← b1, e1, e2]
    simp
  · unfold sm
    rw [← a1, ← b1, e1, e2]
    simp only [List.sum_append, List.sum_cons]
    omega
theorem pc_sum {xs : List sp_X} {F : sp_X → Nat} (h0 : ∀ n, F (.inl n) = 0) (h : ∀ q, .inr q ∈ xs → F (.inr q) ≤ q.2.1) : (xs.map F).sum ≤ sp_size xs := by
  induction xs with
  | nil => exact Nat.zero_le _
  | cons x r ih =>
    have h2 := ih (fun q hq => h q (List.mem_cons_of_mem _ hq))
    rw [List.map_cons, List.sum_cons]
    cases x with
    | inl n => rw [h0]; show 0 + _ ≤ sp_size r; omega
    | inr q =>
      have := h q List.mem_cons_self
      show _ ≤ q.2.1 + sp_size r
      omega
theorem prC_le {T : List sp_E} (hT : sp_wT T) (t : Nat) : ∀ (f v : Nat), pr_C T t f v + 1 ≤ zs T v := by
  intro f
  induction f with
  | zero => intro v; unfold zs pr_C; omega
  | succ f ih =>
    intro v
    unfold zs
    rw [Nat.add_comm 1]
    refine Nat.succ_le_succ (pc_sum (fun _ => rfl) (fun q hq => ?_))
    obtain ⟨-, -, -, b4, -⟩ := sub_at hT hq
    have := ih q.1
    show (if sp_tp T q.1 = t then 1 else 0) + pr_C T t f q.1 ≤ q.2.1
    rw [b4]
    split <;> omega
theorem sq_add (a s : Nat) : 3 * (a * a) + 5 * a + (3 * (s * s) + 5 * s) ≤ 3 * ((a + s) * (a + s)) + 5 * (a + s) := by
  have : (a + s) * (a + s) = a * a + a * s + (s * a + s * s) := by rw [Nat.add_mul, Nat.mul_add, Nat.mul_add]
  omega
theorem ps_sum {xs : List sp_X} {F : sp_X → Nat} (h0 : ∀ n, F (.inl n) = 0) (h : ∀ q, .inr q ∈ xs → 2 * F (.inr q) ≤ 3 * (q.2.1 * q.2.1) + 5 * q.2.1) : 2 * (xs.map F).sum ≤ 3 * (sp_size xs * sp_size xs) + 5 * sp_size xs := by
  induction xs with
  | nil => exact Nat.zero_le _
  | cons x r ih =>
    have h2 := ih (fun q hq => h q (List.mem_cons_of_mem _ hq))
    rw [List.map_cons, List.sum_cons]
    cases x with
    | inl n => rw [h0]; show _ ≤ 3 * (sp_size r * sp_size r) + 5 * sp_size r; omega
    | inr q =>
      have := h q List.mem_cons_self
      have h3 := sq_add q.2.1 (sp_size r)
      show _ ≤ 3 * ((q.2.1 + sp_size r) * (q.2.1 + sp_size r)) + 5 * (q.2.1 + sp_size r)
      omega
theorem prS_le {g : sp_G} (hw : sp_wg g) (t : Nat) : ∀ (f v : Nat), 2 * pr_S (sp_tab g).1 t f v + zs (sp_tab g).1 v + 2 ≤ 3 * (zs (sp_tab g).1 v * zs (sp_tab g).1 v) := by
  intro f
  have hz : ∀ s : Nat, 3 * ((1 + s) * (1 + s)) = 3 * (s * s) + 6 * s + 3 := fun s => by
    have : (1 + s) * (1 + s) = 1 * 1 + 1 * s + (s * 1 + s * s) := by rw [Nat.add_mul, Nat.mul_add, Nat.mul_add]
    omega
  induction f with
  | zero => intro v; unfold zs pr_S; rw [hz]; omega
  | succ f ih =>
    intro v
    have hT := (tb_ok hw).1
    have := ps_sum (xs := sp_xo (sp_tab g).1 v) (F := fun x => match x with
      | .inl _ => 0
      | .inr q => (if sp_tp (sp_tab g).1 q.1 = t then (sp_cd (sp_tab g).1 q.1).length else 0) + pr_S (sp_tab g).1 t f q.1) (fun _ => rfl) (fun q hq => by
        obtain ⟨-, -, b3, b4, -⟩ := sub_at hT hq
        have h1 := ih q.1
        have h2 := (tb_it hw b3).2.2
        have h3 := (rn_nn hT b3).1
        show 2 * ((if sp_tp (sp_tab g).1 q.1 = t then (sp_cd (sp_tab g).1 q.1).length else 0) + pr_S (sp_tab g).1 t f q.1) ≤ _
        rw [b4]
        split <;> omega)
    have e : pr_S (sp_tab g).1 t (f + 1) v = ((sp_xo (sp_tab g).1 v).map (fun x => match x with
      | .inl _ => 0
      | .inr q => (if sp_tp (sp_tab g).1 q.1 = t then (sp_cd (sp_tab g).1 q.1).length else 0) + pr_S (sp_tab g).1 t f q.1)).sum := rfl
    rw [e]
    unfold zs
    rw [hz]
    omega
/-- what the parts cost at most, by the size -/
def gk (k : Nat) : Nat := (3 * (k * k) - k - 2) / 2
def kap (k n : Nat) : Nat := n * (n + k) + gk k
theorem frS_le {g : sp_G} (hw : sp_wg g) {v : Nat} (hv : v < (sp_tab g).1.length) : fr_S (sp_tab g).1 v ≤ kap (zs (sp_tab g).1 v) (nn (sp_tab g).1 v) := by
  have h1 := prS_le hw (sp_tp (sp_tab g).1 v) 8 v
  have h2 := fq_le hw hv
  have h3 := (tb_it hw hv).2.2
  unfold fr_S kap gk
  rw [h3]
  have h4 := Nat.mul_le_mul_left (zs (sp_tab g).1 v + nn (sp_tab g).1 v) h2
  have h5 : (zs (sp_tab g).1 v + nn (sp_tab g).1 v) * nn (sp_tab g).1 v = nn (sp_tab g).1 v * (nn (sp_tab g).1 v + zs (sp_tab g).1 v) := by rw [Nat.mul_comm, Nat.add_comm]
  omega
theorem frC_le {g : sp_G} (hw : sp_wg g) {v : Nat} (hv : v < (sp_tab g).1.length) : fr_C (sp_tab g).1 v ≤ 24 := by
  have h1 := prC_le (tb_ok hw).1 (sp_tp (sp_tab g).1 v) 8 v
  have h2 := fq_le hw hv
  obtain ⟨h3, h4, -⟩ := rn_nn (tb_ok hw).1 hv
  unfold fr_C
  omega
theorem kap_le {k n k' n' : Nat} (hk : k ≤ k') (hn : n ≤ n') : kap k n ≤ kap k' n' := by
  unfold kap gk
  have h1 : n * (n + k) ≤ n' * (n' + k') := Nat.mul_le_mul hn (by omega)
  obtain ⟨d, rfl⟩ : ∃ d, k' = k + d := ⟨k' - k, by omega⟩
  have h2 : (k + d) * (k + d) = k * k + k * d + (d * k + d * d) := by rw [Nat.add_mul, Nat.mul_add, Nat.mul_add]
  have h3 : d ≤ d * d := by
    cases d with
    | zero => exact Nat.zero_le _
    | succ d => exact Nat.le_mul_of_pos_left _ (Nat.succ_pos _)
  omega
theorem sm_le {T : List sp_E} (hT : sp_wT T) {v : Nat} (hv : v < T.length) : sm T v ≤ 5 * nn T v := by
  obtain ⟨-, -, h⟩ := rn_nn hT hv
  exact sum_5 (fun a ha => of_decide_eq_true (List.all_eq_true.mp h a ha))
theorem dnC_le {g : sp_G} (hw : sp_wg g) {v : Nat} (hv : v < (sp_tab g).1.length) : dn_v (fr_C (sp_tab g).1) (sp_tab g).1 v ≤ 2232 := by
  obtain ⟨hT, hs, -, -⟩ := tb_ok hw
  have := dn_pot hT hs (fr_C (sp_tab g).1) (fun v => 24 * (sm (sp_tab g).1 v + zs (sp_tab g).1 v)) (fun v hv => by
      have := frC_le hw hv
      have : 1 ≤ zs (sp_tab g).1 v := Nat.le_add_right _ _
      omega) (fun v hv w hm => by
      have h1 := frC_le hw hv
      obtain ⟨a1, a2, a3⟩ := red_cs hw hv hm
      rcases a3 with ⟨-, b2, b3, -⟩ | b
      · omega
      · have := low_z hw hv a1 b
        omega) v hv
  have h5 := sm_le hT hv
  obtain ⟨h3, h4, -⟩ := rn_nn hT hv
  omega
