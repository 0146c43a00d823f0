/-! ===== the room: the slots of the dearest way down ===== -/
def LSz : Nat → Nat
  | 0 => 0
  | k + 1 => LSz k + kap (k + 1) (2 * (k + 1) + 1)
theorem LSz_lt {a b : Nat} (h : a < b) : LSz a + kap b (2 * b + 1) ≤ LSz b := by
  induction b with
  | zero => exact absurd h (Nat.not_lt_zero _)
  | succ b ih =>
    show _ ≤ LSz b + kap (b + 1) (2 * (b + 1) + 1)
    by_cases hb : a < b
    · have := ih hb; omega
    · have : a = b := by omega
      rw [this]; exact Nat.le_refl _
def phi (g : sp_G) (v : Nat) : Nat := pot g (Wt (kv g v)) 8 0 v
theorem dnS_le {g : sp_G} (hg : sp_wg g) {v : Nat} (hv : v < (sp_tab g).1.length) : dn_v (fr_S (sp_tab g).1) (sp_tab g).1 v ≤ phi g v + LSz (zs (sp_tab g).1 v) := by
  obtain ⟨hT, hs, -, -⟩ := tb_ok hg
  have hfr : ∀ v, v < (sp_tab g).1.length → fr_S (sp_tab g).1 v ≤ kap (zs (sp_tab g).1 v) (2 * zs (sp_tab g).1 v + 1) := fun v hv => Nat.le_trans (frS_le hg hv) (kap_le (Nat.le_refl _) (rn_nn hT hv).1)
  refine dn_pot hT hs (fr_S (sp_tab g).1) (fun v => phi g v + LSz (zs (sp_tab g).1 v)) (fun v hv => ?_) (fun v hv w hm => ?_) v hv
  · have h1 := hfr v hv
    have h2 := LSz_lt (a := 0) (b := zs (sp_tab g).1 v) (by unfold zs; omega)
    show _ ≤ phi g v + LSz (zs (sp_tab g).1 v)
    omega
  · show _ + (phi g w + LSz (zs (sp_tab g).1 w)) ≤ phi g v + LSz (zs (sp_tab g).1 v)
    obtain ⟨a1, a2, a3⟩ := red_cs hg hv hm
    rcases a3 with ⟨-, b2, -, b4⟩ | b
    · have h1 := hfr v hv
      have h2 := LSz_lt b2
      have h3 : phi g w ≤ phi g v := by
        rcases prs_R (R := fun a b => phi g a ≤ phi g b) (fun v q hq => phi_sub hg hq) (fun a b c h1 h2 => Nat.le_trans h1 h2) _ _ _ _ b4 with z | z
        · cases z
        · exact z.2
      omega
    · obtain ⟨z1, z2, z3⟩ := low_z hg hv a1 b
      have h1 := frS_le hg hv
      have ek : kv g w = kv g v := by unfold kv; rw [z1, z2]
      have h2 : phi g w + kv g v ≤ phi g v := by
        unfold phi
        rw [ek]
        exact pot_low hg (Wt_2 (kv g v)) 8 0 v w (rn_nn hT hv).2.1 hv a1 b (by
          show kv g v ≤ kv g v * (sm (sp_tab g).1 v - sm (sp_tab g).1 w)
          exact Nat.le_mul_of_pos_right _ (by omega))
      rw [z1]
      have h3 : fr_S (sp_tab g).1 v ≤ kv g v := h1
      omega
/-- the plain bound -/
theorem phi_le {g : sp_G} (hg : sp_wg g) {v : Nat} (hv : v < (sp_tab g).1.length) : phi g v ≤ kv g v * ((g.2.1 - g.1) * nn (sp_tab g).1 v) := Nat.le_trans (pot_le hg (Wt_le (kv g v)) 8 0 v) (Nat.mul_le_mul_left _ (up_le hg hv))
theorem frS_1000 {g : sp_G} (hg : sp_wg g) {v : Nat} (hv : v < (sp_tab g).1.length) : fr_S (sp_tab g).1 v ≤ 1000 := by
  obtain ⟨h1, h2, -⟩ := rn_nn (tb_ok hg).1 hv
  exact Nat.le_trans (frS_le hg hv) (Nat.le_trans (kap_le (k' := 8) (n' := 17) h2 (by omega)) (by decide))
