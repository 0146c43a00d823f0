/-! ===== copyFrom over the class's cells; array rows of Values ===== -/
theorem ax_caald {G : ax_G} {M : ax_M} {d mc ms : Nat} {Q : ax_P} {pc : Nat} {lv : ax_L} {st : List Value} {h : ax_H} {cn sn : Nat} {a n y : Nat} {f : Nat → Option Nat} {i : Int32} (hd : decode M.2.1 pc = .ok (.aaload, 1)) (ha : h a = some (.inl (3, n, .inr (.inr (.inr (.inr f)))))) (hin : vp_in i n) (hy : f i.toNatClampNeg = some y) (k : AW G M d mc ms Q (pc + 1) lv (.ref y :: st) h cn sn) : AW G M d mc ms Q pc lv (.int i :: .ref a :: st) h cn sn := ax_aald3 hd ha hin (by rw [hy]; exact k)
theorem ax_caaldN {G : ax_G} {M : ax_M} {d mc ms : Nat} {Q : ax_P} {pc : Nat} {lv : ax_L} {st : List Value} {h : ax_H} {cn sn : Nat} {a n : Nat} {f : Nat → Option Nat} {i : Int32} (hd : decode M.2.1 pc = .ok (.aaload, 1)) (ha : h a = some (.inl (3, n, .inr (.inr (.inr (.inr f)))))) (hin : vp_in i n) (hy : f i.toNatClampNeg = none) (k : AW G M d mc ms Q (pc + 1) lv (.null :: st) h cn sn) : AW G M d mc ms Q pc lv (.int i :: .ref a :: st) h cn sn := ax_aald3 hd ha hin (by rw [hy]; exact k)
theorem cs_rfs {ad : cs_K → Nat} {o : Option Nat} {w : Nat} (h : o = some w) : cs_rf ad o = some (ad (1, w)) := by rw [h]; rfl
theorem cs_rfn {ad : cs_K → Nat} {o : Option Nat} (h : o = none) : cs_rf ad o = none := by rw [h]; rfl
theorem cs_pr8' {ad : cs_K → Nat} (hi : cs_inj ad) {S : cs_S} {h : ax_H} {g : Nat → Option Nat} {k : Nat} {o : Option Nat} : va_up (cs_O ad S h) (ad (0, 8)) (some (.inl (3, 1200, .inr (.inr (.inr (.inr (va_up (fun j => cs_rf ad (g j)) k (cs_rf ad o)))))))) = cs_O ad (cs_setR S 8 (va_up g k o)) h := by
  rw [← cs_rf_up]; exact cs_pr8 hi
theorem cs_pr18' {ad : cs_K → Nat} (hi : cs_inj ad) {S : cs_S} {h : ax_H} {g : Nat → Option Nat} {k : Nat} {o : Option Nat} : va_up (cs_O ad S h) (ad (0, 18)) (some (.inl (3, 300, .inr (.inr (.inr (.inr (va_up (fun j => cs_rf ad (g j)) k (cs_rf ad o)))))))) = cs_O ad (cs_setR S 18 (va_up g k o)) h := by
  rw [← cs_rf_up]; exact cs_pr18 hi
/-- parts that can be: Values below 300 -/
def cs_pok (P : Nat → Option Nat) : Prop := ∀ j w, P j = some w → w < 300
/-- the Value v gets what the Value w holds -/
theorem cv_copy {G : ax_G} {ad : cs_K → Nat} (hi : cs_inj ad) (d : Nat) (S : cs_S) (h : ax_H) {v w m : Nat} (hv : v < 312) (hw : w < 312) (hvw : w ≠ v) (hm : m ≤ 3) (hW : cs_vf S w 3 = nI m) (hb : narrow .boolean (.int (cs_vf S w 15)) = .int (cs_vf S w 15)) (hb2 : fits .boolean (.int (cs_vf S w 15)) = true) (hp : ∀ j, j < m → ∀ y, cs_vp S w j = some y → y < 312 ∧ y ≠ v ∧ y ≠ w) :
    AW G mX5_copyFrom d 0 0 (fun r h1 => r = .inl none ∧ ∃ (N : Nat → Int32) (P : Nat → Option Nat), (∀ j, j < m → N j = cs_vn S w j ∧ P j = cs_vp S w j) ∧ (∀ j, ¬ j < m → N j = cs_vn S v j ∧ P j = cs_vp S v j) ∧ h1 = cs_O ad (cs_setV S v (cs_vf S w) N P) h) 0 [(0, .ref (ad (1, v))), (1, .ref (ad (1, w)))] [] (cs_O ad S h) 0 0 := by
  have hks : ∀ k ∈ ([(1, v), (2, v), (3, v), (1, w), (2, w), (3, w)] : List cs_K), k ∈ cs_keys := by
    intro k hk
    simp only [List.mem_cons, List.not_mem_nil, or_false] at hk
    rcases hk with rfl | rfl | rfl | rfl | rfl | rfl
    · exact cs_k1 hv
    · exact cs_k2 hv
    · exact cs_k3 hv
    · exact cs_k1 hw
    · exact cs_k2 hw
    · exact cs_k3 hw
  have hnd : (([(1, v), (2, v), (3, v), (1, w), (2, w), (3, w)] : List cs_K).map ad).Nodup := cs_nd hi hks (by simp [Ne.symm hvw])
  have hR : ∀ j, j < m → ∀ y, (fun j => cs_rf ad (cs_vp S w j)) j = some y → y ∉ [ad (1, v), ad (2, v), ad (3, v), ad (1, w), ad (2, w), ad (3, w)] ∧ ∃ vs, cs_O ad S h y = some (.inr (5, vs)) := by
    intro j hj y hy
    have hy : cs_rf ad (cs_vp S w j) = some y := hy
    unfold cs_rf at hy
    obtain ⟨z, hz, rfl⟩ := Option.map_eq_some_iff.mp hy
    obtain ⟨z1, z2, z3⟩ := hp j hj z hz
    refine ⟨fun hc => ?_, _, cs_get hi (cs_k1 z1)⟩
    have hc2 : ad (1, z) ∈ ([(1, v), (2, v), (3, v), (1, w), (2, w), (3, w)] : List cs_K).map ad := hc
    obtain ⟨k, hk, hk2⟩ := List.mem_map.mp hc2
    have := hi k (hks k hk) (1, z) (cs_k1 z1) hk2
    subst this
    simp [z2, z3] at hk
  have hx1 : ∀ k ∈ ([(1, w), (2, w), (3, w)] : List cs_K), k.2 ≠ v ∨ k.1 = 0 := by
    intro k hk
    simp only [List.mem_cons, List.not_mem_nil, or_false] at hk
    rcases hk with rfl | rfl | rfl <;> exact Or.inl hvw
  refine ax_eqh (cs_in hi (ks := [(1, v), (2, v), (3, v), (1, w), (2, w), (3, w)]) hks).symm ?_
  match m, hm, hW, hR with
  | 0, _, hW, hR =>
    refine ax_mono (ctX5_copyFrom_0 d (cs_O ad S h) (ad (1, v)) (ad (2, v)) (ad (3, v)) (ad (1, w)) (ad (2, w)) (ad (3, w)) (cs_vf S v) (cs_vf S w) (cs_vn S v) (cs_vn S w) (fun j => cs_rf ad (cs_vp S v j)) (fun j => cs_rf ad (cs_vp S w j)) hW hb hb2 hR hnd) ?_
    rintro r h1 ⟨e, rfl⟩
    refine ⟨e, cs_vn S v, cs_vp S v, fun j hj => absurd hj (by omega), fun j _ => ⟨rfl, rfl⟩, ?_⟩
    rw [← cs_wV hi hv (ks := [(1, w), (2, w), (3, w)]) (cs_k3in hw) hx1]
    rfl
  | 1, _, hW, hR =>
    refine ax_mono (ctX5_copyFrom_1 d (cs_O ad S h) (ad (1, v)) (ad (2, v)) (ad (3, v)) (ad (1, w)) (ad (2, w)) (ad (3, w)) (cs_vf S v) (cs_vf S w) (cs_vn S v) (cs_vn S w) (fun j => cs_rf ad (cs_vp S v j)) (fun j => cs_rf ad (cs_vp S w j)) hW hb hb2 hR hnd) ?_
    rintro r h1 ⟨e, rfl⟩
    refine ⟨e, upd (cs_vn S v) 0 (cs_vn S w 0), va_up (cs_vp S v) 0 (cs_vp S w 0), fun j hj => ?_, fun j hj => ?_, ?_⟩
    · have : j = 0 := by omega
      subst this; exact ⟨rfl, rfl⟩
    · have h0 : ¬ j = 0 := by omega
      exact ⟨pk_un h0, by simp [va_up, h0]⟩
    · rw [← cs_wV hi hv (ks := [(1, w), (2, w), (3, w)]) (cs_k3in hw) hx1, cs_rf_up]
      rfl
  | 2, _, hW, hR =>
    refine ax_mono (ctX5_copyFrom_2 d (cs_O ad S h) (ad (1, v)) (ad (2, v)) (ad (3, v)) (ad (1, w)) (ad (2, w)) (ad (3, w)) (cs_vf S v) (cs_vf S w) (cs_vn S v) (cs_vn S w) (fun j => cs_rf ad (cs_vp S v j)) (fun j => cs_rf ad (cs_vp S w j)) hW hb hb2 hR hnd) ?_
    rintro r h1 ⟨e, rfl⟩
    refine ⟨e, upd (upd (cs_vn S v) 0 (cs_vn S w 0)) 1 (cs_vn S w 1), va_up (va_up (cs_vp S v) 0 (cs_vp S w 0)) 1 (cs_vp S w 1), fun j hj => ?_, fun j hj => ?_, ?_⟩
    · rcases (show j = 0 ∨ j = 1 by omega) with rfl | rfl
      · exact ⟨rfl, rfl⟩
      · exact ⟨rfl, rfl⟩
    · have h0 : ¬ j = 0 := by omega
      have h1 : ¬ j = 1 := by omega
      exact ⟨by rw [pk_un h1, pk_un h0], by simp [va_up, h0, h1]⟩
    · rw [← cs_wV hi hv (ks := [(1, w), (2, w), (3, w)]) (cs_k3in hw) hx1, cs_rf_up, cs_rf_up]
      rfl
  | 3, _, hW, hR =>
    refine ax_mono (ctX5_copyFrom_3 d (cs_O ad S h) (ad (1, v)) (ad (2, v)) (ad (3, v)) (ad (1, w)) (ad (2, w)) (ad (3, w)) (cs_vf S v) (cs_vf S w) (cs_vn S v) (cs_vn S w) (fun j => cs_rf ad (cs_vp S v j)) (fun j => cs_rf ad (cs_vp S w j)) hW hb hb2 hR hnd) ?_
    rintro r h1 ⟨e, rfl⟩
    refine ⟨e, upd (upd (upd (cs_vn S v) 0 (cs_vn S w 0)) 1 (cs_vn S w 1)) 2 (cs_vn S w 2), va_up (va_up (va_up (cs_vp S v) 0 (cs_vp S w 0)) 1 (cs_vp S w 1)) 2 (cs_vp S w 2), fun j hj => ?_, fun j hj => ?_, ?_⟩
    · rcases (show j = 0 ∨ j = 1 ∨ j = 2 by omega) with rfl | rfl | rfl
      · exact ⟨rfl, rfl⟩
      · exact ⟨rfl, rfl⟩
      · exact ⟨rfl, rfl⟩
    · have h0 : ¬ j = 0 := by omega
      have h1 : ¬ j = 1 := by omega
      have h2 : ¬ j = 2 := by omega
      exact ⟨by rw [pk_un h2, pk_un h1, pk_un h0], by simp [va_up, h0, h1, h2]⟩
    · rw [← cs_wV hi hv (ks := [(1, w), (2, w), (3, w)]) (cs_k3in hw) hx1, cs_rf_up, cs_rf_up, cs_rf_up]
      rfl
  | m + 4, hm, _, _ => exact absurd hm (by omega)
