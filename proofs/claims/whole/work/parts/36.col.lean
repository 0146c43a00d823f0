/-! ===== collect, find ===== -/
def sp_tp (T : List sp_E) (v : Nat) : Nat := match T[v]? with
  | some e => e.1
  | none => 9
/-- the parts of type t of the value v, put behind acc, each once -/
def sp_prs (T : List sp_E) (t : Nat) : Nat → Nat → List Nat → List Nat
  | 0, _, acc => acc
  | f + 1, v, acc => (sp_xo T v).foldl (fun acc x => match x with
    | .inl _ => acc
    | .inr q => sp_prs T t f q.1 (if sp_tp T q.1 = t ∧ q.1 ∉ acc then acc ++ [q.1] else acc)) acc
/-- the values ahead in which one int differs -/
def sp_dec (T : List sp_E) (v : Nat) : List Nat := (((sp_of T (sp_tp T v)).take (sp_rk T v)).drop (sp_upto T (sp_tp T v) (1 + sp_size (sp_xo T v) - 1))).filter (fun w => decide (sp_sh (sp_cd T v) = sp_sh (sp_cd T w) ∧ sp_ham (sp_cd T v) (sp_cd T w) = 1))
def sp_red (T : List sp_E) (v : Nat) : List Nat := sp_prs T (sp_tp T v) 8 v [] ++ sp_dec T v
def sp_IA (T : List sp_E) (t B : Nat) (acc : List Nat) : Prop := (acc.map (sp_rk T)).Nodup ∧ ∀ x ∈ acc, x < T.length ∧ sp_tp T x = t ∧ sp_rk T x < B
theorem sp_rk_in {T : List sp_E} {v : Nat} (hv : v < T.length) : (sp_of T (sp_tp T v))[sp_rk T v]? = some v := by
  have he : T[v]? = some T[v] := List.getElem?_eq_getElem hv
  have := sp_of_in he
  unfold sp_tp sp_rk
  rw [he]; exact this
theorem sp_rk_inj {T : List sp_E} {v w : Nat} (hv : v < T.length) (hw : w < T.length) (ht : sp_tp T v = sp_tp T w) (hr : sp_rk T v = sp_rk T w) : v = w := by
  have h1 := sp_rk_in hv
  have h2 := sp_rk_in hw
  rw [ht, hr, h2] at h1
  exact (Option.some.inj h1).symm
theorem sp_rk_of {T : List sp_E} {t r w : Nat} (h : (sp_of T t)[r]? = some w) : w < T.length ∧ sp_tp T w = t ∧ sp_rk T w = r := by
  obtain ⟨e, e1, e2, e3⟩ := sp_of_at h
  refine ⟨(List.getElem?_eq_some_iff.mp e1).1, by unfold sp_tp; rw [e1]; exact e2, by unfold sp_rk; rw [e1]; show sp_cnt (T.take w) e.1 = r; rw [e2]; exact e3⟩
theorem sp_rk_upto {T : List sp_E} (hs : sp_srt T) {v z : Nat} {e : sp_E} (he : T[v]? = some e) (hz : sp_sz e ≤ z) : sp_rk T v < sp_upto T e.1 z := by
  have hv := (List.getElem?_eq_some_iff.mp he).1
  unfold sp_rk
  rw [he]
  show sp_cnt (T.take v) e.1 < _
  have h1 : T.take v ++ [e] <+: T := by
    have h2 : T.drop v = e :: T.drop (v + 1) := by
      rw [List.drop_eq_getElem_cons hv]
      congr 1
      exact (List.getElem?_eq_some_iff.mp he).2
    refine ⟨T.drop (v + 1), ?_⟩
    rw [List.append_assoc, List.singleton_append, ← h2, List.take_append_drop]
  have h3 : sp_upto (T.take v ++ [e]) e.1 z ≤ sp_upto T e.1 z := by
    obtain ⟨r, hr⟩ := h1
    conv => rhs; rw [← hr]
    unfold sp_upto
    exact (List.prefix_append _ r).sublist.countP_le
  have h4 : sp_upto (T.take v ++ [e]) e.1 z = sp_cnt (T.take v ++ [e]) e.1 := by
    apply sp_upto_all
    intro f hf
    rcases List.mem_append.mp hf with z1 | z1
    · obtain ⟨i, hi⟩ := List.getElem?_of_mem z1
      have hil := (List.getElem?_eq_some_iff.mp hi).1
      rw [List.length_take] at hil
      rw [List.getElem?_take, if_pos (by omega)] at hi
      have := hs i v f e (by omega) hi he
      omega
    · simp at z1; rw [z1]; exact hz
  rw [sp_cnt_snoc, if_pos rfl] at h4
  omega
theorem sp_IA_len {T : List sp_E} {t B : Nat} {acc : List Nat} (h : sp_IA T t B acc) : acc.length ≤ B := by
  have := sp_nd_len B (acc.map (sp_rk T)) h.1 (fun x hx => by
    obtain ⟨w, hw, rfl⟩ := List.mem_map.mp hx
    exact (h.2 w hw).2.2)
  simpa using this
theorem sp_IA_any {T : List sp_E} {t B w : Nat} {acc : List Nat} (h : sp_IA T t B acc) (hw : w < T.length) (ht : sp_tp T w = t) : acc.any (fun x => decide (sp_rk T x = sp_rk T w)) = decide (w ∈ acc) := by
  rw [Bool.eq_iff_iff]
  rw [List.any_eq_true]
  constructor
  · rintro ⟨x, hx, hr⟩
    have hr := of_decide_eq_true hr
    obtain ⟨a1, a2, a3⟩ := h.2 x hx
    have := sp_rk_inj a1 hw (a2.trans ht.symm) hr
    subst this
    simpa using hx
  · intro hx
    have hx := of_decide_eq_true hx
    exact ⟨w, hx, by simp⟩
theorem sp_IA_snoc {T : List sp_E} {t B w : Nat} {acc : List Nat} (h : sp_IA T t B acc) (hw : w < T.length) (ht : sp_tp T w = t) (hB : sp_rk T w < B) (hn : w ∉ acc) : sp_IA T t B (acc ++ [w]) := by
  refine ⟨?_, fun x hx => ?_⟩
  · rw [List.map_append, List.nodup_append]
    refine ⟨h.1, by simp, fun a ha b hb => ?_⟩
    obtain ⟨x, hx, rfl⟩ := List.mem_map.mp ha
    simp at hb
    subst hb
    intro hr
    obtain ⟨a1, a2, a3⟩ := h.2 x hx
    exact hn (sp_rk_inj a1 hw (a2.trans ht.symm) hr ▸ hx)
  · rcases List.mem_append.mp hx with z | z
    · exact h.2 x z
    · simp at z; subst z; exact ⟨hw, ht, hB⟩
theorem sp_IA_up {T : List sp_E} {t B B' : Nat} {acc : List Nat} (h : sp_IA T t B acc) (hB : B ≤ B') : sp_IA T t B' acc := ⟨h.1, fun x hx => ⟨(h.2 x hx).1, (h.2 x hx).2.1, Nat.lt_of_lt_of_le (h.2 x hx).2.2 hB⟩⟩
theorem sp_part_lt {T : List sp_E} (hw : sp_wT T) {v : Nat} {e : sp_E} (he : T[v]? = some e) {q : Nat × Nat × Nat × List Nat} (hq : .inr q ∈ e.2.2) : ∃ e', q.1 < v ∧ T[q.1]? = some e' ∧ q = sp_att q.1 e' ∧ sp_sz e' + 1 ≤ sp_sz e := by
  obtain ⟨w, e', w1, w2, rfl⟩ := (hw.2 v e he).2.2.2.2.2.2.2 q hq
  refine ⟨e', w1, w2, rfl, ?_⟩
  have hmem : ∀ (xs : List sp_X) (q : Nat × Nat × Nat × List Nat), .inr q ∈ xs → q.2.1 ≤ sp_size xs := by
    intro xs
    induction xs with
    | nil => intro q z; cases z
    | cons x r ih3 =>
      intro q z
      cases x with
      | inl n =>
        rcases List.mem_cons.mp z with z | z
        · cases z
        · exact ih3 q z
      | inr p =>
        rcases List.mem_cons.mp z with z | z
        · cases z; show q.2.1 ≤ q.2.1 + _; omega
        · have := ih3 q z; show q.2.1 ≤ p.2.1 + sp_size r; omega
  have := hmem e.2.2 _ hq
  have h2 : (sp_att w e').2.1 = 1 + sp_size e'.2.2 := rfl
  unfold sp_sz
  omega
theorem sp_prs_IA {T : List sp_E} (hw : sp_wT T) (hs : sp_srt T) {t z : Nat} : ∀ (n v : Nat) (e : sp_E) (acc : List Nat), T[v]? = some e → sp_sz e ≤ z + 1 → sp_IA T t (sp_upto T t z) acc → sp_IA T t (sp_upto T t z) (sp_prs T t n v acc) := by
  intro n
  induction n with
  | zero => intro v e acc _ _ h; exact h
  | succ n ih =>
    intro v e acc he hz h
    unfold sp_prs
    have hxo : sp_xo T v = e.2.2 := by unfold sp_xo; rw [he]
    rw [hxo]
    have : ∀ (xs : List sp_X), (∀ q, .inr q ∈ xs → .inr q ∈ e.2.2) → ∀ acc, sp_IA T t (sp_upto T t z) acc → sp_IA T t (sp_upto T t z) (xs.foldl (fun acc x => match x with
        | .inl _ => acc
        | .inr q => sp_prs T t n q.1 (if sp_tp T q.1 = t ∧ q.1 ∉ acc then acc ++ [q.1] else acc)) acc) := by
      intro xs
      induction xs with
      | nil => intro _ acc h; exact h
      | cons x r ih2 =>
        intro hx acc h
        rw [List.foldl_cons]
        apply ih2 (fun q hq => hx q (List.mem_cons_of_mem _ hq))
        cases x with
        | inl m => exact h
        | inr q =>
          obtain ⟨e', q1, q2, q3, q4⟩ := sp_part_lt hw he (hx q List.mem_cons_self)
          refine ih q.1 e' _ q2 (by omega) ?_
          split
          · rename_i hc
            have htp : sp_tp T q.1 = e'.1 := by unfold sp_tp; rw [q2]
            refine sp_IA_snoc h (List.getElem?_eq_some_iff.mp q2).1 hc.1 ?_ hc.2
            have := sp_rk_upto hs q2 (z := z) (by omega)
            rw [← htp, hc.1] at this
            exact this
          · exact h
    exact this e.2.2 (fun q hq => hq) acc h
section COL
variable {G : ax_G} {ad : cs_K → Nat}

theorem ap_val (hi : cs_inj ad) (h : ax_H) {T : List sp_E} (hw : sp_wT T) (hs : sp_srt T) {t z : Nat} (ht : t < 4) : ∀ (n v : Nat) (e : sp_E) (S : cs_S) (acc : List Nat), T[v]? = some e → sp_sz e ≤ n → sp_sz e ≤ z + 1 → st_vs S T → st_rd acc S → sp_IA T t (sp_upto T t z) acc → ∀ (d dp : Nat) (Q : ax_P), n ≤ d + 1 → dp + n ≤ 9 → (∀ S', st_rs S S' → st_rd (sp_prs T t n v acc) S' → Q (.inl none) (cs_O ad S' h)) →
    AW G mX2_addPartsOf (d + 2) 0 0 Q 0 [(0, .ref (ad (0, 17))), (1, .ref (ad (1, v))), (2, .int (nI t)), (3, .int (nI dp))] [] (cs_O ad S h) 0 0 := by
  intro n
  induction n with
  | zero => intro v e S acc he hz; unfold sp_sz at hz; omega
  | succ n ih =>
    intro v e S acc he hz hz2 hvs hr hIA d dp Q hd hdp hQ
    have hvl : v < T.length := (List.getElem?_eq_some_iff.mp he).1
    have hT1 := hw.1
    have hup : sp_upto T t z ≤ 300 := Nat.le_trans (sp_upto_le _ _ _) (Nat.le_trans (sp_cnt_le _ _) hT1)
    have hxo : sp_xo T v = e.2.2 := by unfold sp_xo; rw [he]
    have hx3 : e.2.2.length ≤ 3 := (hw.2 v e he).2.1
    unfold sp_prs at hQ
    rw [hxo] at hQ
    refine ap_beg hi (d + 2) S h ?_
    have loop : ∀ (i j : Nat) (S' : cs_S) (acc : List Nat), j + i = 3 → S'.2.2.2 = S.2.2.2 → st_rd acc S' → sp_IA T t (sp_upto T t z) acc → (∀ S'', st_rs S' S'' → st_rd ((e.2.2.drop j).foldl (fun acc x => match x with
        | .inl _ => acc
        | .inr q => sp_prs T t n q.1 (if sp_tp T q.1 = t ∧ q.1 ∉ acc then acc ++ [q.1] else acc)) acc) S'' → Q (.inl none) (cs_O ad S'' h)) → AW G mX2_addPartsOf (d + 2) 0 0 Q 3 [(0, .ref (ad (0, 17))), (1, .ref (ad (1, v))), (2, .int (nI t)), (3, .int (nI dp)), (4, .int (nI j))] [] (cs_O ad S' h) 0 0 := by
      intro i
      induction i with
      | zero =>
        intro j S' acc hj hS hr hIA hQ
        have : j = 3 := by omega
        subst this
        rw [List.drop_eq_nil_of_le hx3] at hQ
        exact ap_end hi (d + 2) S' h (hQ S' (st_rs_rfl _) hr)
      | succ i ihi =>
        intro j S' acc hj hS hr hIA hQ
        have hvs' := st_vs_rs hS hvs
        have hok := (hvs' v e he).1
        by_cases hjl : j < e.2.2.length
        · have hx : e.2.2[j]? = some e.2.2[j] := List.getElem?_eq_getElem hjl
          rw [List.drop_eq_getElem_cons hjl, List.foldl_cons] at hQ
          cases hc : e.2.2[j] with
          | inl m =>
            rw [hc] at hx hQ
            refine ap_none hi (d + 1) S' h (by omega) hok.2.2.1 hx3 (by omega) (by omega) (fun _ => (hok.2.2.2.2.2.2.2.2.2.2.2.1 j m hx).2) ?_
            exact ihi (j + 1) S' acc (by omega) hS hr hIA hQ
          | inr q =>
            rw [hc] at hx hQ
            obtain ⟨e', q1, q2, q3, q4⟩ := sp_part_lt hw he (List.mem_of_getElem? hx)
            have hvp := hok.2.2.2.2.2.2.2.2.2.2.2.2 j q hx
            have htp : sp_tp T q.1 = e'.1 := by unfold sp_tp; rw [q2]
            have hrk : sp_rk T q.1 = sp_cnt (T.take q.1) e'.1 := by unfold sp_rk; rw [q2]
            have hok' := hvs' q.1 e' q2
            have hql : q.1 < T.length := by omega
            have hrl : sp_rk T q.1 < 300 := by
              rw [hrk]
              have := sp_cnt_le (T.take q.1) e'.1
              rw [List.length_take] at this
              omega
            have hu4 := (hw.2 q.1 e' q2).1
            obtain ⟨d, rfl⟩ : ∃ k, d = k + 1 := ⟨d - 1, by unfold sp_sz at q4 hz; omega⟩
            have hhas : AW G mX2_has (d + 1 + 1) 0 0 (fun r h1 => r = .inl (some (.int (if acc.any (fun w => decide (sp_rk T w = sp_rk T q.1)) then 1 else 0))) ∧ h1 = cs_O ad S' h) 0 [(0, .ref (ad (0, 17))), (1, .int (nI (sp_rk T q.1)))] [] (cs_O ad S' h) 0 0 := ch_has hi (d + 1) S' h hr hrl hw hvs' (fun w hw9 => (hIA.2 w hw9).1) ⟨rfl, rfl⟩
            by_cases hut : e'.1 = t
            · rw [sp_IA_any hIA hql (htp.trans hut)] at hhas
              by_cases hin : q.1 ∈ acc
              · simp only [hin, not_true, and_false, if_false] at hQ
                refine ap_B hi (d + 1 + 1) S' h (by omega) hok.2.2.1 hx3 (by omega) (by omega) hjl (by omega) hvp hok'.1.1 hu4 ht (hok'.2.trans (by rw [← hrk])) hr hut hhas (by simp [hin]) (R9 := fun S2 => st_rs S' S2 ∧ st_rd (sp_prs T t n q.1 acc) S2) ?_ (fun S2 o => ?_)
                · exact ih q.1 e' S' acc q2 (by omega) (by omega) hvs' hr hIA d (dp + 1) _ (by omega) (by omega) (fun S2 a b => ⟨rfl, S2, rfl, a, b⟩)
                · exact ihi (j + 1) S2 _ (by omega) (o.1.2.2.2.trans hS) o.2 (sp_prs_IA hw hs n q.1 e' acc q2 (by omega) hIA) (fun S3 a b => hQ S3 (st_rs_tr o.1 a) b)
              · simp only [htp, hut, hin, not_false_iff, and_self, if_true] at hQ
                have hIA2 : sp_IA T t (sp_upto T t z) (acc ++ [q.1]) := by
                  refine sp_IA_snoc hIA hql (htp.trans hut) ?_ hin
                  have := sp_rk_upto hs q2 (z := z) (by omega)
                  rw [hut] at this
                  exact this
                have hlen : acc.length < 300 := by
                  have := sp_IA_len hIA2
                  rw [List.length_append] at this
                  simp at this; omega
                refine ap_A hi (d + 1 + 1) S' h (by omega) hok.2.2.1 hx3 (by omega) (by omega) hjl (by omega) hvp hok'.1.1 hu4 ht (hok'.2.trans (by rw [← hrk])) hr hut hhas (by simp [hin]) hlen (R9 := fun S2 => st_rs S' S2 ∧ st_rd (sp_prs T t n q.1 (acc ++ [q.1])) S2) (fun S1 a b => ?_) (fun S2 o => ?_)
                · exact ih q.1 e' S1 (acc ++ [q.1]) q2 (by omega) (by omega) (st_vs_rs a.2.2.2 hvs') b hIA2 d (dp + 1) _ (by omega) (by omega) (fun S2 a2 b2 => ⟨rfl, S2, rfl, st_rs_tr a a2, b2⟩)
                · exact ihi (j + 1) S2 _ (by omega) (o.1.2.2.2.trans hS) o.2 (sp_prs_IA hw hs n q.1 e' _ q2 (by omega) hIA2) (fun S3 a b => hQ S3 (st_rs_tr o.1 a) b)
            · have hne : ¬ (sp_tp T q.1 = t ∧ q.1 ∉ acc) := fun z9 => hut (htp.symm.trans z9.1)
              simp only [hne, if_false] at hQ
              refine ap_C hi (d + 1 + 1) S' h (by omega) hok.2.2.1 hx3 (by omega) (by omega) hjl (by omega) hvp hok'.1.1 hu4 ht (hok'.2.trans (by rw [← hrk])) hr hut (R9 := fun S2 => st_rs S' S2 ∧ st_rd (sp_prs T t n q.1 acc) S2) (hb := 0) ?_ (fun S2 o => ?_)
              · exact ih q.1 e' S' acc q2 (by omega) (by omega) hvs' hr hIA d (dp + 1) _ (by omega) (by omega) (fun S2 a b => ⟨rfl, S2, rfl, a, b⟩)
              · exact ihi (j + 1) S2 _ (by omega) (o.1.2.2.2.trans hS) o.2 (sp_prs_IA hw hs n q.1 e' acc q2 (by omega) hIA) (fun S3 a b => hQ S3 (st_rs_tr o.1 a) b)
        · have hdn : e.2.2.drop j = e.2.2.drop (j + 1) := by rw [List.drop_eq_nil_of_le (by omega), List.drop_eq_nil_of_le (by omega)]
          rw [hdn] at hQ
          refine ap_none hi (d + 1) S' h (by omega) hok.2.2.1 hx3 (by omega) (by omega) (fun z9 => absurd z9 hjl) ?_
          exact ihi (j + 1) S' acc (by omega) hS hr hIA hQ
    exact loop 3 0 S acc rfl rfl hr hIA (by rw [List.drop_zero]; exact hQ)
theorem st_fin_rs {g : sp_G} {p : List sp_E × Nat} {S S' : cs_S} (h : st_rs S S') (hf : st_fin g p S) : st_fin g p S' := by
  obtain ⟨h1, h2, h3, h4, h5, h6, h7, h8, h9, h10⟩ := hf
  obtain ⟨r1, r2, r3, r4⟩ := h
  refine ⟨?_, ?_, ?_, h4, h5, h6, ?_, h8, by rw [r1 6 (by decide)]; exact h9, by rw [r1 7 (by decide)]; exact h10⟩
  · obtain ⟨a0, a1, a2, a3, a4⟩ := h1
    refine ⟨by rw [r1 0 (by decide)]; exact a0, by rw [r1 1 (by decide)]; exact a1, by rw [r1 2 (by decide)]; exact a2, by rw [r1 3 (by decide)]; exact a3, ?_⟩
    rw [r2]; exact a4
  · exact ⟨fun j hj => by rw [r3 7 (by decide)]; exact h2.1 j hj, fun j hj => by rw [r3 11 (by decide)]; exact h2.2.1 j hj, fun j hj => by rw [r3 14 (by decide)]; exact h2.2.2 j hj⟩
  · refine ⟨by rw [r2]; exact h3.1, fun v e he => ?_⟩
    obtain ⟨b1, b2, b3⟩ := h3.2 v e he
    show sp_ok (S'.2.2.2.1 v) (S'.2.2.2.2.1 v) (S'.2.2.2.2.2.1 v) _ _ _ ∧ S'.2.2.2.1 v 1 = _ ∧ S'.2.2.1 8 _ = _
    rw [r4, r3 8 (by decide)]; exact ⟨b1, b2, b3⟩
  · unfold st_ends
    rw [r2]; exact h7
theorem st_fin_vs {g : sp_G} {p : List sp_E × Nat} {S : cs_S} (hf : st_fin g p S) : st_vs S p.1 := fun v e he => ⟨(hf.2.2.1.2 v e he).1, (hf.2.2.1.2 v e he).2.1⟩
theorem st_fin_cod {g : sp_G} {p : List sp_E × Nat} {S : cs_S} (hg : sp_wg g) (hf : st_fin g p S) (ht : sp_ty g p.1) {v : Nat} {e : sp_E} (he : p.1[v]? = some e) : st_cod g S 8 v e.1 (sp_cd p.1 v) := st_cod_mono (hf.2.2.2.1.2 v e he).2.2.1 (st_cod_of hg hf.2.2.2.1 ht (fun v e he => (hf.2.2.1.2 v e he).1) v e he)

set_option maxRecDepth 100000 in
set_option maxHeartbeats 4000000 in
theorem co_turn (hi : cs_inj ad) (d : Nat) (S : cs_S) (h : ax_H) {v w r rv t kk : Nat} {Rs : List Nat} {R9 : Nat → Prop} (hv : v < 312) (hw : w < 312) (hr0 : r < rv) (hrv3 : rv ≤ 300) (hrv : cs_vf S v 1 = nI rv) (ht0 : cs_vf S v 0 = nI t) (ht4 : t < 4) (hk : S.2.1 9 t = nI kk) (hrk : r < kk) (hk3 : kk ≤ 300) (hov : S.2.2.1 8 (t * 300 + r) = some w) (hr : st_rd Rs S) (hl : Rs.length < 300) {Q : ax_P}
    (hdi : AW G mX5_differsFrom d 0 0 (fun r h1 => ∃ k, r = .inl (some (.int (nI k))) ∧ R9 k ∧ h1 = cs_O ad S h) 0 [(0, .ref (ad (1, v))), (1, .ref (ad (1, w)))] [] (cs_O ad S h) 0 0)
    (k1 : ∀ k, R9 k → nI k = 1 → ∀ S1, st_rs S S1 → st_rd (Rs ++ [w]) S1 → AW G mX2_collect (d + 1) 0 0 Q 30 [(0, .ref (ad (0, 17))), (1, .ref (ad (1, v))), (2, .ref (ad (0, 6))), (3, .int (nI (r + 1)))] [] (cs_O ad S1 h) 0 0) (k2 : ∀ k, R9 k → ¬ nI k = 1 → AW G mX2_collect (d + 1) 0 0 Q 30 [(0, .ref (ad (0, 17))), (1, .ref (ad (1, v))), (2, .ref (ad (0, 6))), (3, .int (nI (r + 1)))] [] (cs_O ad S h) 0 0) : AW G mX2_collect (d + 1) 0 0 Q 30 [(0, .ref (ad (0, 17))), (1, .ref (ad (1, v))), (2, .ref (ad (0, 6))), (3, .int (nI r))] [] (cs_O ad S h) 0 0 := by
  refine ax_iload_n dX2_collect_30 rfl ?_
  refine ax_aload_n dX2_collect_31 rfl ?_
  refine ax_get (v := .int (nI rv)) dX2_collect_32 fkX2_45 (cs_get hi (cs_k1 hv)) (congrArg (fun z => some (Value.int z)) (hrv)) ?_
  refine ax_icmp_ge (tgt := 71) dX2_collect_35 (by decide) (fun z => absurd z (il_nle rv r hr0)) (fun _ => ?_)
  refine ax_aload_n dX2_collect_38 rfl ?_
  refine ax_aload_n dX2_collect_39 rfl ?_
  refine ax_get (v := .int (nI t)) dX2_collect_40 fkX2_29 (cs_get hi (cs_k1 hv)) (congrArg (fun z => some (Value.int z)) (ht0)) ?_
  refine ax_iload_n dX2_collect_43 rfl ?_
  refine ax_callV (b := (ad (0, 6))) (av := [.int (nI t), .int (nI r)]) (rest := []) (mc' := 0) (ms' := 0) dX2_collect_44 rfl lkX2_48 (cs_get hi (cs_k0 (by decide))) rfl (Nat.le_of_ble_eq_true rfl) (Nat.le_of_ble_eq_true rfl) (Nat.le_refl 0) (Nat.le_refl 0) (cv_valueAt hi _ S h (v := w) ht4 (by omega) hk hrk hk3 hov) (fun E9 h9 q9 => by cases q9.1) (fun v9 h9 q9 => ?_)
  obtain ⟨e9, rfl⟩ := q9
  cases e9
  show AW G mX2_collect (d + 1) 0 0 Q 47 [(0, .ref (ad (0, 17))), (1, .ref (ad (1, v))), (2, .ref (ad (0, 6))), (3, .int (nI r))] [.ref (ad (1, w))] (cs_O ad S h) 0 0
  refine ax_astore dX2_collect_47 (by decide) ?_
  refine ax_sub (lv' := [(0, .ref (ad (0, 17))), (1, .ref (ad (1, v))), (2, .ref (ad (0, 6))), (3, .int (nI r)), (4, .ref (ad (1, w)))]) (fun _ z => z) ?_
  refine ax_aload_n dX2_collect_49 rfl ?_
  refine ax_aload dX2_collect_50 rfl ?_
  refine ax_callV (b := (ad (1, v))) (av := [.ref (ad (1, w))]) (rest := []) (mc' := 0) (ms' := 0) dX2_collect_52 rfl lkX2_52 (cs_get hi (cs_k1 hv)) rfl (Nat.le_of_ble_eq_true rfl) (Nat.le_of_ble_eq_true rfl) (Nat.le_refl 0) (Nat.le_refl 0) (hdi) (fun E9 h9 q9 => by obtain ⟨_, z, _⟩ := q9; cases z) (fun v9 h9 q9 => ?_)
  obtain ⟨k8, e9, hD, rfl⟩ := q9
  cases e9
  show AW G mX2_collect (d + 1) 0 0 Q 55 [(0, .ref (ad (0, 17))), (1, .ref (ad (1, v))), (2, .ref (ad (0, 6))), (3, .int (nI r)), (4, .ref (ad (1, w)))] [.int (nI k8)] (cs_O ad S h) 0 0
  refine ax_iconst (v := 1) dX2_collect_55 (by decide) ?_
  refine ax_icmp_ne (tgt := 65) dX2_collect_56 (by decide) (fun c1 => ?_) (fun c1 => ?_)
  · refine ax_iinc (v := nI (r + 1)) dX2_collect_65 rfl (nI_1 r) (by decide) ?_
    refine ax_sub (lv' := [(0, .ref (ad (0, 17))), (1, .ref (ad (1, v))), (2, .ref (ad (0, 6))), (3, .int (nI (r + 1))), (4, .ref (ad (1, w)))]) (fun _ z => z) ?_
    refine ax_goto (tgt := 30) dX2_collect_68 (by decide) ?_
    exact ax_sub (lv' := [(0, .ref (ad (0, 17))), (1, .ref (ad (1, v))), (2, .ref (ad (0, 6))), (3, .int (nI (r + 1)))]) (fun _ hz => List.take_subset 4 _ hz) (k2 k8 hD c1)
  · refine ax_aload_n dX2_collect_59 rfl ?_
    refine ax_aload dX2_collect_60 rfl ?_
    refine ax_callV (b := (ad (0, 17))) (av := [.ref (ad (1, w))]) (rest := []) (mc' := 0) (ms' := 0) dX2_collect_62 rfl lkX2_56 (cs_get hi (cs_k0 (by decide))) rfl (Nat.le_of_ble_eq_true rfl) (Nat.le_of_ble_eq_true rfl) (Nat.le_refl 0) (Nat.le_refl 0) (ch_rapp hi _ S h hr hl hw (Q := fun r h1 => r = .inl none ∧ ∃ S', h1 = cs_O ad S' h ∧ st_rs S S' ∧ st_rd (Rs ++ [w]) S') (fun S' a b => ⟨rfl, S', rfl, a, b⟩)) (fun E9 h9 q9 => by cases q9.1) (fun v9 h9 q9 => ?_)
    obtain ⟨e9, S1, rfl, o1, o2⟩ := q9
    cases e9
    show AW G mX2_collect (d + 1) 0 0 Q 65 [(0, .ref (ad (0, 17))), (1, .ref (ad (1, v))), (2, .ref (ad (0, 6))), (3, .int (nI r)), (4, .ref (ad (1, w)))] [] (cs_O ad S1 h) 0 0
    refine ax_iinc (v := nI (r + 1)) dX2_collect_65 rfl (nI_1 r) (by decide) ?_
    refine ax_sub (lv' := [(0, .ref (ad (0, 17))), (1, .ref (ad (1, v))), (2, .ref (ad (0, 6))), (3, .int (nI (r + 1))), (4, .ref (ad (1, w)))]) (fun _ z => z) ?_
    refine ax_goto (tgt := 30) dX2_collect_68 (by decide) ?_
    exact ax_sub (lv' := [(0, .ref (ad (0, 17))), (1, .ref (ad (1, v))), (2, .ref (ad (0, 6))), (3, .int (nI (r + 1)))]) (fun _ hz => List.take_subset 4 _ hz) (k1 k8 hD c1 S1 o1 o2)
set_option maxRecDepth 100000 in
set_option maxHeartbeats 4000000 in
theorem co_end (hi : cs_inj ad) (d : Nat) (S : cs_S) (h : ax_H) {v r rv : Nat} (hv : v < 312) (hr0 : rv ≤ r) (hr3 : r ≤ 300) (hrv : cs_vf S v 1 = nI rv) {Q : ax_P} (hq : Q (.inl none) (cs_O ad S h)) : AW G mX2_collect d 0 0 Q 30 [(0, .ref (ad (0, 17))), (1, .ref (ad (1, v))), (2, .ref (ad (0, 6))), (3, .int (nI r))] [] (cs_O ad S h) 0 0 := by
  refine ax_iload_n dX2_collect_30 rfl ?_
  refine ax_aload_n dX2_collect_31 rfl ?_
  refine ax_get (v := .int (nI rv)) dX2_collect_32 fkX2_45 (cs_get hi (cs_k1 hv)) (congrArg (fun z => some (Value.int z)) (hrv)) ?_
  refine ax_icmp_ge (tgt := 71) dX2_collect_35 (by decide) (fun _ => ?_) (fun z => absurd (il_le rv r hr0) z)
  exact ax_vret (st := []) dX2_collect_71 rfl hq
set_option maxRecDepth 100000 in
set_option maxHeartbeats 4000000 in
theorem co_beg (hi : cs_inj ad) (d : Nat) (S : cs_S) (h : ax_H) {v t zz up : Nat} {Rs : List Nat} (hv : v < 312) (ht0 : cs_vf S v 0 = nI t) (ht4 : t < 4) (h6 : cs_vf S v 6 = nI (zz + 1)) (hz8 : zz ≤ 8) {Q : ax_P}
    (hap : AW G mX2_addPartsOf d 0 0 (fun r h1 => r = .inl none ∧ ∃ S1, h1 = cs_O ad S1 h ∧ st_rs (cs_setS S 12 0) S1 ∧ st_rd Rs S1) 0 [(0, .ref (ad (0, 17))), (1, .ref (ad (1, v))), (2, .int (nI t)), (3, .int 0)] [] (cs_O ad (cs_setS S 12 0) h) 0 0)
    (hup : ∀ S1, st_rs (cs_setS S 12 0) S1 → S1.2.1 10 (9 * t + zz) = nI up) (k : ∀ S1, st_rs (cs_setS S 12 0) S1 → st_rd Rs S1 → AW G mX2_collect (d + 1) 0 0 Q 30 [(0, .ref (ad (0, 17))), (1, .ref (ad (1, v))), (2, .ref (ad (0, 6))), (3, .int (nI up))] [] (cs_O ad S1 h) 0 0) : AW G mX2_collect (d + 1) 0 0 Q 0 [(0, .ref (ad (0, 17))), (1, .ref (ad (1, v))), (2, .ref (ad (0, 6)))] [] (cs_O ad S h) 0 0 := by
  have hV : ∀ S1, st_rs (cs_setS S 12 0) S1 → ∀ i, cs_vf S v i = cs_vf S1 v i := fun S1 o i => by
    show S.2.2.2.1 v i = S1.2.2.2.1 v i
    rw [o.2.2.2]; rfl
  refine ax_aload_n dX2_collect_0 rfl ?_
  refine ax_iconst (v := 0) dX2_collect_1 (by decide) ?_
  refine ax_put dX2_collect_2 fpX2_17 (cs_get hi (cs_k0 (by decide))) rfl rfl (Nat.le_of_ble_eq_true rfl) ?_
  refine ax_eqh (cs_ps12 hi) ?_
  refine ax_aload_n dX2_collect_5 rfl ?_
  refine ax_aload_n dX2_collect_6 rfl ?_
  refine ax_aload_n dX2_collect_7 rfl ?_
  refine ax_get (v := .int (nI t)) dX2_collect_8 fkX2_29 (cs_get hi (cs_k1 hv)) (congrArg (fun z => some (Value.int z)) (ht0)) ?_
  refine ax_iconst (v := 0) dX2_collect_11 (by decide) ?_
  refine ax_callV (b := (ad (0, 17))) (av := [.ref (ad (1, v)), .int (nI t), .int 0]) (rest := []) (mc' := 0) (ms' := 0) dX2_collect_12 rfl lkX2_32 (cs_get hi (cs_k0 (by decide))) rfl (Nat.le_of_ble_eq_true rfl) (Nat.le_of_ble_eq_true rfl) (Nat.le_refl 0) (Nat.le_refl 0) (hap) (fun E9 h9 q9 => by cases q9.1) (fun v9 h9 q9 => ?_)
  obtain ⟨e9, S1, rfl, o1, o2⟩ := q9
  cases e9
  show AW G mX2_collect (d + 1) 0 0 Q 15 [(0, .ref (ad (0, 17))), (1, .ref (ad (1, v))), (2, .ref (ad (0, 6)))] [] (cs_O ad S1 h) 0 0
  refine ax_aload_n dX2_collect_15 rfl ?_
  refine ax_aload_n dX2_collect_16 rfl ?_
  refine ax_get (v := .int (nI t)) dX2_collect_17 fkX2_29 (cs_get hi (cs_k1 hv)) (congrArg (fun z => some (Value.int z)) ((hV S1 o1 0).symm.trans ht0)) ?_
  refine ax_aload_n dX2_collect_20 rfl ?_
  refine ax_get (v := .int (nI (zz + 1))) dX2_collect_21 fkX2_36 (cs_get hi (cs_k1 hv)) (congrArg (fun z => some (Value.int z)) ((hV S1 o1 6).symm.trans h6)) ?_
  refine ax_iconst (v := 1) dX2_collect_24 (by decide) ?_
  refine ax_isub dX2_collect_25 ?_
  refine ax_top (y := (nI zz)) (nI_pred zz) ?_
  refine ax_callV (b := (ad (0, 6))) (av := [.int (nI t), .int (nI zz)]) (rest := []) (mc' := 0) (ms' := 0) dX2_collect_26 rfl lkX2_39 (cs_get hi (cs_k0 (by decide))) rfl (Nat.le_of_ble_eq_true rfl) (Nat.le_of_ble_eq_true rfl) (Nat.le_refl 0) (Nat.le_refl 0) (cv_upTo hi _ S1 h ht4 (z := zz) (by omega)) (fun E9 h9 q9 => by cases q9.1) (fun v9 h9 q9 => ?_)
  obtain ⟨e9, rfl⟩ := q9
  cases e9
  rw [hup S1 o1]
  show AW G mX2_collect (d + 1) 0 0 Q 29 [(0, .ref (ad (0, 17))), (1, .ref (ad (1, v))), (2, .ref (ad (0, 6)))] [.int (nI up)] (cs_O ad S1 h) 0 0
  refine ax_istore_n dX2_collect_29 (by decide) ?_
  refine ax_sub (lv' := [(0, .ref (ad (0, 17))), (1, .ref (ad (1, v))), (2, .ref (ad (0, 6))), (3, .int (nI up))]) (fun _ z => z) ?_
  exact k S1 o1 o2
theorem ch_collect (hi : cs_inj ad) {g : sp_G} (hg : sp_wg g) {p : List sp_E × Nat} (hty : sp_ty g p.1) (d : Nat) (S : cs_S) (h : ax_H) {v : Nat} {e : sp_E} (hf : st_fin g p S) (he : p.1[v]? = some e) {Q : ax_P} (hQ : ∀ S', st_rs S S' → st_rd (sp_red p.1 v) S' → Q (.inl none) (cs_O ad S' h)) : AW G mX2_collect (d + 11) 0 0 Q 0 [(0, .ref (ad (0, 17))), (1, .ref (ad (1, v))), (2, .ref (ad (0, 6)))] [] (cs_O ad S h) 0 0 := by
  obtain ⟨T, H⟩ := p
  have he : T[v]? = some e := he
  have hw : sp_wT T := hf.2.2.2.1
  have hs : sp_srt T := hf.2.2.2.2.1
  have hT1 := hw.1
  have hvl : v < T.length := (List.getElem?_eq_some_iff.mp he).1
  obtain ⟨w1, w2, w3, -⟩ := hw.2 v e he
  have hxo : sp_xo T v = e.2.2 := by unfold sp_xo; rw [he]
  have htp : sp_tp T v = e.1 := by unfold sp_tp; rw [he]
  have hrkv : sp_rk T v = sp_cnt (T.take v) e.1 := by unfold sp_rk; rw [he]
  have hok := hf.2.2.1.2 v e he
  have hsH : sp_sz e ≤ H := hf.2.2.2.2.2.1 e (List.mem_of_getElem? he)
  have hrs0 : st_rs S (cs_setS S 12 0) := ⟨fun i z => pk_un z, rfl, fun _ _ => rfl, rfl⟩
  have hf0 := st_fin_rs hrs0 hf
  have hrl : sp_rk T v ≤ 300 := by
    rw [hrkv]
    have := sp_cnt_le (T.take v) e.1
    rw [List.length_take] at this
    omega
  have hIA0 : sp_IA T e.1 (sp_upto T e.1 (sp_size e.2.2)) [] := ⟨List.nodup_nil, fun x z => absurd z List.not_mem_nil⟩
  have hIA1 := sp_prs_IA hw hs (t := e.1) (z := sp_size e.2.2) 8 v e [] he (by unfold sp_sz; omega) hIA0
  have hlo : sp_upto T e.1 (sp_size e.2.2) ≤ sp_rk T v := by
    rw [hrkv]; exact sp_upto_cut hs he (by unfold sp_sz; omega)
  refine co_beg hi (d + 10) S h (Rs := sp_prs T e.1 8 v []) (zz := sp_size e.2.2) (up := sp_upto T e.1 (sp_size e.2.2)) (by omega) hok.1.1 w1 (by rw [Nat.add_comm]; exact hok.1.2.2.2.1) (by omega) ?_ (fun S1 o => ?_) (fun S1 o1 o2 => ?_)
  · exact ap_val hi h hw hs w1 8 v e (cs_setS S 12 0) [] he (by unfold sp_sz; omega) (by unfold sp_sz; omega) (st_fin_vs hf0) ⟨rfl, by simp, fun i w z => by simp at z⟩ hIA0 (d + 8) 0 _ (by omega) (by omega) (fun S' a b => ⟨rfl, S', rfl, a, b⟩)
  · exact (st_fin_rs o hf0).2.2.2.2.2.2.1 e.1 (sp_size e.2.2) w1 (by unfold sp_sz at hsH; show sp_size e.2.2 ≤ H; omega)
  · have hrs1 := st_rs_tr hrs0 o1
    have loop : ∀ (i r : Nat) (S' : cs_S) (acc : List Nat), r + i = sp_rk T v → sp_upto T e.1 (sp_size e.2.2) ≤ r → st_rs S S' → st_rd acc S' → sp_IA T e.1 r acc → (∀ S'', st_rs S' S'' → st_rd (acc ++ (((sp_of T e.1).take (sp_rk T v)).drop r).filter (fun w => decide (sp_sh (sp_cd T v) = sp_sh (sp_cd T w) ∧ sp_ham (sp_cd T v) (sp_cd T w) = 1))) S'' → Q (.inl none) (cs_O ad S'' h)) → AW G mX2_collect (d + 11) 0 0 Q 30 [(0, .ref (ad (0, 17))), (1, .ref (ad (1, v))), (2, .ref (ad (0, 6))), (3, .int (nI r))] [] (cs_O ad S' h) 0 0 := by
      intro i
      induction i with
      | zero =>
        intro r S' acc hr hlr hrs hrd hIA hQ
        have hf' := st_fin_rs hrs hf
        rw [List.drop_eq_nil_of_le (by rw [List.length_take]; omega), List.filter_nil, List.append_nil] at hQ
        exact co_end hi (d + 11) S' h (by omega) (rv := sp_rk T v) (by omega) (by omega) ((hf'.2.2.1.2 v e he).2.1.trans (by rw [hrkv])) (hQ S' (st_rs_rfl _) hrd)
      | succ i ih =>
        intro r S' acc hr hlr hrs hrd hIA hQ
        have hf' := st_fin_rs hrs hf
        have hlen : sp_rk T v < (sp_of T e.1).length := by
          have := (List.getElem?_eq_some_iff.mp (sp_rk_in hvl)).1
          rw [htp] at this
          exact this
        have hrl2 : r < (sp_of T e.1).length := by omega
        have hwr : (sp_of T e.1)[r]? = some (sp_of T e.1)[r] := List.getElem?_eq_getElem hrl2
        obtain ⟨ew, f1, f2, f3⟩ := sp_of_at hwr
        obtain ⟨z1, z2, z3⟩ := sp_rk_of hwr
        have hd1 : ((sp_of T e.1).take (sp_rk T v)).drop r = (sp_of T e.1)[r] :: ((sp_of T e.1).take (sp_rk T v)).drop (r + 1) := by
          rw [List.drop_eq_getElem_cons (by rw [List.length_take]; omega), List.getElem_take]
        rw [hd1] at hQ
        have hoV := hf'.2.2.1.2 v e he
        have hoW := (hf'.2.2.1.2 _ ew f1).2.2
        rw [f2, f3] at hoW
        have hcnt : r < sp_cnt T e.1 := by rw [← sp_of_len]; exact hrl2
        have hcnt3 : sp_cnt T e.1 ≤ 300 := Nat.le_trans (sp_cnt_le _ _) hT1
        have hal := sp_IA_len hIA
        refine co_turn hi (d + 10) S' h (v := v) (w := (sp_of T e.1)[r]) (r := r) (rv := sp_rk T v) (t := e.1) (kk := sp_cnt T e.1) (Rs := acc) (R9 := sp_D 8 (sp_cd T v) (sp_cd T (sp_of T e.1)[r])) (by omega) (by omega) (by omega) hrl (hoV.2.1.trans (by rw [hrkv])) hoV.1.1 w1 (hf'.2.2.1.1 e.1 w1) hcnt hcnt3 hoW hrd (by omega) ?_ (fun k hD hk S2 a b => ?_) (fun k hD hk => ?_)
        · refine ch_differs hi hg (d + 9) S' h (st_fin_cod hg hf' hty he) (f2 ▸ st_fin_cod hg hf' hty f1) (by omega) (by omega) (fun r hr => ⟨r, rfl, hr, rfl⟩)
        · have hk1 : k = 1 := by
            rw [show (1 : Int32) = nI 1 by decide, nI_eq (by have := hD.2.2; omega) (by decide)] at hk
            exact hk
          have hc := (sp_D1 hD).mp hk1
          rw [List.filter_cons_of_pos (by simpa using hc)] at hQ
          have hnot : (sp_of T e.1)[r] ∉ acc := fun hm => by
            have := (hIA.2 _ hm).2.2
            omega
          refine ih (r + 1) S2 (acc ++ [(sp_of T e.1)[r]]) (by omega) (by omega) (st_rs_tr hrs a) b (sp_IA_snoc (sp_IA_up hIA (by omega)) z1 z2 (by omega) hnot) (fun S3 a3 b3 => hQ S3 (st_rs_tr a a3) ?_)
          rwa [List.append_assoc, List.singleton_append] at b3
        · have hk1 : ¬ k = 1 := fun z => hk (by rw [z]; decide)
          have hc : ¬ (sp_sh (sp_cd T v) = sp_sh (sp_cd T (sp_of T e.1)[r]) ∧ sp_ham (sp_cd T v) (sp_cd T (sp_of T e.1)[r]) = 1) := fun z => hk1 ((sp_D1 hD).mpr z)
          rw [List.filter_cons_of_neg (by simpa using hc)] at hQ
          exact ih (r + 1) S' acc (by omega) (by omega) hrs hrd (sp_IA_up hIA (by omega)) hQ
    refine loop (sp_rk T v - sp_upto T e.1 (sp_size e.2.2)) _ S1 _ (by omega) (Nat.le_refl _) hrs1 o2 hIA1 (fun S' a b => hQ S' (st_rs_tr hrs1 a) ?_)
    show st_rd (sp_prs T (sp_tp T v) 8 v [] ++ sp_dec T v) S'
    unfold sp_dec
    rw [htp, hxo, show 1 + sp_size e.2.2 - 1 = sp_size e.2.2 by omega]
    exact b
end COL

