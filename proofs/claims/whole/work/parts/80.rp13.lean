/-! ===== the reference: addConstructor, its row ===== -/
section RP13
variable {G : ax_G} {A : rw_Ad}
set_option maxRecDepth 100000 in
set_option maxHeartbeats 4000000 in
theorem ac_new (hA : rw_nd A) (d : Nat) (R : rw_S) (h : ax_H) {t a b c k : Int32} {Q : ax_P} (kk : ∀ (x : Nat) (f : Nat → Int32) (h' : ax_H), hx_le h h' → rw_at A h' x (.inl (0, 3, .inl f)) → f 0 = a → f 1 = b → f 2 = c → AW G mX7_addConstructor (d + 48) 1 3 Q 37 [(0, .ref (A.1 0)), (1, .int t), (2, .int a), (3, .int b), (4, .int c), (5, .int k), (6, .ref x)] [] (rw_O A R h') 1 3) : AW G mX7_addConstructor (d + 48) 1 3 Q 19 [(0, .ref (A.1 0)), (1, .int t), (2, .int a), (3, .int b), (4, .int c), (5, .int k)] [] (rw_O A R h) 0 0 := by
  refine ax_iconst (v := 3) dX7_addConstructor_19 (by decide) ?_
  refine ax_newa_int (N := 3) dX7_addConstructor_20 ax_aI (by decide) (by decide) (by decide) (by decide) (by decide) (fun x hb => ?_)
  obtain ⟨b1, b2⟩ := rw_new hA hb
  refine ax_eqh (rw_up b1) ?_
  have t0 : rw_at A (va_up h x (some (.inl (0, 3, .inl (fun _ => 0))))) x (.inl (0, 3, .inl (fun _ => 0))) := ⟨ax_up_s, b1⟩
  have t1 : rw_at A (va_up (va_up h x (some (.inl (0, 3, .inl (fun _ => 0))))) x (some (.inl (0, 3, .inl (upd (fun _ => 0) (0 : Int32).toNatClampNeg a))))) x (.inl (0, 3, .inl (upd (fun _ => 0) (0 : Int32).toNatClampNeg a))) := ⟨ax_up_s, b1⟩
  have t2 : rw_at A (va_up (va_up (va_up h x (some (.inl (0, 3, .inl (fun _ => 0))))) x (some (.inl (0, 3, .inl (upd (fun _ => 0) (0 : Int32).toNatClampNeg a))))) x (some (.inl (0, 3, .inl (upd (upd (fun _ => 0) (0 : Int32).toNatClampNeg a) (1 : Int32).toNatClampNeg b))))) x (.inl (0, 3, .inl (upd (upd (fun _ => 0) (0 : Int32).toNatClampNeg a) (1 : Int32).toNatClampNeg b))) := ⟨ax_up_s, b1⟩
  have t3 : rw_at A (va_up (va_up (va_up (va_up h x (some (.inl (0, 3, .inl (fun _ => 0))))) x (some (.inl (0, 3, .inl (upd (fun _ => 0) (0 : Int32).toNatClampNeg a))))) x (some (.inl (0, 3, .inl (upd (upd (fun _ => 0) (0 : Int32).toNatClampNeg a) (1 : Int32).toNatClampNeg b))))) x (some (.inl (0, 3, .inl (upd (upd (upd (fun _ => 0) (0 : Int32).toNatClampNeg a) (1 : Int32).toNatClampNeg b) (2 : Int32).toNatClampNeg c))))) x (.inl (0, 3, .inl (upd (upd (upd (fun _ => 0) (0 : Int32).toNatClampNeg a) (1 : Int32).toNatClampNeg b) (2 : Int32).toNatClampNeg c))) := ⟨ax_up_s, b1⟩
  refine ax_dup dX7_addConstructor_22 rfl ?_
  refine ax_iconst (v := 0) dX7_addConstructor_23 (by decide) ?_
  refine ax_iload_n dX7_addConstructor_24 rfl ?_
  refine ax_iast dX7_addConstructor_25 (rw_rd t0) (by unfold vp_in; decide) ?_
  refine ax_eqh (rw_up b1) ?_
  refine ax_dup dX7_addConstructor_26 rfl ?_
  refine ax_iconst (v := 1) dX7_addConstructor_27 (by decide) ?_
  refine ax_iload_n dX7_addConstructor_28 rfl ?_
  refine ax_iast dX7_addConstructor_29 (rw_rd t1) (by unfold vp_in; decide) ?_
  refine ax_eqh (rw_up b1) ?_
  refine ax_dup dX7_addConstructor_30 rfl ?_
  refine ax_iconst (v := 2) dX7_addConstructor_31 (by decide) ?_
  refine ax_iload dX7_addConstructor_32 rfl ?_
  refine ax_iast dX7_addConstructor_34 (rw_rd t2) (by unfold vp_in; decide) ?_
  refine ax_eqh (rw_up b1) ?_
  refine ax_astore dX7_addConstructor_35 (by decide) ?_
  refine kk x _ _ (fun z o hz => ?_) t3 rfl rfl rfl
  have : z ≠ x := fun e => by rw [e, b2] at hz; cases hz
  rw [ax_up_n this, ax_up_n this, ax_up_n this, ax_up_n this]; exact hz
end RP13
