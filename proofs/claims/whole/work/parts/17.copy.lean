/-! ===== copyFrom ===== -/
theorem ax_waastO {G : ax_G} {M : ax_M} {d mc ms : Nat} {Q : ax_P} {pc : Nat} {lv : ax_L} {st : List Value} {h : ax_H} {cn sn : Nat} {l : List (Nat × ax_E)} {a z : Nat} {o : Option Nat} {f : Nat → Option Nat} {i : Int32} {l' : List (Nat × ax_E)} (n : Nat) (hn : (l.map (fun q => q.1)).Nodup) (hi : l[n]? = some (a, .inl (3, z, .inr (.inr (.inr (.inr f)))))) (ho : ∀ y, o = some y → ∃ vs, ax_w h l y = some (.inr (5, vs))) (hd : decode M.2.1 pc = .ok (.aastore, 1)) (hin : vp_in i z) (hl' : l.set n (a, .inl (3, z, .inr (.inr (.inr (.inr (va_up f i.toNatClampNeg o)))))) = l') (k : AW G M d mc ms Q (pc + 1) lv st (ax_w h l') cn sn) : AW G M d mc ms Q pc lv (va_rf o :: .int i :: .ref a :: st) (ax_w h l) cn sn := by
  cases o with
  | none => exact ax_waast3N n hn hi hd hin hl' k
  | some y =>
    obtain ⟨vs, hv⟩ := ho y rfl
    exact ax_aast3 hd (ax_w_get hn hi) hv hin (by rw [ax_w_set _ hn hi, hl']; exact k)
set_option maxRecDepth 100000 in
set_option maxHeartbeats 4000000 in
theorem ctX5_copyFrom_0 {G : ax_G} (d : Nat) (h : ax_H) (a n p b n2 p2 : Nat) (V W fN fN2 : Nat → Int32) (fR fR2 : Nat → Option Nat) (hW : W 3 = nI 0) (hb : narrow .boolean (.int (W 15)) = .int (W 15)) (hb2 : fits .boolean (.int (W 15)) = true) (hR : ∀ j, j < 0 → ∀ y, fR2 j = some y → y ∉ [a, n, p, b, n2, p2] ∧ ∃ vs, h y = some (.inr (5, vs))) (hn : ([a, n, p, b, n2, p2] : List Nat).Nodup) : AW G mX5_copyFrom d 0 0 (fun r h1 => r = .inl none ∧ h1 = ax_w h [(a, .inr (5, [.int (W 0), .int (W 1), .int (W 2), .int (W 3), .ref n, .ref p, .int (W 6), .int (W 7), .int (W 8), .int (W 9), .int (W 10), .int (W 11), .int (W 12), .int (W 13), .int (W 14), .int (W 15)])), (n, .inl (0, 3, .inl fN)), (p, .inl (3, 3, .inr (.inr (.inr (.inr fR))))), (b, .inr (5, [.int (W 0), .int (W 1), .int (W 2), .int (W 3), .ref n2, .ref p2, .int (W 6), .int (W 7), .int (W 8), .int (W 9), .int (W 10), .int (W 11), .int (W 12), .int (W 13), .int (W 14), .int (W 15)])), (n2, .inl (0, 3, .inl fN2)), (p2, .inl (3, 3, .inr (.inr (.inr (.inr fR2)))))]) 0 [(0, .ref a), (1, .ref b)] [] (ax_w h [(a, .inr (5, [.int (V 0), .int (V 1), .int (V 2), .int (V 3), .ref n, .ref p, .int (V 6), .int (V 7), .int (V 8), .int (V 9), .int (V 10), .int (V 11), .int (V 12), .int (V 13), .int (V 14), .int (V 15)])), (n, .inl (0, 3, .inl fN)), (p, .inl (3, 3, .inr (.inr (.inr (.inr fR))))), (b, .inr (5, [.int (W 0), .int (W 1), .int (W 2), .int (W 3), .ref n2, .ref p2, .int (W 6), .int (W 7), .int (W 8), .int (W 9), .int (W 10), .int (W 11), .int (W 12), .int (W 13), .int (W 14), .int (W 15)])), (n2, .inl (0, 3, .inl fN2)), (p2, .inl (3, 3, .inr (.inr (.inr (.inr fR2)))))]) 0 0 := by
  refine ax_aload_n dX5_copyFrom_0 rfl ?_
  refine ax_aload_n dX5_copyFrom_1 rfl ?_
  refine ax_wget 3 hn rfl dX5_copyFrom_2 fkX5_19 rfl ?_
  refine ax_wput (l' := [(a, .inr (5, [.int (W 0), .int (V 1), .int (V 2), .int (V 3), .ref n, .ref p, .int (V 6), .int (V 7), .int (V 8), .int (V 9), .int (V 10), .int (V 11), .int (V 12), .int (V 13), .int (V 14), .int (V 15)])), (n, .inl (0, 3, .inl fN)), (p, .inl (3, 3, .inr (.inr (.inr (.inr fR))))), (b, .inr (5, [.int (W 0), .int (W 1), .int (W 2), .int (W 3), .ref n2, .ref p2, .int (W 6), .int (W 7), .int (W 8), .int (W 9), .int (W 10), .int (W 11), .int (W 12), .int (W 13), .int (W 14), .int (W 15)])), (n2, .inl (0, 3, .inl fN2)), (p2, .inl (3, 3, .inr (.inr (.inr (.inr fR2)))))]) 0 hn rfl dX5_copyFrom_5 fpX5_19 rfl rfl (Nat.le_of_ble_eq_true rfl) rfl ?_
  refine ax_aload_n dX5_copyFrom_8 rfl ?_
  refine ax_aload_n dX5_copyFrom_9 rfl ?_
  refine ax_wget 3 hn rfl dX5_copyFrom_10 fkX5_23 rfl ?_
  refine ax_wput (l' := [(a, .inr (5, [.int (W 0), .int (W 1), .int (V 2), .int (V 3), .ref n, .ref p, .int (V 6), .int (V 7), .int (V 8), .int (V 9), .int (V 10), .int (V 11), .int (V 12), .int (V 13), .int (V 14), .int (V 15)])), (n, .inl (0, 3, .inl fN)), (p, .inl (3, 3, .inr (.inr (.inr (.inr fR))))), (b, .inr (5, [.int (W 0), .int (W 1), .int (W 2), .int (W 3), .ref n2, .ref p2, .int (W 6), .int (W 7), .int (W 8), .int (W 9), .int (W 10), .int (W 11), .int (W 12), .int (W 13), .int (W 14), .int (W 15)])), (n2, .inl (0, 3, .inl fN2)), (p2, .inl (3, 3, .inr (.inr (.inr (.inr fR2)))))]) 0 hn rfl dX5_copyFrom_13 fpX5_23 rfl rfl (Nat.le_of_ble_eq_true rfl) rfl ?_
  refine ax_aload_n dX5_copyFrom_16 rfl ?_
  refine ax_aload_n dX5_copyFrom_17 rfl ?_
  refine ax_wget 3 hn rfl dX5_copyFrom_18 fkX5_26 rfl ?_
  refine ax_wput (l' := [(a, .inr (5, [.int (W 0), .int (W 1), .int (W 2), .int (V 3), .ref n, .ref p, .int (V 6), .int (V 7), .int (V 8), .int (V 9), .int (V 10), .int (V 11), .int (V 12), .int (V 13), .int (V 14), .int (V 15)])), (n, .inl (0, 3, .inl fN)), (p, .inl (3, 3, .inr (.inr (.inr (.inr fR))))), (b, .inr (5, [.int (W 0), .int (W 1), .int (W 2), .int (W 3), .ref n2, .ref p2, .int (W 6), .int (W 7), .int (W 8), .int (W 9), .int (W 10), .int (W 11), .int (W 12), .int (W 13), .int (W 14), .int (W 15)])), (n2, .inl (0, 3, .inl fN2)), (p2, .inl (3, 3, .inr (.inr (.inr (.inr fR2)))))]) 0 hn rfl dX5_copyFrom_21 fpX5_26 rfl rfl (Nat.le_of_ble_eq_true rfl) rfl ?_
  refine ax_aload_n dX5_copyFrom_24 rfl ?_
  refine ax_aload_n dX5_copyFrom_25 rfl ?_
  refine ax_wget 3 hn rfl dX5_copyFrom_26 fkX5_29 rfl ?_
  refine ax_wput (l' := [(a, .inr (5, [.int (W 0), .int (W 1), .int (W 2), .int (W 3), .ref n, .ref p, .int (V 6), .int (V 7), .int (V 8), .int (V 9), .int (V 10), .int (V 11), .int (V 12), .int (V 13), .int (V 14), .int (V 15)])), (n, .inl (0, 3, .inl fN)), (p, .inl (3, 3, .inr (.inr (.inr (.inr fR))))), (b, .inr (5, [.int (W 0), .int (W 1), .int (W 2), .int (W 3), .ref n2, .ref p2, .int (W 6), .int (W 7), .int (W 8), .int (W 9), .int (W 10), .int (W 11), .int (W 12), .int (W 13), .int (W 14), .int (W 15)])), (n2, .inl (0, 3, .inl fN2)), (p2, .inl (3, 3, .inr (.inr (.inr (.inr fR2)))))]) 0 hn rfl dX5_copyFrom_29 fpX5_29 rfl rfl (Nat.le_of_ble_eq_true rfl) rfl ?_
  refine ax_iconst (v := 0) dX5_copyFrom_32 (by decide) ?_
  refine ax_istore_n dX5_copyFrom_33 (by decide) ?_
  refine ax_sub (lv' := [(0, .ref a), (1, .ref b), (2, .int 0)]) (fun _ z => z) ?_
  refine ax_iload_n dX5_copyFrom_34 rfl ?_
  refine ax_aload_n dX5_copyFrom_35 rfl ?_
  refine ax_wget 0 hn rfl dX5_copyFrom_36 fkX5_29 rfl ?_
  refine ax_icmp_ge (tgt := 77) dX5_copyFrom_39 (by decide) (fun _ => ?_) (fun z => absurd (by rw [hW]; decide) z)
  refine ax_aload_n dX5_copyFrom_77 rfl ?_
  refine ax_aload_n dX5_copyFrom_78 rfl ?_
  refine ax_wget 3 hn rfl dX5_copyFrom_79 fkX5_32 rfl ?_
  refine ax_wput (l' := [(a, .inr (5, [.int (W 0), .int (W 1), .int (W 2), .int (W 3), .ref n, .ref p, .int (W 6), .int (V 7), .int (V 8), .int (V 9), .int (V 10), .int (V 11), .int (V 12), .int (V 13), .int (V 14), .int (V 15)])), (n, .inl (0, 3, .inl fN)), (p, .inl (3, 3, .inr (.inr (.inr (.inr fR))))), (b, .inr (5, [.int (W 0), .int (W 1), .int (W 2), .int (W 3), .ref n2, .ref p2, .int (W 6), .int (W 7), .int (W 8), .int (W 9), .int (W 10), .int (W 11), .int (W 12), .int (W 13), .int (W 14), .int (W 15)])), (n2, .inl (0, 3, .inl fN2)), (p2, .inl (3, 3, .inr (.inr (.inr (.inr fR2)))))]) 0 hn rfl dX5_copyFrom_82 fpX5_32 rfl rfl (Nat.le_of_ble_eq_true rfl) rfl ?_
  refine ax_aload_n dX5_copyFrom_85 rfl ?_
  refine ax_aload_n dX5_copyFrom_86 rfl ?_
  refine ax_wget 3 hn rfl dX5_copyFrom_87 fkX5_35 rfl ?_
  refine ax_wput (l' := [(a, .inr (5, [.int (W 0), .int (W 1), .int (W 2), .int (W 3), .ref n, .ref p, .int (W 6), .int (W 7), .int (V 8), .int (V 9), .int (V 10), .int (V 11), .int (V 12), .int (V 13), .int (V 14), .int (V 15)])), (n, .inl (0, 3, .inl fN)), (p, .inl (3, 3, .inr (.inr (.inr (.inr fR))))), (b, .inr (5, [.int (W 0), .int (W 1), .int (W 2), .int (W 3), .ref n2, .ref p2, .int (W 6), .int (W 7), .int (W 8), .int (W 9), .int (W 10), .int (W 11), .int (W 12), .int (W 13), .int (W 14), .int (W 15)])), (n2, .inl (0, 3, .inl fN2)), (p2, .inl (3, 3, .inr (.inr (.inr (.inr fR2)))))]) 0 hn rfl dX5_copyFrom_90 fpX5_35 rfl rfl (Nat.le_of_ble_eq_true rfl) rfl ?_
  refine ax_aload_n dX5_copyFrom_93 rfl ?_
  refine ax_aload_n dX5_copyFrom_94 rfl ?_
  refine ax_wget 3 hn rfl dX5_copyFrom_95 fkX5_38 rfl ?_
  refine ax_wput (l' := [(a, .inr (5, [.int (W 0), .int (W 1), .int (W 2), .int (W 3), .ref n, .ref p, .int (W 6), .int (W 7), .int (W 8), .int (V 9), .int (V 10), .int (V 11), .int (V 12), .int (V 13), .int (V 14), .int (V 15)])), (n, .inl (0, 3, .inl fN)), (p, .inl (3, 3, .inr (.inr (.inr (.inr fR))))), (b, .inr (5, [.int (W 0), .int (W 1), .int (W 2), .int (W 3), .ref n2, .ref p2, .int (W 6), .int (W 7), .int (W 8), .int (W 9), .int (W 10), .int (W 11), .int (W 12), .int (W 13), .int (W 14), .int (W 15)])), (n2, .inl (0, 3, .inl fN2)), (p2, .inl (3, 3, .inr (.inr (.inr (.inr fR2)))))]) 0 hn rfl dX5_copyFrom_98 fpX5_38 rfl rfl (Nat.le_of_ble_eq_true rfl) rfl ?_
  refine ax_aload_n dX5_copyFrom_101 rfl ?_
  refine ax_aload_n dX5_copyFrom_102 rfl ?_
  refine ax_wget 3 hn rfl dX5_copyFrom_103 fkX5_41 rfl ?_
  refine ax_wput (l' := [(a, .inr (5, [.int (W 0), .int (W 1), .int (W 2), .int (W 3), .ref n, .ref p, .int (W 6), .int (W 7), .int (W 8), .int (W 9), .int (V 10), .int (V 11), .int (V 12), .int (V 13), .int (V 14), .int (V 15)])), (n, .inl (0, 3, .inl fN)), (p, .inl (3, 3, .inr (.inr (.inr (.inr fR))))), (b, .inr (5, [.int (W 0), .int (W 1), .int (W 2), .int (W 3), .ref n2, .ref p2, .int (W 6), .int (W 7), .int (W 8), .int (W 9), .int (W 10), .int (W 11), .int (W 12), .int (W 13), .int (W 14), .int (W 15)])), (n2, .inl (0, 3, .inl fN2)), (p2, .inl (3, 3, .inr (.inr (.inr (.inr fR2)))))]) 0 hn rfl dX5_copyFrom_106 fpX5_41 rfl rfl (Nat.le_of_ble_eq_true rfl) rfl ?_
  refine ax_aload_n dX5_copyFrom_109 rfl ?_
  refine ax_aload_n dX5_copyFrom_110 rfl ?_
  refine ax_wget 3 hn rfl dX5_copyFrom_111 fkX5_44 rfl ?_
  refine ax_wput (l' := [(a, .inr (5, [.int (W 0), .int (W 1), .int (W 2), .int (W 3), .ref n, .ref p, .int (W 6), .int (W 7), .int (W 8), .int (W 9), .int (W 10), .int (V 11), .int (V 12), .int (V 13), .int (V 14), .int (V 15)])), (n, .inl (0, 3, .inl fN)), (p, .inl (3, 3, .inr (.inr (.inr (.inr fR))))), (b, .inr (5, [.int (W 0), .int (W 1), .int (W 2), .int (W 3), .ref n2, .ref p2, .int (W 6), .int (W 7), .int (W 8), .int (W 9), .int (W 10), .int (W 11), .int (W 12), .int (W 13), .int (W 14), .int (W 15)])), (n2, .inl (0, 3, .inl fN2)), (p2, .inl (3, 3, .inr (.inr (.inr (.inr fR2)))))]) 0 hn rfl dX5_copyFrom_114 fpX5_44 rfl rfl (Nat.le_of_ble_eq_true rfl) rfl ?_
  refine ax_aload_n dX5_copyFrom_117 rfl ?_
  refine ax_aload_n dX5_copyFrom_118 rfl ?_
  refine ax_wget 3 hn rfl dX5_copyFrom_119 fkX5_47 rfl ?_
  refine ax_wput (l' := [(a, .inr (5, [.int (W 0), .int (W 1), .int (W 2), .int (W 3), .ref n, .ref p, .int (W 6), .int (W 7), .int (W 8), .int (W 9), .int (W 10), .int (W 11), .int (V 12), .int (V 13), .int (V 14), .int (V 15)])), (n, .inl (0, 3, .inl fN)), (p, .inl (3, 3, .inr (.inr (.inr (.inr fR))))), (b, .inr (5, [.int (W 0), .int (W 1), .int (W 2), .int (W 3), .ref n2, .ref p2, .int (W 6), .int (W 7), .int (W 8), .int (W 9), .int (W 10), .int (W 11), .int (W 12), .int (W 13), .int (W 14), .int (W 15)])), (n2, .inl (0, 3, .inl fN2)), (p2, .inl (3, 3, .inr (.inr (.inr (.inr fR2)))))]) 0 hn rfl dX5_copyFrom_122 fpX5_47 rfl rfl (Nat.le_of_ble_eq_true rfl) rfl ?_
  refine ax_aload_n dX5_copyFrom_125 rfl ?_
  refine ax_aload_n dX5_copyFrom_126 rfl ?_
  refine ax_wget 3 hn rfl dX5_copyFrom_127 fkX5_50 rfl ?_
  refine ax_wput (l' := [(a, .inr (5, [.int (W 0), .int (W 1), .int (W 2), .int (W 3), .ref n, .ref p, .int (W 6), .int (W 7), .int (W 8), .int (W 9), .int (W 10), .int (W 11), .int (W 12), .int (V 13), .int (V 14), .int (V 15)])), (n, .inl (0, 3, .inl fN)), (p, .inl (3, 3, .inr (.inr (.inr (.inr fR))))), (b, .inr (5, [.int (W 0), .int (W 1), .int (W 2), .int (W 3), .ref n2, .ref p2, .int (W 6), .int (W 7), .int (W 8), .int (W 9), .int (W 10), .int (W 11), .int (W 12), .int (W 13), .int (W 14), .int (W 15)])), (n2, .inl (0, 3, .inl fN2)), (p2, .inl (3, 3, .inr (.inr (.inr (.inr fR2)))))]) 0 hn rfl dX5_copyFrom_130 fpX5_50 rfl rfl (Nat.le_of_ble_eq_true rfl) rfl ?_
  refine ax_aload_n dX5_copyFrom_133 rfl ?_
  refine ax_aload_n dX5_copyFrom_134 rfl ?_
  refine ax_wget 3 hn rfl dX5_copyFrom_135 fkX5_53 rfl ?_
  refine ax_wput (l' := [(a, .inr (5, [.int (W 0), .int (W 1), .int (W 2), .int (W 3), .ref n, .ref p, .int (W 6), .int (W 7), .int (W 8), .int (W 9), .int (W 10), .int (W 11), .int (W 12), .int (V 13), .int (W 14), .int (V 15)])), (n, .inl (0, 3, .inl fN)), (p, .inl (3, 3, .inr (.inr (.inr (.inr fR))))), (b, .inr (5, [.int (W 0), .int (W 1), .int (W 2), .int (W 3), .ref n2, .ref p2, .int (W 6), .int (W 7), .int (W 8), .int (W 9), .int (W 10), .int (W 11), .int (W 12), .int (W 13), .int (W 14), .int (W 15)])), (n2, .inl (0, 3, .inl fN2)), (p2, .inl (3, 3, .inr (.inr (.inr (.inr fR2)))))]) 0 hn rfl dX5_copyFrom_138 fpX5_53 rfl rfl (Nat.le_of_ble_eq_true rfl) rfl ?_
  refine ax_aload_n dX5_copyFrom_141 rfl ?_
  refine ax_aload_n dX5_copyFrom_142 rfl ?_
  refine ax_wget 3 hn rfl dX5_copyFrom_143 fkX5_56 rfl ?_
  refine ax_wput (l' := [(a, .inr (5, [.int (W 0), .int (W 1), .int (W 2), .int (W 3), .ref n, .ref p, .int (W 6), .int (W 7), .int (W 8), .int (W 9), .int (W 10), .int (W 11), .int (W 12), .int (W 13), .int (W 14), .int (V 15)])), (n, .inl (0, 3, .inl fN)), (p, .inl (3, 3, .inr (.inr (.inr (.inr fR))))), (b, .inr (5, [.int (W 0), .int (W 1), .int (W 2), .int (W 3), .ref n2, .ref p2, .int (W 6), .int (W 7), .int (W 8), .int (W 9), .int (W 10), .int (W 11), .int (W 12), .int (W 13), .int (W 14), .int (W 15)])), (n2, .inl (0, 3, .inl fN2)), (p2, .inl (3, 3, .inr (.inr (.inr (.inr fR2)))))]) 0 hn rfl dX5_copyFrom_146 fpX5_56 rfl rfl (Nat.le_of_ble_eq_true rfl) rfl ?_
  refine ax_aload_n dX5_copyFrom_149 rfl ?_
  refine ax_aload_n dX5_copyFrom_150 rfl ?_
  refine ax_wget 3 hn rfl dX5_copyFrom_151 fkX5_59 rfl ?_
  refine ax_wput (l' := [(a, .inr (5, [.int (W 0), .int (W 1), .int (W 2), .int (W 3), .ref n, .ref p, .int (W 6), .int (W 7), .int (W 8), .int (W 9), .int (W 10), .int (W 11), .int (W 12), .int (W 13), .int (W 14), .int (W 15)])), (n, .inl (0, 3, .inl fN)), (p, .inl (3, 3, .inr (.inr (.inr (.inr fR))))), (b, .inr (5, [.int (W 0), .int (W 1), .int (W 2), .int (W 3), .ref n2, .ref p2, .int (W 6), .int (W 7), .int (W 8), .int (W 9), .int (W 10), .int (W 11), .int (W 12), .int (W 13), .int (W 14), .int (W 15)])), (n2, .inl (0, 3, .inl fN2)), (p2, .inl (3, 3, .inr (.inr (.inr (.inr fR2)))))]) 0 hn rfl dX5_copyFrom_154 fpX5_59 (by first | exact hb | exact hb2) (by first | exact hb | exact hb2) (Nat.le_of_ble_eq_true rfl) rfl ?_
  exact ax_vret (st := []) dX5_copyFrom_157 rfl ⟨rfl, rfl⟩
set_option maxRecDepth 100000 in
set_option maxHeartbeats 4000000 in
theorem ctX5_copyFrom_1 {G : ax_G} (d : Nat) (h : ax_H) (a n p b n2 p2 : Nat) (V W fN fN2 : Nat → Int32) (fR fR2 : Nat → Option Nat) (hW : W 3 = nI 1) (hb : narrow .boolean (.int (W 15)) = .int (W 15)) (hb2 : fits .boolean (.int (W 15)) = true) (hR : ∀ j, j < 1 → ∀ y, fR2 j = some y → y ∉ [a, n, p, b, n2, p2] ∧ ∃ vs, h y = some (.inr (5, vs))) (hn : ([a, n, p, b, n2, p2] : List Nat).Nodup) : AW G mX5_copyFrom d 0 0 (fun r h1 => r = .inl none ∧ h1 = ax_w h [(a, .inr (5, [.int (W 0), .int (W 1), .int (W 2), .int (W 3), .ref n, .ref p, .int (W 6), .int (W 7), .int (W 8), .int (W 9), .int (W 10), .int (W 11), .int (W 12), .int (W 13), .int (W 14), .int (W 15)])), (n, .inl (0, 3, .inl (upd fN 0 (fN2 0)))), (p, .inl (3, 3, .inr (.inr (.inr (.inr (va_up fR 0 (fR2 0))))))), (b, .inr (5, [.int (W 0), .int (W 1), .int (W 2), .int (W 3), .ref n2, .ref p2, .int (W 6), .int (W 7), .int (W 8), .int (W 9), .int (W 10), .int (W 11), .int (W 12), .int (W 13), .int (W 14), .int (W 15)])), (n2, .inl (0, 3, .inl fN2)), (p2, .inl (3, 3, .inr (.inr (.inr (.inr fR2)))))]) 0 [(0, .ref a), (1, .ref b)] [] (ax_w h [(a, .inr (5, [.int (V 0), .int (V 1), .int (V 2), .int (V 3), .ref n, .ref p, .int (V 6), .int (V 7), .int (V 8), .int (V 9), .int (V 10), .int (V 11), .int (V 12), .int (V 13), .int (V 14), .int (V 15)])), (n, .inl (0, 3, .inl fN)), (p, .inl (3, 3, .inr (.inr (.inr (.inr fR))))), (b, .inr (5, [.int (W 0), .int (W 1), .int (W 2), .int (W 3), .ref n2, .ref p2, .int (W 6), .int (W 7), .int (W 8), .int (W 9), .int (W 10), .int (W 11), .int (W 12), .int (W 13), .int (W 14), .int (W 15)])), (n2, .inl (0, 3, .inl fN2)), (p2, .inl (3, 3, .inr (.inr (.inr (.inr fR2)))))]) 0 0 := by
  refine ax_aload_n dX5_copyFrom_0 rfl ?_
  refine ax_aload_n dX5_copyFrom_1 rfl ?_
  refine ax_wget 3 hn rfl dX5_copyFrom_2 fkX5_19 rfl ?_
  refine ax_wput (l' := [(a, .inr (5, [.int (W 0), .int (V 1), .int (V 2), .int (V 3), .ref n, .ref p, .int (V 6), .int (V 7), .int (V 8), .int (V 9), .int (V 10), .int (V 11), .int (V 12), .int (V 13), .int (V 14), .int (V 15)])), (n, .inl (0, 3, .inl fN)), (p, .inl (3, 3, .inr (.inr (.inr (.inr fR))))), (b, .inr (5, [.int (W 0), .int (W 1), .int (W 2), .int (W 3), .ref n2, .ref p2, .int (W 6), .int (W 7), .int (W 8), .int (W 9), .int (W 10), .int (W 11), .int (W 12), .int (W 13), .int (W 14), .int (W 15)])), (n2, .inl (0, 3, .inl fN2)), (p2, .inl (3, 3, .inr (.inr (.inr (.inr fR2)))))]) 0 hn rfl dX5_copyFrom_5 fpX5_19 rfl rfl (Nat.le_of_ble_eq_true rfl) rfl ?_
  refine ax_aload_n dX5_copyFrom_8 rfl ?_
  refine ax_aload_n dX5_copyFrom_9 rfl ?_
  refine ax_wget 3 hn rfl dX5_copyFrom_10 fkX5_23 rfl ?_
  refine ax_wput (l' := [(a, .inr (5, [.int (W 0), .int (W 1), .int (V 2), .int (V 3), .ref n, .ref p, .int (V 6), .int (V 7), .int (V 8), .int (V 9), .int (V 10), .int (V 11), .int (V 12), .int (V 13), .int (V 14), .int (V 15)])), (n, .inl (0, 3, .inl fN)), (p, .inl (3, 3, .inr (.inr (.inr (.inr fR))))), (b, .inr (5, [.int (W 0), .int (W 1), .int (W 2), .int (W 3), .ref n2, .ref p2, .int (W 6), .int (W 7), .int (W 8), .int (W 9), .int (W 10), .int (W 11), .int (W 12), .int (W 13), .int (W 14), .int (W 15)])), (n2, .inl (0, 3, .inl fN2)), (p2, .inl (3, 3, .inr (.inr (.inr (.inr fR2)))))]) 0 hn rfl dX5_copyFrom_13 fpX5_23 rfl rfl (Nat.le_of_ble_eq_true rfl) rfl ?_
  refine ax_aload_n dX5_copyFrom_16 rfl ?_
  refine ax_aload_n dX5_copyFrom_17 rfl ?_
  refine ax_wget 3 hn rfl dX5_copyFrom_18 fkX5_26 rfl ?_
  refine ax_wput (l' := [(a, .inr (5, [.int (W 0), .int (W 1), .int (W 2), .int (V 3), .ref n, .ref p, .int (V 6), .int (V 7), .int (V 8), .int (V 9), .int (V 10), .int (V 11), .int (V 12), .int (V 13), .int (V 14), .int (V 15)])), (n, .inl (0, 3, .inl fN)), (p, .inl (3, 3, .inr (.inr (.inr (.inr fR))))), (b, .inr (5, [.int (W 0), .int (W 1), .int (W 2), .int (W 3), .ref n2, .ref p2, .int (W 6), .int (W 7), .int (W 8), .int (W 9), .int (W 10), .int (W 11), .int (W 12), .int (W 13), .int (W 14), .int (W 15)])), (n2, .inl (0, 3, .inl fN2)), (p2, .inl (3, 3, .inr (.inr (.inr (.inr fR2)))))]) 0 hn rfl dX5_copyFrom_21 fpX5_26 rfl rfl (Nat.le_of_ble_eq_true rfl) rfl ?_
  refine ax_aload_n dX5_copyFrom_24 rfl ?_
  refine ax_aload_n dX5_copyFrom_25 rfl ?_
  refine ax_wget 3 hn rfl dX5_copyFrom_26 fkX5_29 rfl ?_
  refine ax_wput (l' := [(a, .inr (5, [.int (W 0), .int (W 1), .int (W 2), .int (W 3), .ref n, .ref p, .int (V 6), .int (V 7), .int (V 8), .int (V 9), .int (V 10), .int (V 11), .int (V 12), .int (V 13), .int (V 14), .int (V 15)])), (n, .inl (0, 3, .inl fN)), (p, .inl (3, 3, .inr (.inr (.inr (.inr fR))))), (b, .inr (5, [.int (W 0), .int (W 1), .int (W 2), .int (W 3), .ref n2, .ref p2, .int (W 6), .int (W 7), .int (W 8), .int (W 9), .int (W 10), .int (W 11), .int (W 12), .int (W 13), .int (W 14), .int (W 15)])), (n2, .inl (0, 3, .inl fN2)), (p2, .inl (3, 3, .inr (.inr (.inr (.inr fR2)))))]) 0 hn rfl dX5_copyFrom_29 fpX5_29 rfl rfl (Nat.le_of_ble_eq_true rfl) rfl ?_
  refine ax_iconst (v := 0) dX5_copyFrom_32 (by decide) ?_
  refine ax_istore_n dX5_copyFrom_33 (by decide) ?_
  refine ax_sub (lv' := [(0, .ref a), (1, .ref b), (2, .int 0)]) (fun _ z => z) ?_
  refine ax_iload_n dX5_copyFrom_34 rfl ?_
  refine ax_aload_n dX5_copyFrom_35 rfl ?_
  refine ax_wget 0 hn rfl dX5_copyFrom_36 fkX5_29 rfl ?_
  refine ax_icmp_ge (tgt := 77) dX5_copyFrom_39 (by decide) (fun z => absurd z (by rw [hW]; decide)) (fun _ => ?_)
  refine ax_iload_n dX5_copyFrom_42 rfl ?_
  refine ax_iconst (v := 3) dX5_copyFrom_43 (by decide) ?_
  refine ax_icmp_ge (tgt := 77) dX5_copyFrom_44 (by decide) (fun z => absurd z (by decide)) (fun _ => ?_)
  refine ax_aload_n dX5_copyFrom_47 rfl ?_
  refine ax_wget 0 hn rfl dX5_copyFrom_48 fkX5_9 rfl ?_
  refine ax_iload_n dX5_copyFrom_51 rfl ?_
  refine ax_aload_n dX5_copyFrom_52 rfl ?_
  refine ax_wget 3 hn rfl dX5_copyFrom_53 fkX5_9 rfl ?_
  refine ax_iload_n dX5_copyFrom_56 rfl ?_
  refine ax_wiald 4 hn rfl dX5_copyFrom_57 (by unfold vp_in; decide) ?_
  refine ax_wiast (l' := [(a, .inr (5, [.int (W 0), .int (W 1), .int (W 2), .int (W 3), .ref n, .ref p, .int (V 6), .int (V 7), .int (V 8), .int (V 9), .int (V 10), .int (V 11), .int (V 12), .int (V 13), .int (V 14), .int (V 15)])), (n, .inl (0, 3, .inl (upd fN 0 (fN2 0)))), (p, .inl (3, 3, .inr (.inr (.inr (.inr fR))))), (b, .inr (5, [.int (W 0), .int (W 1), .int (W 2), .int (W 3), .ref n2, .ref p2, .int (W 6), .int (W 7), .int (W 8), .int (W 9), .int (W 10), .int (W 11), .int (W 12), .int (W 13), .int (W 14), .int (W 15)])), (n2, .inl (0, 3, .inl fN2)), (p2, .inl (3, 3, .inr (.inr (.inr (.inr fR2)))))]) 1 hn rfl dX5_copyFrom_58 (by unfold vp_in; decide) rfl ?_
  refine ax_aload_n dX5_copyFrom_59 rfl ?_
  refine ax_wget 0 hn rfl dX5_copyFrom_60 fkX5_15 rfl ?_
  refine ax_iload_n dX5_copyFrom_63 rfl ?_
  refine ax_aload_n dX5_copyFrom_64 rfl ?_
  refine ax_wget 3 hn rfl dX5_copyFrom_65 fkX5_15 rfl ?_
  refine ax_iload_n dX5_copyFrom_68 rfl ?_
  refine ax_waald3 5 hn rfl dX5_copyFrom_69 (by unfold vp_in; decide) ?_
  refine ax_waastO (l' := [(a, .inr (5, [.int (W 0), .int (W 1), .int (W 2), .int (W 3), .ref n, .ref p, .int (V 6), .int (V 7), .int (V 8), .int (V 9), .int (V 10), .int (V 11), .int (V 12), .int (V 13), .int (V 14), .int (V 15)])), (n, .inl (0, 3, .inl (upd fN 0 (fN2 0)))), (p, .inl (3, 3, .inr (.inr (.inr (.inr (va_up fR 0 (fR2 0))))))), (b, .inr (5, [.int (W 0), .int (W 1), .int (W 2), .int (W 3), .ref n2, .ref p2, .int (W 6), .int (W 7), .int (W 8), .int (W 9), .int (W 10), .int (W 11), .int (W 12), .int (W 13), .int (W 14), .int (W 15)])), (n2, .inl (0, 3, .inl fN2)), (p2, .inl (3, 3, .inr (.inr (.inr (.inr fR2)))))]) 2 hn rfl (fun y9 h9 => by rw [ax_w_ne (hR 0 (by decide) _ h9).1]; exact (hR 0 (by decide) _ h9).2) dX5_copyFrom_70 (by unfold vp_in; decide) rfl ?_
  refine ax_iinc (v := 1) dX5_copyFrom_71 rfl (by decide) (by decide) ?_
  refine ax_sub (lv' := [(0, .ref a), (1, .ref b), (2, .int 1)]) (fun _ z => z) ?_
  refine ax_goto (tgt := 34) dX5_copyFrom_74 (by decide) ?_
  refine ax_iload_n dX5_copyFrom_34 rfl ?_
  refine ax_aload_n dX5_copyFrom_35 rfl ?_
  refine ax_wget 0 hn rfl dX5_copyFrom_36 fkX5_29 rfl ?_
  refine ax_icmp_ge (tgt := 77) dX5_copyFrom_39 (by decide) (fun _ => ?_) (fun z => absurd (by rw [hW]; decide) z)
  refine ax_aload_n dX5_copyFrom_77 rfl ?_
  refine ax_aload_n dX5_copyFrom_78 rfl ?_
  refine ax_wget 3 hn rfl dX5_copyFrom_79 fkX5_32 rfl ?_
  refine ax_wput (l' := [(a, .inr (5, [.int (W 0), .int (W 1), .int (W 2), .int (W 3), .ref n, .ref p, .int (W 6), .int (V 7), .int (V 8), .int (V 9), .int (V 10), .int (V 11), .int (V 12), .int (V 13), .int (V 14), .int (V 15)])), (n, .inl (0, 3, .inl (upd fN 0 (fN2 0)))), (p, .inl (3, 3, .inr (.inr (.inr (.inr (va_up fR 0 (fR2 0))))))), (b, .inr (5, [.int (W 0), .int (W 1), .int (W 2), .int (W 3), .ref n2, .ref p2, .int (W 6), .int (W 7), .int (W 8), .int (W 9), .int (W 10), .int (W 11), .int (W 12), .int (W 13), .int (W 14), .int (W 15)])), (n2, .inl (0, 3, .inl fN2)), (p2, .inl (3, 3, .inr (.inr (.inr (.inr fR2)))))]) 0 hn rfl dX5_copyFrom_82 fpX5_32 rfl rfl (Nat.le_of_ble_eq_true rfl) rfl ?_
  refine ax_aload_n dX5_copyFrom_85 rfl ?_
  refine ax_aload_n dX5_copyFrom_86 rfl ?_
  refine ax_wget 3 hn rfl dX5_copyFrom_87 fkX5_35 rfl ?_
  refine ax_wput (l' := [(a, .inr (5, [.int (W 0), .int (W 1), .int (W 2), .int (W 3), .ref n, .ref p, .int (W 6), .int (W 7), .int (V 8), .int (V 9), .int (V 10), .int (V 11), .int (V 12), .int (V 13), .int (V 14), .int (V 15)])), (n, .inl (0, 3, .inl (upd fN 0 (fN2 0)))), (p, .inl (3, 3, .inr (.inr (.inr (.inr (va_up fR 0 (fR2 0))))))), (b, .inr (5, [.int (W 0), .int (W 1), .int (W 2), .int (W 3), .ref n2, .ref p2, .int (W 6), .int (W 7), .int (W 8), .int (W 9), .int (W 10), .int (W 11), .int (W 12), .int (W 13), .int (W 14), .int (W 15)])), (n2, .inl (0, 3, .inl fN2)), (p2, .inl (3, 3, .inr (.inr (.inr (.inr fR2)))))]) 0 hn rfl dX5_copyFrom_90 fpX5_35 rfl rfl (Nat.le_of_ble_eq_true rfl) rfl ?_
  refine ax_aload_n dX5_copyFrom_93 rfl ?_
  refine ax_aload_n dX5_copyFrom_94 rfl ?_
  refine ax_wget 3 hn rfl dX5_copyFrom_95 fkX5_38 rfl ?_
  refine ax_wput (l' := [(a, .inr (5, [.int (W 0), .int (W 1), .int (W 2), .int (W 3), .ref n, .ref p, .int (W 6), .int (W 7), .int (W 8), .int (V 9), .int (V 10), .int (V 11), .int (V 12), .int (V 13), .int (V 14), .int (V 15)])), (n, .inl (0, 3, .inl (upd fN 0 (fN2 0)))), (p, .inl (3, 3, .inr (.inr (.inr (.inr (va_up fR 0 (fR2 0))))))), (b, .inr (5, [.int (W 0), .int (W 1), .int (W 2), .int (W 3), .ref n2, .ref p2, .int (W 6), .int (W 7), .int (W 8), .int (W 9), .int (W 10), .int (W 11), .int (W 12), .int (W 13), .int (W 14), .int (W 15)])), (n2, .inl (0, 3, .inl fN2)), (p2, .inl (3, 3, .inr (.inr (.inr (.inr fR2)))))]) 0 hn rfl dX5_copyFrom_98 fpX5_38 rfl rfl (Nat.le_of_ble_eq_true rfl) rfl ?_
  refine ax_aload_n dX5_copyFrom_101 rfl ?_
  refine ax_aload_n dX5_copyFrom_102 rfl ?_
  refine ax_wget 3 hn rfl dX5_copyFrom_103 fkX5_41 rfl ?_
  refine ax_wput (l' := [(a, .inr (5, [.int (W 0), .int (W 1), .int (W 2), .int (W 3), .ref n, .ref p, .int (W 6), .int (W 7), .int (W 8), .int (W 9), .int (V 10), .int (V 11), .int (V 12), .int (V 13), .int (V 14), .int (V 15)])), (n, .inl (0, 3, .inl (upd fN 0 (fN2 0)))), (p, .inl (3, 3, .inr (.inr (.inr (.inr (va_up fR 0 (fR2 0))))))), (b, .inr (5, [.int (W 0), .int (W 1), .int (W 2), .int (W 3), .ref n2, .ref p2, .int (W 6), .int (W 7), .int (W 8), .int (W 9), .int (W 10), .int (W 11), .int (W 12), .int (W 13), .int (W 14), .int (W 15)])), (n2, .inl (0, 3, .inl fN2)), (p2, .inl (3, 3, .inr (.inr (.inr (.inr fR2)))))]) 0 hn rfl dX5_copyFrom_106 fpX5_41 rfl rfl (Nat.le_of_ble_eq_true rfl) rfl ?_
  refine ax_aload_n dX5_copyFrom_109 rfl ?_
  refine ax_aload_n dX5_copyFrom_110 rfl ?_
  refine ax_wget 3 hn rfl dX5_copyFrom_111 fkX5_44 rfl ?_
  refine ax_wput (l' := [(a, .inr (5, [.int (W 0), .int (W 1), .int (W 2), .int (W 3), .ref n, .ref p, .int (W 6), .int (W 7), .int (W 8), .int (W 9), .int (W 10), .int (V 11), .int (V 12), .int (V 13), .int (V 14), .int (V 15)])), (n, .inl (0, 3, .inl (upd fN 0 (fN2 0)))), (p, .inl (3, 3, .inr (.inr (.inr (.inr (va_up fR 0 (fR2 0))))))), (b, .inr (5, [.int (W 0), .int (W 1), .int (W 2), .int (W 3), .ref n2, .ref p2, .int (W 6), .int (W 7), .int (W 8), .int (W 9), .int (W 10), .int (W 11), .int (W 12), .int (W 13), .int (W 14), .int (W 15)])), (n2, .inl (0, 3, .inl fN2)), (p2, .inl (3, 3, .inr (.inr (.inr (.inr fR2)))))]) 0 hn rfl dX5_copyFrom_114 fpX5_44 rfl rfl (Nat.le_of_ble_eq_true rfl) rfl ?_
  refine ax_aload_n dX5_copyFrom_117 rfl ?_
  refine ax_aload_n dX5_copyFrom_118 rfl ?_
  refine ax_wget 3 hn rfl dX5_copyFrom_119 fkX5_47 rfl ?_
  refine ax_wput (l' := [(a, .inr (5, [.int (W 0), .int (W 1), .int (W 2), .int (W 3), .ref n, .ref p, .int (W 6), .int (W 7), .int (W 8), .int (W 9), .int (W 10), .int (W 11), .int (V 12), .int (V 13), .int (V 14), .int (V 15)])), (n, .inl (0, 3, .inl (upd fN 0 (fN2 0)))), (p, .inl (3, 3, .inr (.inr (.inr (.inr (va_up fR 0 (fR2 0))))))), (b, .inr (5, [.int (W 0), .int (W 1), .int (W 2), .int (W 3), .ref n2, .ref p2, .int (W 6), .int (W 7), .int (W 8), .int (W 9), .int (W 10), .int (W 11), .int (W 12), .int (W 13), .int (W 14), .int (W 15)])), (n2, .inl (0, 3, .inl fN2)), (p2, .inl (3, 3, .inr (.inr (.inr (.inr fR2)))))]) 0 hn rfl dX5_copyFrom_122 fpX5_47 rfl rfl (Nat.le_of_ble_eq_true rfl) rfl ?_
  refine ax_aload_n dX5_copyFrom_125 rfl ?_
  refine ax_aload_n dX5_copyFrom_126 rfl ?_
  refine ax_wget 3 hn rfl dX5_copyFrom_127 fkX5_50 rfl ?_
  refine ax_wput (l' := [(a, .inr (5, [.int (W 0), .int (W 1), .int (W 2), .int (W 3), .ref n, .ref p, .int (W 6), .int (W 7), .int (W 8), .int (W 9), .int (W 10), .int (W 11), .int (W 12), .int (V 13), .int (V 14), .int (V 15)])), (n, .inl (0, 3, .inl (upd fN 0 (fN2 0)))), (p, .inl (3, 3, .inr (.inr (.inr (.inr (va_up fR 0 (fR2 0))))))), (b, .inr (5, [.int (W 0), .int (W 1), .int (W 2), .int (W 3), .ref n2, .ref p2, .int (W 6), .int (W 7), .int (W 8), .int (W 9), .int (W 10), .int (W 11), .int (W 12), .int (W 13), .int (W 14), .int (W 15)])), (n2, .inl (0, 3, .inl fN2)), (p2, .inl (3, 3, .inr (.inr (.inr (.inr fR2)))))]) 0 hn rfl dX5_copyFrom_130 fpX5_50 rfl rfl (Nat.le_of_ble_eq_true rfl) rfl ?_
  refine ax_aload_n dX5_copyFrom_133 rfl ?_
  refine ax_aload_n dX5_copyFrom_134 rfl ?_
  refine ax_wget 3 hn rfl dX5_copyFrom_135 fkX5_53 rfl ?_
  refine ax_wput (l' := [(a, .inr (5, [.int (W 0), .int (W 1), .int (W 2), .int (W 3), .ref n, .ref p, .int (W 6), .int (W 7), .int (W 8), .int (W 9), .int (W 10), .int (W 11), .int (W 12), .int (V 13), .int (W 14), .int (V 15)])), (n, .inl (0, 3, .inl (upd fN 0 (fN2 0)))), (p, .inl (3, 3, .inr (.inr (.inr (.inr (va_up fR 0 (fR2 0))))))), (b, .inr (5, [.int (W 0), .int (W 1), .int (W 2), .int (W 3), .ref n2, .ref p2, .int (W 6), .int (W 7), .int (W 8), .int (W 9), .int (W 10), .int (W 11), .int (W 12), .int (W 13), .int (W 14), .int (W 15)])), (n2, .inl (0, 3, .inl fN2)), (p2, .inl (3, 3, .inr (.inr (.inr (.inr fR2)))))]) 0 hn rfl dX5_copyFrom_138 fpX5_53 rfl rfl (Nat.le_of_ble_eq_true rfl) rfl ?_
  refine ax_aload_n dX5_copyFrom_141 rfl ?_
  refine ax_aload_n dX5_copyFrom_142 rfl ?_
  refine ax_wget 3 hn rfl dX5_copyFrom_143 fkX5_56 rfl ?_
  refine ax_wput (l' := [(a, .inr (5, [.int (W 0), .int (W 1), .int (W 2), .int (W 3), .ref n, .ref p, .int (W 6), .int (W 7), .int (W 8), .int (W 9), .int (W 10), .int (W 11), .int (W 12), .int (W 13), .int (W 14), .int (V 15)])), (n, .inl (0, 3, .inl (upd fN 0 (fN2 0)))), (p, .inl (3, 3, .inr (.inr (.inr (.inr (va_up fR 0 (fR2 0))))))), (b, .inr (5, [.int (W 0), .int (W 1), .int (W 2), .int (W 3), .ref n2, .ref p2, .int (W 6), .int (W 7), .int (W 8), .int (W 9), .int (W 10), .int (W 11), .int (W 12), .int (W 13), .int (W 14), .int (W 15)])), (n2, .inl (0, 3, .inl fN2)), (p2, .inl (3, 3, .inr (.inr (.inr (.inr fR2)))))]) 0 hn rfl dX5_copyFrom_146 fpX5_56 rfl rfl (Nat.le_of_ble_eq_true rfl) rfl ?_
  refine ax_aload_n dX5_copyFrom_149 rfl ?_
  refine ax_aload_n dX5_copyFrom_150 rfl ?_
  refine ax_wget 3 hn rfl dX5_copyFrom_151 fkX5_59 rfl ?_
  refine ax_wput (l' := [(a, .inr (5, [.int (W 0), .int (W 1), .int (W 2), .int (W 3), .ref n, .ref p, .int (W 6), .int (W 7), .int (W 8), .int (W 9), .int (W 10), .int (W 11), .int (W 12), .int (W 13), .int (W 14), .int (W 15)])), (n, .inl (0, 3, .inl (upd fN 0 (fN2 0)))), (p, .inl (3, 3, .inr (.inr (.inr (.inr (va_up fR 0 (fR2 0))))))), (b, .inr (5, [.int (W 0), .int (W 1), .int (W 2), .int (W 3), .ref n2, .ref p2, .int (W 6), .int (W 7), .int (W 8), .int (W 9), .int (W 10), .int (W 11), .int (W 12), .int (W 13), .int (W 14), .int (W 15)])), (n2, .inl (0, 3, .inl fN2)), (p2, .inl (3, 3, .inr (.inr (.inr (.inr fR2)))))]) 0 hn rfl dX5_copyFrom_154 fpX5_59 (by first | exact hb | exact hb2) (by first | exact hb | exact hb2) (Nat.le_of_ble_eq_true rfl) rfl ?_
  exact ax_vret (st := []) dX5_copyFrom_157 rfl ⟨rfl, rfl⟩
set_option maxRecDepth 100000 in
set_option maxHeartbeats 4000000 in
theorem ctX5_copyFrom_2 {G : ax_G} (d : Nat) (h : ax_H) (a n p b n2 p2 : Nat) (V W fN fN2 : Nat → Int32) (fR fR2 : Nat → Option Nat) (hW : W 3 = nI 2) (hb : narrow .boolean (.int (W 15)) = .int (W 15)) (hb2 : fits .boolean (.int (W 15)) = true) (hR : ∀ j, j < 2 → ∀ y, fR2 j = some y → y ∉ [a, n, p, b, n2, p2] ∧ ∃ vs, h y = some (.inr (5, vs))) (hn : ([a, n, p, b, n2, p2] : List Nat).Nodup) : AW G mX5_copyFrom d 0 0 (fun r h1 => r = .inl none ∧ h1 = ax_w h [(a, .inr (5, [.int (W 0), .int (W 1), .int (W 2), .int (W 3), .ref n, .ref p, .int (W 6), .int (W 7), .int (W 8), .int (W 9), .int (W 10), .int (W 11), .int (W 12), .int (W 13), .int (W 14), .int (W 15)])), (n, .inl (0, 3, .inl (upd (upd fN 0 (fN2 0)) 1 (fN2 1)))), (p, .inl (3, 3, .inr (.inr (.inr (.inr (va_up (va_up fR 0 (fR2 0)) 1 (fR2 1))))))), (b, .inr (5, [.int (W 0), .int (W 1), .int (W 2), .int (W 3), .ref n2, .ref p2, .int (W 6), .int (W 7), .int (W 8), .int (W 9), .int (W 10), .int (W 11), .int (W 12), .int (W 13), .int (W 14), .int (W 15)])), (n2, .inl (0, 3, .inl fN2)), (p2, .inl (3, 3, .inr (.inr (.inr (.inr fR2)))))]) 0 [(0, .ref a), (1, .ref b)] [] (ax_w h [(a, .inr (5, [.int (V 0), .int (V 1), .int (V 2), .int (V 3), .ref n, .ref p, .int (V 6), .int (V 7), .int (V 8), .int (V 9), .int (V 10), .int (V 11), .int (V 12), .int (V 13), .int (V 14), .int (V 15)])), (n, .inl (0, 3, .inl fN)), (p, .inl (3, 3, .inr (.inr (.inr (.inr fR))))), (b, .inr (5, [.int (W 0), .int (W 1), .int (W 2), .int (W 3), .ref n2, .ref p2, .int (W 6), .int (W 7), .int (W 8), .int (W 9), .int (W 10), .int (W 11), .int (W 12), .int (W 13), .int (W 14), .int (W 15)])), (n2, .inl (0, 3, .inl fN2)), (p2, .inl (3, 3, .inr (.inr (.inr (.inr fR2)))))]) 0 0 := by
  refine ax_aload_n dX5_copyFrom_0 rfl ?_
  refine ax_aload_n dX5_copyFrom_1 rfl ?_
  refine ax_wget 3 hn rfl dX5_copyFrom_2 fkX5_19 rfl ?_
  refine ax_wput (l' := [(a, .inr (5, [.int (W 0), .int (V 1), .int (V 2), .int (V 3), .ref n, .ref p, .int (V 6), .int (V 7), .int (V 8), .int (V 9), .int (V 10), .int (V 11), .int (V 12), .int (V 13), .int (V 14), .int (V 15)])), (n, .inl (0, 3, .inl fN)), (p, .inl (3, 3, .inr (.inr (.inr (.inr fR))))), (b, .inr (5, [.int (W 0), .int (W 1), .int (W 2), .int (W 3), .ref n2, .ref p2, .int (W 6), .int (W 7), .int (W 8), .int (W 9), .int (W 10), .int (W 11), .int (W 12), .int (W 13), .int (W 14), .int (W 15)])), (n2, .inl (0, 3, .inl fN2)), (p2, .inl (3, 3, .inr (.inr (.inr (.inr fR2)))))]) 0 hn rfl dX5_copyFrom_5 fpX5_19 rfl rfl (Nat.le_of_ble_eq_true rfl) rfl ?_
  refine ax_aload_n dX5_copyFrom_8 rfl ?_
  refine ax_aload_n dX5_copyFrom_9 rfl ?_
  refine ax_wget 3 hn rfl dX5_copyFrom_10 fkX5_23 rfl ?_
  refine ax_wput (l' := [(a, .inr (5, [.int (W 0), .int (W 1), .int (V 2), .int (V 3), .ref n, .ref p, .int (V 6), .int (V 7), .int (V 8), .int (V 9), .int (V 10), .int (V 11), .int (V 12), .int (V 13), .int (V 14), .int (V 15)])), (n, .inl (0, 3, .inl fN)), (p, .inl (3, 3, .inr (.inr (.inr (.inr fR))))), (b, .inr (5, [.int (W 0), .int (W 1), .int (W 2), .int (W 3), .ref n2, .ref p2, .int (W 6), .int (W 7), .int (W 8), .int (W 9), .int (W 10), .int (W 11), .int (W 12), .int (W 13), .int (W 14), .int (W 15)])), (n2, .inl (0, 3, .inl fN2)), (p2, .inl (3, 3, .inr (.inr (.inr (.inr fR2)))))]) 0 hn rfl dX5_copyFrom_13 fpX5_23 rfl rfl (Nat.le_of_ble_eq_true rfl) rfl ?_
  refine ax_aload_n dX5_copyFrom_16 rfl ?_
  refine ax_aload_n dX5_copyFrom_17 rfl ?_
  refine ax_wget 3 hn rfl dX5_copyFrom_18 fkX5_26 rfl ?_
  refine ax_wput (l' := [(a, .inr (5, [.int (W 0), .int (W 1), .int (W 2), .int (V 3), .ref n, .ref p, .int (V 6), .int (V 7), .int (V 8), .int (V 9), .int (V 10), .int (V 11), .int (V 12), .int (V 13), .int (V 14), .int (V 15)])), (n, .inl (0, 3, .inl fN)), (p, .inl (3, 3, .inr (.inr (.inr (.inr fR))))), (b, .inr (5, [.int (W 0), .int (W 1), .int (W 2), .int (W 3), .ref n2, .ref p2, .int (W 6), .int (W 7), .int (W 8), .int (W 9), .int (W 10), .int (W 11), .int (W 12), .int (W 13), .int (W 14), .int (W 15)])), (n2, .inl (0, 3, .inl fN2)), (p2, .inl (3, 3, .inr (.inr (.inr (.inr fR2)))))]) 0 hn rfl dX5_copyFrom_21 fpX5_26 rfl rfl (Nat.le_of_ble_eq_true rfl) rfl ?_
  refine ax_aload_n dX5_copyFrom_24 rfl ?_
  refine ax_aload_n dX5_copyFrom_25 rfl ?_
  refine ax_wget 3 hn rfl dX5_copyFrom_26 fkX5_29 rfl ?_
  refine ax_wput (l' := [(a, .inr (5, [.int (W 0), .int (W 1), .int (W 2), .int (W 3), .ref n, .ref p, .int (V 6), .int (V 7), .int (V 8), .int (V 9), .int (V 10), .int (V 11), .int (V 12), .int (V 13), .int (V 14), .int (V 15)])), (n, .inl (0, 3, .inl fN)), (p, .inl (3, 3, .inr (.inr (.inr (.inr fR))))), (b, .inr (5, [.int (W 0), .int (W 1), .int (W 2), .int (W 3), .ref n2, .ref p2, .int (W 6), .int (W 7), .int (W 8), .int (W 9), .int (W 10), .int (W 11), .int (W 12), .int (W 13), .int (W 14), .int (W 15)])), (n2, .inl (0, 3, .inl fN2)), (p2, .inl (3, 3, .inr (.inr (.inr (.inr fR2)))))]) 0 hn rfl dX5_copyFrom_29 fpX5_29 rfl rfl (Nat.le_of_ble_eq_true rfl) rfl ?_
  refine ax_iconst (v := 0) dX5_copyFrom_32 (by decide) ?_
  refine ax_istore_n dX5_copyFrom_33 (by decide) ?_
  refine ax_sub (lv' := [(0, .ref a), (1, .ref b), (2, .int 0)]) (fun _ z => z) ?_
  refine ax_iload_n dX5_copyFrom_34 rfl ?_
  refine ax_aload_n dX5_copyFrom_35 rfl ?_
  refine ax_wget 0 hn rfl dX5_copyFrom_36 fkX5_29 rfl ?_
  refine ax_icmp_ge (tgt := 77) dX5_copyFrom_39 (by decide) (fun z => absurd z (by rw [hW]; decide)) (fun _ => ?_)
  refine ax_iload_n dX5_copyFrom_42 rfl ?_
  refine ax_iconst (v := 3) dX5_copyFrom_43 (by decide) ?_
  refine ax_icmp_ge (tgt := 77) dX5_copyFrom_44 (by decide) (fun z => absurd z (by decide)) (fun _ => ?_)
  refine ax_aload_n dX5_copyFrom_47 rfl ?_
  refine ax_wget 0 hn rfl dX5_copyFrom_48 fkX5_9 rfl ?_
  refine ax_iload_n dX5_copyFrom_51 rfl ?_
  refine ax_aload_n dX5_copyFrom_52 rfl ?_
  refine ax_wget 3 hn rfl dX5_copyFrom_53 fkX5_9 rfl ?_
  refine ax_iload_n dX5_copyFrom_56 rfl ?_
  refine ax_wiald 4 hn rfl dX5_copyFrom_57 (by unfold vp_in; decide) ?_
  refine ax_wiast (l' := [(a, .inr (5, [.int (W 0), .int (W 1), .int (W 2), .int (W 3), .ref n, .ref p, .int (V 6), .int (V 7), .int (V 8), .int (V 9), .int (V 10), .int (V 11), .int (V 12), .int (V 13), .int (V 14), .int (V 15)])), (n, .inl (0, 3, .inl (upd fN 0 (fN2 0)))), (p, .inl (3, 3, .inr (.inr (.inr (.inr fR))))), (b, .inr (5, [.int (W 0), .int (W 1), .int (W 2), .int (W 3), .ref n2, .ref p2, .int (W 6), .int (W 7), .int (W 8), .int (W 9), .int (W 10), .int (W 11), .int (W 12), .int (W 13), .int (W 14), .int (W 15)])), (n2, .inl (0, 3, .inl fN2)), (p2, .inl (3, 3, .inr (.inr (.inr (.inr fR2)))))]) 1 hn rfl dX5_copyFrom_58 (by unfold vp_in; decide) rfl ?_
  refine ax_aload_n dX5_copyFrom_59 rfl ?_
  refine ax_wget 0 hn rfl dX5_copyFrom_60 fkX5_15 rfl ?_
  refine ax_iload_n dX5_copyFrom_63 rfl ?_
  refine ax_aload_n dX5_copyFrom_64 rfl ?_
  refine ax_wget 3 hn rfl dX5_copyFrom_65 fkX5_15 rfl ?_
  refine ax_iload_n dX5_copyFrom_68 rfl ?_
  refine ax_waald3 5 hn rfl dX5_copyFrom_69 (by unfold vp_in; decide) ?_
  refine ax_waastO (l' := [(a, .inr (5, [.int (W 0), .int (W 1), .int (W 2), .int (W 3), .ref n, .ref p, .int (V 6), .int (V 7), .int (V 8), .int (V 9), .int (V 10), .int (V 11), .int (V 12), .int (V 13), .int (V 14), .int (V 15)])), (n, .inl (0, 3, .inl (upd fN 0 (fN2 0)))), (p, .inl (3, 3, .inr (.inr (.inr (.inr (va_up fR 0 (fR2 0))))))), (b, .inr (5, [.int (W 0), .int (W 1), .int (W 2), .int (W 3), .ref n2, .ref p2, .int (W 6), .int (W 7), .int (W 8), .int (W 9), .int (W 10), .int (W 11), .int (W 12), .int (W 13), .int (W 14), .int (W 15)])), (n2, .inl (0, 3, .inl fN2)), (p2, .inl (3, 3, .inr (.inr (.inr (.inr fR2)))))]) 2 hn rfl (fun y9 h9 => by rw [ax_w_ne (hR 0 (by decide) _ h9).1]; exact (hR 0 (by decide) _ h9).2) dX5_copyFrom_70 (by unfold vp_in; decide) rfl ?_
  refine ax_iinc (v := 1) dX5_copyFrom_71 rfl (by decide) (by decide) ?_
  refine ax_sub (lv' := [(0, .ref a), (1, .ref b), (2, .int 1)]) (fun _ z => z) ?_
  refine ax_goto (tgt := 34) dX5_copyFrom_74 (by decide) ?_
  refine ax_iload_n dX5_copyFrom_34 rfl ?_
  refine ax_aload_n dX5_copyFrom_35 rfl ?_
  refine ax_wget 0 hn rfl dX5_copyFrom_36 fkX5_29 rfl ?_
  refine ax_icmp_ge (tgt := 77) dX5_copyFrom_39 (by decide) (fun z => absurd z (by rw [hW]; decide)) (fun _ => ?_)
  refine ax_iload_n dX5_copyFrom_42 rfl ?_
  refine ax_iconst (v := 3) dX5_copyFrom_43 (by decide) ?_
  refine ax_icmp_ge (tgt := 77) dX5_copyFrom_44 (by decide) (fun z => absurd z (by decide)) (fun _ => ?_)
  refine ax_aload_n dX5_copyFrom_47 rfl ?_
  refine ax_wget 0 hn rfl dX5_copyFrom_48 fkX5_9 rfl ?_
  refine ax_iload_n dX5_copyFrom_51 rfl ?_
  refine ax_aload_n dX5_copyFrom_52 rfl ?_
  refine ax_wget 3 hn rfl dX5_copyFrom_53 fkX5_9 rfl ?_
  refine ax_iload_n dX5_copyFrom_56 rfl ?_
  refine ax_wiald 4 hn rfl dX5_copyFrom_57 (by unfold vp_in; decide) ?_
  refine ax_wiast (l' := [(a, .inr (5, [.int (W 0), .int (W 1), .int (W 2), .int (W 3), .ref n, .ref p, .int (V 6), .int (V 7), .int (V 8), .int (V 9), .int (V 10), .int (V 11), .int (V 12), .int (V 13), .int (V 14), .int (V 15)])), (n, .inl (0, 3, .inl (upd (upd fN 0 (fN2 0)) 1 (fN2 1)))), (p, .inl (3, 3, .inr (.inr (.inr (.inr (va_up fR 0 (fR2 0))))))), (b, .inr (5, [.int (W 0), .int (W 1), .int (W 2), .int (W 3), .ref n2, .ref p2, .int (W 6), .int (W 7), .int (W 8), .int (W 9), .int (W 10), .int (W 11), .int (W 12), .int (W 13), .int (W 14), .int (W 15)])), (n2, .inl (0, 3, .inl fN2)), (p2, .inl (3, 3, .inr (.inr (.inr (.inr fR2)))))]) 1 hn rfl dX5_copyFrom_58 (by unfold vp_in; decide) rfl ?_
  refine ax_aload_n dX5_copyFrom_59 rfl ?_
  refine ax_wget 0 hn rfl dX5_copyFrom_60 fkX5_15 rfl ?_
  refine ax_iload_n dX5_copyFrom_63 rfl ?_
  refine ax_aload_n dX5_copyFrom_64 rfl ?_
  refine ax_wget 3 hn rfl dX5_copyFrom_65 fkX5_15 rfl ?_
  refine ax_iload_n dX5_copyFrom_68 rfl ?_
  refine ax_waald3 5 hn rfl dX5_copyFrom_69 (by unfold vp_in; decide) ?_
  refine ax_waastO (l' := [(a, .inr (5, [.int (W 0), .int (W 1), .int (W 2), .int (W 3), .ref n, .ref p, .int (V 6), .int (V 7), .int (V 8), .int (V 9), .int (V 10), .int (V 11), .int (V 12), .int (V 13), .int (V 14), .int (V 15)])), (n, .inl (0, 3, .inl (upd (upd fN 0 (fN2 0)) 1 (fN2 1)))), (p, .inl (3, 3, .inr (.inr (.inr (.inr (va_up (va_up fR 0 (fR2 0)) 1 (fR2 1))))))), (b, .inr (5, [.int (W 0), .int (W 1), .int (W 2), .int (W 3), .ref n2, .ref p2, .int (W 6), .int (W 7), .int (W 8), .int (W 9), .int (W 10), .int (W 11), .int (W 12), .int (W 13), .int (W 14), .int (W 15)])), (n2, .inl (0, 3, .inl fN2)), (p2, .inl (3, 3, .inr (.inr (.inr (.inr fR2)))))]) 2 hn rfl (fun y9 h9 => by rw [ax_w_ne (hR 1 (by decide) _ h9).1]; exact (hR 1 (by decide) _ h9).2) dX5_copyFrom_70 (by unfold vp_in; decide) rfl ?_
  refine ax_iinc (v := 2) dX5_copyFrom_71 rfl (by decide) (by decide) ?_
  refine ax_sub (lv' := [(0, .ref a), (1, .ref b), (2, .int 2)]) (fun _ z => z) ?_
  refine ax_goto (tgt := 34) dX5_copyFrom_74 (by decide) ?_
  refine ax_iload_n dX5_copyFrom_34 rfl ?_
  refine ax_aload_n dX5_copyFrom_35 rfl ?_
  refine ax_wget 0 hn rfl dX5_copyFrom_36 fkX5_29 rfl ?_
  refine ax_icmp_ge (tgt := 77) dX5_copyFrom_39 (by decide) (fun _ => ?_) (fun z => absurd (by rw [hW]; decide) z)
  refine ax_aload_n dX5_copyFrom_77 rfl ?_
  refine ax_aload_n dX5_copyFrom_78 rfl ?_
  refine ax_wget 3 hn rfl dX5_copyFrom_79 fkX5_32 rfl ?_
  refine ax_wput (l' := [(a, .inr (5, [.int (W 0), .int (W 1), .int (W 2), .int (W 3), .ref n, .ref p, .int (W 6), .int (V 7), .int (V 8), .int (V 9), .int (V 10), .int (V 11), .int (V 12), .int (V 13), .int (V 14), .int (V 15)])), (n, .inl (0, 3, .inl (upd (upd fN 0 (fN2 0)) 1 (fN2 1)))), (p, .inl (3, 3, .inr (.inr (.inr (.inr (va_up (va_up fR 0 (fR2 0)) 1 (fR2 1))))))), (b, .inr (5, [.int (W 0), .int (W 1), .int (W 2), .int (W 3), .ref n2, .ref p2, .int (W 6), .int (W 7), .int (W 8), .int (W 9), .int (W 10), .int (W 11), .int (W 12), .int (W 13), .int (W 14), .int (W 15)])), (n2, .inl (0, 3, .inl fN2)), (p2, .inl (3, 3, .inr (.inr (.inr (.inr fR2)))))]) 0 hn rfl dX5_copyFrom_82 fpX5_32 rfl rfl (Nat.le_of_ble_eq_true rfl) rfl ?_
  refine ax_aload_n dX5_copyFrom_85 rfl ?_
  refine ax_aload_n dX5_copyFrom_86 rfl ?_
  refine ax_wget 3 hn rfl dX5_copyFrom_87 fkX5_35 rfl ?_
  refine ax_wput (l' := [(a, .inr (5, [.int (W 0), .int (W 1), .int (W 2), .int (W 3), .ref n, .ref p, .int (W 6), .int (W 7), .int (V 8), .int (V 9), .int (V 10), .int (V 11), .int (V 12), .int (V 13), .int (V 14), .int (V 15)])), (n, .inl (0, 3, .inl (upd (upd fN 0 (fN2 0)) 1 (fN2 1)))), (p, .inl (3, 3, .inr (.inr (.inr (.inr (va_up (va_up fR 0 (fR2 0)) 1 (fR2 1))))))), (b, .inr (5, [.int (W 0), .int (W 1), .int (W 2), .int (W 3), .ref n2, .ref p2, .int (W 6), .int (W 7), .int (W 8), .int (W 9), .int (W 10), .int (W 11), .int (W 12), .int (W 13), .int (W 14), .int (W 15)])), (n2, .inl (0, 3, .inl fN2)), (p2, .inl (3, 3, .inr (.inr (.inr (.inr fR2)))))]) 0 hn rfl dX5_copyFrom_90 fpX5_35 rfl rfl (Nat.le_of_ble_eq_true rfl) rfl ?_
  refine ax_aload_n dX5_copyFrom_93 rfl ?_
  refine ax_aload_n dX5_copyFrom_94 rfl ?_
  refine ax_wget 3 hn rfl dX5_copyFrom_95 fkX5_38 rfl ?_
  refine ax_wput (l' := [(a, .inr (5, [.int (W 0), .int (W 1), .int (W 2), .int (W 3), .ref n, .ref p, .int (W 6), .int (W 7), .int (W 8), .int (V 9), .int (V 10), .int (V 11), .int (V 12), .int (V 13), .int (V 14), .int (V 15)])), (n, .inl (0, 3, .inl (upd (upd fN 0 (fN2 0)) 1 (fN2 1)))), (p, .inl (3, 3, .inr (.inr (.inr (.inr (va_up (va_up fR 0 (fR2 0)) 1 (fR2 1))))))), (b, .inr (5, [.int (W 0), .int (W 1), .int (W 2), .int (W 3), .ref n2, .ref p2, .int (W 6), .int (W 7), .int (W 8), .int (W 9), .int (W 10), .int (W 11), .int (W 12), .int (W 13), .int (W 14), .int (W 15)])), (n2, .inl (0, 3, .inl fN2)), (p2, .inl (3, 3, .inr (.inr (.inr (.inr fR2)))))]) 0 hn rfl dX5_copyFrom_98 fpX5_38 rfl rfl (Nat.le_of_ble_eq_true rfl) rfl ?_
  refine ax_aload_n dX5_copyFrom_101 rfl ?_
  refine ax_aload_n dX5_copyFrom_102 rfl ?_
  refine ax_wget 3 hn rfl dX5_copyFrom_103 fkX5_41 rfl ?_
  refine ax_wput (l' := [(a, .inr (5, [.int (W 0), .int (W 1), .int (W 2), .int (W 3), .ref n, .ref p, .int (W 6), .int (W 7), .int (W 8), .int (W 9), .int (V 10), .int (V 11), .int (V 12), .int (V 13), .int (V 14), .int (V 15)])), (n, .inl (0, 3, .inl (upd (upd fN 0 (fN2 0)) 1 (fN2 1)))), (p, .inl (3, 3, .inr (.inr (.inr (.inr (va_up (va_up fR 0 (fR2 0)) 1 (fR2 1))))))), (b, .inr (5, [.int (W 0), .int (W 1), .int (W 2), .int (W 3), .ref n2, .ref p2, .int (W 6), .int (W 7), .int (W 8), .int (W 9), .int (W 10), .int (W 11), .int (W 12), .int (W 13), .int (W 14), .int (W 15)])), (n2, .inl (0, 3, .inl fN2)), (p2, .inl (3, 3, .inr (.inr (.inr (.inr fR2)))))]) 0 hn rfl dX5_copyFrom_106 fpX5_41 rfl rfl (Nat.le_of_ble_eq_true rfl) rfl ?_
  refine ax_aload_n dX5_copyFrom_109 rfl ?_
  refine ax_aload_n dX5_copyFrom_110 rfl ?_
  refine ax_wget 3 hn rfl dX5_copyFrom_111 fkX5_44 rfl ?_
  refine ax_wput (l' := [(a, .inr (5, [.int (W 0), .int (W 1), .int (W 2), .int (W 3), .ref n, .ref p, .int (W 6), .int (W 7), .int (W 8), .int (W 9), .int (W 10), .int (V 11), .int (V 12), .int (V 13), .int (V 14), .int (V 15)])), (n, .inl (0, 3, .inl (upd (upd fN 0 (fN2 0)) 1 (fN2 1)))), (p, .inl (3, 3, .inr (.inr (.inr (.inr (va_up (va_up fR 0 (fR2 0)) 1 (fR2 1))))))), (b, .inr (5, [.int (W 0), .int (W 1), .int (W 2), .int (W 3), .ref n2, .ref p2, .int (W 6), .int (W 7), .int (W 8), .int (W 9), .int (W 10), .int (W 11), .int (W 12), .int (W 13), .int (W 14), .int (W 15)])), (n2, .inl (0, 3, .inl fN2)), (p2, .inl (3, 3, .inr (.inr (.inr (.inr fR2)))))]) 0 hn rfl dX5_copyFrom_114 fpX5_44 rfl rfl (Nat.le_of_ble_eq_true rfl) rfl ?_
  refine ax_aload_n dX5_copyFrom_117 rfl ?_
  refine ax_aload_n dX5_copyFrom_118 rfl ?_
  refine ax_wget 3 hn rfl dX5_copyFrom_119 fkX5_47 rfl ?_
  refine ax_wput (l' := [(a, .inr (5, [.int (W 0), .int (W 1), .int (W 2), .int (W 3), .ref n, .ref p, .int (W 6), .int (W 7), .int (W 8), .int (W 9), .int (W 10), .int (W 11), .int (V 12), .int (V 13), .int (V 14), .int (V 15)])), (n, .inl (0, 3, .inl (upd (upd fN 0 (fN2 0)) 1 (fN2 1)))), (p, .inl (3, 3, .inr (.inr (.inr (.inr (va_up (va_up fR 0 (fR2 0)) 1 (fR2 1))))))), (b, .inr (5, [.int (W 0), .int (W 1), .int (W 2), .int (W 3), .ref n2, .ref p2, .int (W 6), .int (W 7), .int (W 8), .int (W 9), .int (W 10), .int (W 11), .int (W 12), .int (W 13), .int (W 14), .int (W 15)])), (n2, .inl (0, 3, .inl fN2)), (p2, .inl (3, 3, .inr (.inr (.inr (.inr fR2)))))]) 0 hn rfl dX5_copyFrom_122 fpX5_47 rfl rfl (Nat.le_of_ble_eq_true rfl) rfl ?_
  refine ax_aload_n dX5_copyFrom_125 rfl ?_
  refine ax_aload_n dX5_copyFrom_126 rfl ?_
  refine ax_wget 3 hn rfl dX5_copyFrom_127 fkX5_50 rfl ?_
  refine ax_wput (l' := [(a, .inr (5, [.int (W 0), .int (W 1), .int (W 2), .int (W 3), .ref n, .ref p, .int (W 6), .int (W 7), .int (W 8), .int (W 9), .int (W 10), .int (W 11), .int (W 12), .int (V 13), .int (V 14), .int (V 15)])), (n, .inl (0, 3, .inl (upd (upd fN 0 (fN2 0)) 1 (fN2 1)))), (p, .inl (3, 3, .inr (.inr (.inr (.inr (va_up (va_up fR 0 (fR2 0)) 1 (fR2 1))))))), (b, .inr (5, [.int (W 0), .int (W 1), .int (W 2), .int (W 3), .ref n2, .ref p2, .int (W 6), .int (W 7), .int (W 8), .int (W 9), .int (W 10), .int (W 11), .int (W 12), .int (W 13), .int (W 14), .int (W 15)])), (n2, .inl (0, 3, .inl fN2)), (p2, .inl (3, 3, .inr (.inr (.inr (.inr fR2)))))]) 0 hn rfl dX5_copyFrom_130 fpX5_50 rfl rfl (Nat.le_of_ble_eq_true rfl) rfl ?_
  refine ax_aload_n dX5_copyFrom_133 rfl ?_
  refine ax_aload_n dX5_copyFrom_134 rfl ?_
  refine ax_wget 3 hn rfl dX5_copyFrom_135 fkX5_53 rfl ?_
  refine ax_wput (l' := [(a, .inr (5, [.int (W 0), .int (W 1), .int (W 2), .int (W 3), .ref n, .ref p, .int (W 6), .int (W 7), .int (W 8), .int (W 9), .int (W 10), .int (W 11), .int (W 12), .int (V 13), .int (W 14), .int (V 15)])), (n, .inl (0, 3, .inl (upd (upd fN 0 (fN2 0)) 1 (fN2 1)))), (p, .inl (3, 3, .inr (.inr (.inr (.inr (va_up (va_up fR 0 (fR2 0)) 1 (fR2 1))))))), (b, .inr (5, [.int (W 0), .int (W 1), .int (W 2), .int (W 3), .ref n2, .ref p2, .int (W 6), .int (W 7), .int (W 8), .int (W 9), .int (W 10), .int (W 11), .int (W 12), .int (W 13), .int (W 14), .int (W 15)])), (n2, .inl (0, 3, .inl fN2)), (p2, .inl (3, 3, .inr (.inr (.inr (.inr fR2)))))]) 0 hn rfl dX5_copyFrom_138 fpX5_53 rfl rfl (Nat.le_of_ble_eq_true rfl) rfl ?_
  refine ax_aload_n dX5_copyFrom_141 rfl ?_
  refine ax_aload_n dX5_copyFrom_142 rfl ?_
  refine ax_wget 3 hn rfl dX5_copyFrom_143 fkX5_56 rfl ?_
  refine ax_wput (l' := [(a, .inr (5, [.int (W 0), .int (W 1), .int (W 2), .int (W 3), .ref n, .ref p, .int (W 6), .int (W 7), .int (W 8), .int (W 9), .int (W 10), .int (W 11), .int (W 12), .int (W 13), .int (W 14), .int (V 15)])), (n, .inl (0, 3, .inl (upd (upd fN 0 (fN2 0)) 1 (fN2 1)))), (p, .inl (3, 3, .inr (.inr (.inr (.inr (va_up (va_up fR 0 (fR2 0)) 1 (fR2 1))))))), (b, .inr (5, [.int (W 0), .int (W 1), .int (W 2), .int (W 3), .ref n2, .ref p2, .int (W 6), .int (W 7), .int (W 8), .int (W 9), .int (W 10), .int (W 11), .int (W 12), .int (W 13), .int (W 14), .int (W 15)])), (n2, .inl (0, 3, .inl fN2)), (p2, .inl (3, 3, .inr (.inr (.inr (.inr fR2)))))]) 0 hn rfl dX5_copyFrom_146 fpX5_56 rfl rfl (Nat.le_of_ble_eq_true rfl) rfl ?_
  refine ax_aload_n dX5_copyFrom_149 rfl ?_
  refine ax_aload_n dX5_copyFrom_150 rfl ?_
  refine ax_wget 3 hn rfl dX5_copyFrom_151 fkX5_59 rfl ?_
  refine ax_wput (l' := [(a, .inr (5, [.int (W 0), .int (W 1), .int (W 2), .int (W 3), .ref n, .ref p, .int (W 6), .int (W 7), .int (W 8), .int (W 9), .int (W 10), .int (W 11), .int (W 12), .int (W 13), .int (W 14), .int (W 15)])), (n, .inl (0, 3, .inl (upd (upd fN 0 (fN2 0)) 1 (fN2 1)))), (p, .inl (3, 3, .inr (.inr (.inr (.inr (va_up (va_up fR 0 (fR2 0)) 1 (fR2 1))))))), (b, .inr (5, [.int (W 0), .int (W 1), .int (W 2), .int (W 3), .ref n2, .ref p2, .int (W 6), .int (W 7), .int (W 8), .int (W 9), .int (W 10), .int (W 11), .int (W 12), .int (W 13), .int (W 14), .int (W 15)])), (n2, .inl (0, 3, .inl fN2)), (p2, .inl (3, 3, .inr (.inr (.inr (.inr fR2)))))]) 0 hn rfl dX5_copyFrom_154 fpX5_59 (by first | exact hb | exact hb2) (by first | exact hb | exact hb2) (Nat.le_of_ble_eq_true rfl) rfl ?_
  exact ax_vret (st := []) dX5_copyFrom_157 rfl ⟨rfl, rfl⟩
set_option maxRecDepth 100000 in
set_option maxHeartbeats 4000000 in
theorem ctX5_copyFrom_3 {G : ax_G} (d : Nat) (h : ax_H) (a n p b n2 p2 : Nat) (V W fN fN2 : Nat → Int32) (fR fR2 : Nat → Option Nat) (hW : W 3 = nI 3) (hb : narrow .boolean (.int (W 15)) = .int (W 15)) (hb2 : fits .boolean (.int (W 15)) = true) (hR : ∀ j, j < 3 → ∀ y, fR2 j = some y → y ∉ [a, n, p, b, n2, p2] ∧ ∃ vs, h y = some (.inr (5, vs))) (hn : ([a, n, p, b, n2, p2] : List Nat).Nodup) : AW G mX5_copyFrom d 0 0 (fun r h1 => r = .inl none ∧ h1 = ax_w h [(a, .inr (5, [.int (W 0), .int (W 1), .int (W 2), .int (W 3), .ref n, .ref p, .int (W 6), .int (W 7), .int (W 8), .int (W 9), .int (W 10), .int (W 11), .int (W 12), .int (W 13), .int (W 14), .int (W 15)])), (n, .inl (0, 3, .inl (upd (upd (upd fN 0 (fN2 0)) 1 (fN2 1)) 2 (fN2 2)))), (p, .inl (3, 3, .inr (.inr (.inr (.inr (va_up (va_up (va_up fR 0 (fR2 0)) 1 (fR2 1)) 2 (fR2 2))))))), (b, .inr (5, [.int (W 0), .int (W 1), .int (W 2), .int (W 3), .ref n2, .ref p2, .int (W 6), .int (W 7), .int (W 8), .int (W 9), .int (W 10), .int (W 11), .int (W 12), .int (W 13), .int (W 14), .int (W 15)])), (n2, .inl (0, 3, .inl fN2)), (p2, .inl (3, 3, .inr (.inr (.inr (.inr fR2)))))]) 0 [(0, .ref a), (1, .ref b)] [] (ax_w h [(a, .inr (5, [.int (V 0), .int (V 1), .int (V 2), .int (V 3), .ref n, .ref p, .int (V 6), .int (V 7), .int (V 8), .int (V 9), .int (V 10), .int (V 11), .int (V 12), .int (V 13), .int (V 14), .int (V 15)])), (n, .inl (0, 3, .inl fN)), (p, .inl (3, 3, .inr (.inr (.inr (.inr fR))))), (b, .inr (5, [.int (W 0), .int (W 1), .int (W 2), .int (W 3), .ref n2, .ref p2, .int (W 6), .int (W 7), .int (W 8), .int (W 9), .int (W 10), .int (W 11), .int (W 12), .int (W 13), .int (W 14), .int (W 15)])), (n2, .inl (0, 3, .inl fN2)), (p2, .inl (3, 3, .inr (.inr (.inr (.inr fR2)))))]) 0 0 := by
  refine ax_aload_n dX5_copyFrom_0 rfl ?_
  refine ax_aload_n dX5_copyFrom_1 rfl ?_
  refine ax_wget 3 hn rfl dX5_copyFrom_2 fkX5_19 rfl ?_
  refine ax_wput (l' := [(a, .inr (5, [.int (W 0), .int (V 1), .int (V 2), .int (V 3), .ref n, .ref p, .int (V 6), .int (V 7), .int (V 8), .int (V 9), .int (V 10), .int (V 11), .int (V 12), .int (V 13), .int (V 14), .int (V 15)])), (n, .inl (0, 3, .inl fN)), (p, .inl (3, 3, .inr (.inr (.inr (.inr fR))))), (b, .inr (5, [.int (W 0), .int (W 1), .int (W 2), .int (W 3), .ref n2, .ref p2, .int (W 6), .int (W 7), .int (W 8), .int (W 9), .int (W 10), .int (W 11), .int (W 12), .int (W 13), .int (W 14), .int (W 15)])), (n2, .inl (0, 3, .inl fN2)), (p2, .inl (3, 3, .inr (.inr (.inr (.inr fR2)))))]) 0 hn rfl dX5_copyFrom_5 fpX5_19 rfl rfl (Nat.le_of_ble_eq_true rfl) rfl ?_
  refine ax_aload_n dX5_copyFrom_8 rfl ?_
  refine ax_aload_n dX5_copyFrom_9 rfl ?_
  refine ax_wget 3 hn rfl dX5_copyFrom_10 fkX5_23 rfl ?_
  refine ax_wput (l' := [(a, .inr (5, [.int (W 0), .int (W 1), .int (V 2), .int (V 3), .ref n, .ref p, .int (V 6), .int (V 7), .int (V 8), .int (V 9), .int (V 10), .int (V 11), .int (V 12), .int (V 13), .int (V 14), .int (V 15)])), (n, .inl (0, 3, .inl fN)), (p, .inl (3, 3, .inr (.inr (.inr (.inr fR))))), (b, .inr (5, [.int (W 0), .int (W 1), .int (W 2), .int (W 3), .ref n2, .ref p2, .int (W 6), .int (W 7), .int (W 8), .int (W 9), .int (W 10), .int (W 11), .int (W 12), .int (W 13), .int (W 14), .int (W 15)])), (n2, .inl (0, 3, .inl fN2)), (p2, .inl (3, 3, .inr (.inr (.inr (.inr fR2)))))]) 0 hn rfl dX5_copyFrom_13 fpX5_23 rfl rfl (Nat.le_of_ble_eq_true rfl) rfl ?_
  refine ax_aload_n dX5_copyFrom_16 rfl ?_
  refine ax_aload_n dX5_copyFrom_17 rfl ?_
  refine ax_wget 3 hn rfl dX5_copyFrom_18 fkX5_26 rfl ?_
  refine ax_wput (l' := [(a, .inr (5, [.int (W 0), .int (W 1), .int (W 2), .int (V 3), .ref n, .ref p, .int (V 6), .int (V 7), .int (V 8), .int (V 9), .int (V 10), .int (V 11), .int (V 12), .int (V 13), .int (V 14), .int (V 15)])), (n, .inl (0, 3, .inl fN)), (p, .inl (3, 3, .inr (.inr (.inr (.inr fR))))), (b, .inr (5, [.int (W 0), .int (W 1), .int (W 2), .int (W 3), .ref n2, .ref p2, .int (W 6), .int (W 7), .int (W 8), .int (W 9), .int (W 10), .int (W 11), .int (W 12), .int (W 13), .int (W 14), .int (W 15)])), (n2, .inl (0, 3, .inl fN2)), (p2, .inl (3, 3, .inr (.inr (.inr (.inr fR2)))))]) 0 hn rfl dX5_copyFrom_21 fpX5_26 rfl rfl (Nat.le_of_ble_eq_true rfl) rfl ?_
  refine ax_aload_n dX5_copyFrom_24 rfl ?_
  refine ax_aload_n dX5_copyFrom_25 rfl ?_
  refine ax_wget 3 hn rfl dX5_copyFrom_26 fkX5_29 rfl ?_
  refine ax_wput (l' := [(a, .inr (5, [.int (W 0), .int (W 1), .int (W 2), .int (W 3), .ref n, .ref p, .int (V 6), .int (V 7), .int (V 8), .int (V 9), .int (V 10), .int (V 11), .int (V 12), .int (V 13), .int (V 14), .int (V 15)])), (n, .inl (0, 3, .inl fN)), (p, .inl (3, 3, .inr (.inr (.inr (.inr fR))))), (b, .inr (5, [.int (W 0), .int (W 1), .int (W 2), .int (W 3), .ref n2, .ref p2, .int (W 6), .int (W 7), .int (W 8), .int (W 9), .int (W 10), .int (W 11), .int (W 12), .int (W 13), .int (W 14), .int (W 15)])), (n2, .inl (0, 3, .inl fN2)), (p2, .inl (3, 3, .inr (.inr (.inr (.inr fR2)))))]) 0 hn rfl dX5_copyFrom_29 fpX5_29 rfl rfl (Nat.le_of_ble_eq_true rfl) rfl ?_
  refine ax_iconst (v := 0) dX5_copyFrom_32 (by decide) ?_
  refine ax_istore_n dX5_copyFrom_33 (by decide) ?_
  refine ax_sub (lv' := [(0, .ref a), (1, .ref b), (2, .int 0)]) (fun _ z => z) ?_
  refine ax_iload_n dX5_copyFrom_34 rfl ?_
  refine ax_aload_n dX5_copyFrom_35 rfl ?_
  refine ax_wget 0 hn rfl dX5_copyFrom_36 fkX5_29 rfl ?_
  refine ax_icmp_ge (tgt := 77) dX5_copyFrom_39 (by decide) (fun z => absurd z (by rw [hW]; decide)) (fun _ => ?_)
  refine ax_iload_n dX5_copyFrom_42 rfl ?_
  refine ax_iconst (v := 3) dX5_copyFrom_43 (by decide) ?_
  refine ax_icmp_ge (tgt := 77) dX5_copyFrom_44 (by decide) (fun z => absurd z (by decide)) (fun _ => ?_)
  refine ax_aload_n dX5_copyFrom_47 rfl ?_
  refine ax_wget 0 hn rfl dX5_copyFrom_48 fkX5_9 rfl ?_
  refine ax_iload_n dX5_copyFrom_51 rfl ?_
  refine ax_aload_n dX5_copyFrom_52 rfl ?_
  refine ax_wget 3 hn rfl dX5_copyFrom_53 fkX5_9 rfl ?_
  refine ax_iload_n dX5_copyFrom_56 rfl ?_
  refine ax_wiald 4 hn rfl dX5_copyFrom_57 (by unfold vp_in; decide) ?_
  refine ax_wiast (l' := [(a, .inr (5, [.int (W 0), .int (W 1), .int (W 2), .int (W 3), .ref n, .ref p, .int (V 6), .int (V 7), .int (V 8), .int (V 9), .int (V 10), .int (V 11), .int (V 12), .int (V 13), .int (V 14), .int (V 15)])), (n, .inl (0, 3, .inl (upd fN 0 (fN2 0)))), (p, .inl (3, 3, .inr (.inr (.inr (.inr fR))))), (b, .inr (5, [.int (W 0), .int (W 1), .int (W 2), .int (W 3), .ref n2, .ref p2, .int (W 6), .int (W 7), .int (W 8), .int (W 9), .int (W 10), .int (W 11), .int (W 12), .int (W 13), .int (W 14), .int (W 15)])), (n2, .inl (0, 3, .inl fN2)), (p2, .inl (3, 3, .inr (.inr (.inr (.inr fR2)))))]) 1 hn rfl dX5_copyFrom_58 (by unfold vp_in; decide) rfl ?_
  refine ax_aload_n dX5_copyFrom_59 rfl ?_
  refine ax_wget 0 hn rfl dX5_copyFrom_60 fkX5_15 rfl ?_
  refine ax_iload_n dX5_copyFrom_63 rfl ?_
  refine ax_aload_n dX5_copyFrom_64 rfl ?_
  refine ax_wget 3 hn rfl dX5_copyFrom_65 fkX5_15 rfl ?_
  refine ax_iload_n dX5_copyFrom_68 rfl ?_
  refine ax_waald3 5 hn rfl dX5_copyFrom_69 (by unfold vp_in; decide) ?_
  refine ax_waastO (l' := [(a, .inr (5, [.int (W 0), .int (W 1), .int (W 2), .int (W 3), .ref n, .ref p, .int (V 6), .int (V 7), .int (V 8), .int (V 9), .int (V 10), .int (V 11), .int (V 12), .int (V 13), .int (V 14), .int (V 15)])), (n, .inl (0, 3, .inl (upd fN 0 (fN2 0)))), (p, .inl (3, 3, .inr (.inr (.inr (.inr (va_up fR 0 (fR2 0))))))), (b, .inr (5, [.int (W 0), .int (W 1), .int (W 2), .int (W 3), .ref n2, .ref p2, .int (W 6), .int (W 7), .int (W 8), .int (W 9), .int (W 10), .int (W 11), .int (W 12), .int (W 13), .int (W 14), .int (W 15)])), (n2, .inl (0, 3, .inl fN2)), (p2, .inl (3, 3, .inr (.inr (.inr (.inr fR2)))))]) 2 hn rfl (fun y9 h9 => by rw [ax_w_ne (hR 0 (by decide) _ h9).1]; exact (hR 0 (by decide) _ h9).2) dX5_copyFrom_70 (by unfold vp_in; decide) rfl ?_
  refine ax_iinc (v := 1) dX5_copyFrom_71 rfl (by decide) (by decide) ?_
  refine ax_sub (lv' := [(0, .ref a), (1, .ref b), (2, .int 1)]) (fun _ z => z) ?_
  refine ax_goto (tgt := 34) dX5_copyFrom_74 (by decide) ?_
  refine ax_iload_n dX5_copyFrom_34 rfl ?_
  refine ax_aload_n dX5_copyFrom_35 rfl ?_
  refine ax_wget 0 hn rfl dX5_copyFrom_36 fkX5_29 rfl ?_
  refine ax_icmp_ge (tgt := 77) dX5_copyFrom_39 (by decide) (fun z => absurd z (by rw [hW]; decide)) (fun _ => ?_)
  refine ax_iload_n dX5_copyFrom_42 rfl ?_
  refine ax_iconst (v := 3) dX5_copyFrom_43 (by decide) ?_
  refine ax_icmp_ge (tgt := 77) dX5_copyFrom_44 (by decide) (fun z => absurd z (by decide)) (fun _ => ?_)
  refine ax_aload_n dX5_copyFrom_47 rfl ?_
  refine ax_wget 0 hn rfl dX5_copyFrom_48 fkX5_9 rfl ?_
  refine ax_iload_n dX5_copyFrom_51 rfl ?_
  refine ax_aload_n dX5_copyFrom_52 rfl ?_
  refine ax_wget 3 hn rfl dX5_copyFrom_53 fkX5_9 rfl ?_
  refine ax_iload_n dX5_copyFrom_56 rfl ?_
  refine ax_wiald 4 hn rfl dX5_copyFrom_57 (by unfold vp_in; decide) ?_
  refine ax_wiast (l' := [(a, .inr (5, [.int (W 0), .int (W 1), .int (W 2), .int (W 3), .ref n, .ref p, .int (V 6), .int (V 7), .int (V 8), .int (V 9), .int (V 10), .int (V 11), .int (V 12), .int (V 13), .int (V 14), .int (V 15)])), (n, .inl (0, 3, .inl (upd (upd fN 0 (fN2 0)) 1 (fN2 1)))), (p, .inl (3, 3, .inr (.inr (.inr (.inr (va_up fR 0 (fR2 0))))))), (b, .inr (5, [.int (W 0), .int (W 1), .int (W 2), .int (W 3), .ref n2, .ref p2, .int (W 6), .int (W 7), .int (W 8), .int (W 9), .int (W 10), .int (W 11), .int (W 12), .int (W 13), .int (W 14), .int (W 15)])), (n2, .inl (0, 3, .inl fN2)), (p2, .inl (3, 3, .inr (.inr (.inr (.inr fR2)))))]) 1 hn rfl dX5_copyFrom_58 (by unfold vp_in; decide) rfl ?_
  refine ax_aload_n dX5_copyFrom_59 rfl ?_
  refine ax_wget 0 hn rfl dX5_copyFrom_60 fkX5_15 rfl ?_
  refine ax_iload_n dX5_copyFrom_63 rfl ?_
  refine ax_aload_n dX5_copyFrom_64 rfl ?_
  refine ax_wget 3 hn rfl dX5_copyFrom_65 fkX5_15 rfl ?_
  refine ax_iload_n dX5_copyFrom_68 rfl ?_
  refine ax_waald3 5 hn rfl dX5_copyFrom_69 (by unfold vp_in; decide) ?_
  refine ax_waastO (l' := [(a, .inr (5, [.int (W 0), .int (W 1), .int (W 2), .int (W 3), .ref n, .ref p, .int (V 6), .int (V 7), .int (V 8), .int (V 9), .int (V 10), .int (V 11), .int (V 12), .int (V 13), .int (V 14), .int (V 15)])), (n, .inl (0, 3, .inl (upd (upd fN 0 (fN2 0)) 1 (fN2 1)))), (p, .inl (3, 3, .inr (.inr (.inr (.inr (va_up (va_up fR 0 (fR2 0)) 1 (fR2 1))))))), (b, .inr (5, [.int (W 0), .int (W 1), .int (W 2), .int (W 3), .ref n2, .ref p2, .int (W 6), .int (W 7), .int (W 8), .int (W 9), .int (W 10), .int (W 11), .int (W 12), .int (W 13), .int (W 14), .int (W 15)])), (n2, .inl (0, 3, .inl fN2)), (p2, .inl (3, 3, .inr (.inr (.inr (.inr fR2)))))]) 2 hn rfl (fun y9 h9 => by rw [ax_w_ne (hR 1 (by decide) _ h9).1]; exact (hR 1 (by decide) _ h9).2) dX5_copyFrom_70 (by unfold vp_in; decide) rfl ?_
  refine ax_iinc (v := 2) dX5_copyFrom_71 rfl (by decide) (by decide) ?_
  refine ax_sub (lv' := [(0, .ref a), (1, .ref b), (2, .int 2)]) (fun _ z => z) ?_
  refine ax_goto (tgt := 34) dX5_copyFrom_74 (by decide) ?_
  refine ax_iload_n dX5_copyFrom_34 rfl ?_
  refine ax_aload_n dX5_copyFrom_35 rfl ?_
  refine ax_wget 0 hn rfl dX5_copyFrom_36 fkX5_29 rfl ?_
  refine ax_icmp_ge (tgt := 77) dX5_copyFrom_39 (by decide) (fun z => absurd z (by rw [hW]; decide)) (fun _ => ?_)
  refine ax_iload_n dX5_copyFrom_42 rfl ?_
  refine ax_iconst (v := 3) dX5_copyFrom_43 (by decide) ?_
  refine ax_icmp_ge (tgt := 77) dX5_copyFrom_44 (by decide) (fun z => absurd z (by decide)) (fun _ => ?_)
  refine ax_aload_n dX5_copyFrom_47 rfl ?_
  refine ax_wget 0 hn rfl dX5_copyFrom_48 fkX5_9 rfl ?_
  refine ax_iload_n dX5_copyFrom_51 rfl ?_
  refine ax_aload_n dX5_copyFrom_52 rfl ?_
  refine ax_wget 3 hn rfl dX5_copyFrom_53 fkX5_9 rfl ?_
  refine ax_iload_n dX5_copyFrom_56 rfl ?_
  refine ax_wiald 4 hn rfl dX5_copyFrom_57 (by unfold vp_in; decide) ?_
  refine ax_wiast (l' := [(a, .inr (5, [.int (W 0), .int (W 1), .int (W 2), .int (W 3), .ref n, .ref p, .int (V 6), .int (V 7), .int (V 8), .int (V 9), .int (V 10), .int (V 11), .int (V 12), .int (V 13), .int (V 14), .int (V 15)])), (n, .inl (0, 3, .inl (upd (upd (upd fN 0 (fN2 0)) 1 (fN2 1)) 2 (fN2 2)))), (p, .inl (3, 3, .inr (.inr (.inr (.inr (va_up (va_up fR 0 (fR2 0)) 1 (fR2 1))))))), (b, .inr (5, [.int (W 0), .int (W 1), .int (W 2), .int (W 3), .ref n2, .ref p2, .int (W 6), .int (W 7), .int (W 8), .int (W 9), .int (W 10), .int (W 11), .int (W 12), .int (W 13), .int (W 14), .int (W 15)])), (n2, .inl (0, 3, .inl fN2)), (p2, .inl (3, 3, .inr (.inr (.inr (.inr fR2)))))]) 1 hn rfl dX5_copyFrom_58 (by unfold vp_in; decide) rfl ?_
  refine ax_aload_n dX5_copyFrom_59 rfl ?_
  refine ax_wget 0 hn rfl dX5_copyFrom_60 fkX5_15 rfl ?_
  refine ax_iload_n dX5_copyFrom_63 rfl ?_
  refine ax_aload_n dX5_copyFrom_64 rfl ?_
  refine ax_wget 3 hn rfl dX5_copyFrom_65 fkX5_15 rfl ?_
  refine ax_iload_n dX5_copyFrom_68 rfl ?_
  refine ax_waald3 5 hn rfl dX5_copyFrom_69 (by unfold vp_in; decide) ?_
  refine ax_waastO (l' := [(a, .inr (5, [.int (W 0), .int (W 1), .int (W 2), .int (W 3), .ref n, .ref p, .int (V 6), .int (V 7), .int (V 8), .int (V 9), .int (V 10), .int (V 11), .int (V 12), .int (V 13), .int (V 14), .int (V 15)])), (n, .inl (0, 3, .inl (upd (upd (upd fN 0 (fN2 0)) 1 (fN2 1)) 2 (fN2 2)))), (p, .inl (3, 3, .inr (.inr (.inr (.inr (va_up (va_up (va_up fR 0 (fR2 0)) 1 (fR2 1)) 2 (fR2 2))))))), (b, .inr (5, [.int (W 0), .int (W 1), .int (W 2), .int (W 3), .ref n2, .ref p2, .int (W 6), .int (W 7), .int (W 8), .int (W 9), .int (W 10), .int (W 11), .int (W 12), .int (W 13), .int (W 14), .int (W 15)])), (n2, .inl (0, 3, .inl fN2)), (p2, .inl (3, 3, .inr (.inr (.inr (.inr fR2)))))]) 2 hn rfl (fun y9 h9 => by rw [ax_w_ne (hR 2 (by decide) _ h9).1]; exact (hR 2 (by decide) _ h9).2) dX5_copyFrom_70 (by unfold vp_in; decide) rfl ?_
  refine ax_iinc (v := 3) dX5_copyFrom_71 rfl (by decide) (by decide) ?_
  refine ax_sub (lv' := [(0, .ref a), (1, .ref b), (2, .int 3)]) (fun _ z => z) ?_
  refine ax_goto (tgt := 34) dX5_copyFrom_74 (by decide) ?_
  refine ax_iload_n dX5_copyFrom_34 rfl ?_
  refine ax_aload_n dX5_copyFrom_35 rfl ?_
  refine ax_wget 0 hn rfl dX5_copyFrom_36 fkX5_29 rfl ?_
  refine ax_icmp_ge (tgt := 77) dX5_copyFrom_39 (by decide) (fun _ => ?_) (fun z => absurd (by rw [hW]; decide) z)
  refine ax_aload_n dX5_copyFrom_77 rfl ?_
  refine ax_aload_n dX5_copyFrom_78 rfl ?_
  refine ax_wget 3 hn rfl dX5_copyFrom_79 fkX5_32 rfl ?_
  refine ax_wput (l' := [(a, .inr (5, [.int (W 0), .int (W 1), .int (W 2), .int (W 3), .ref n, .ref p, .int (W 6), .int (V 7), .int (V 8), .int (V 9), .int (V 10), .int (V 11), .int (V 12), .int (V 13), .int (V 14), .int (V 15)])), (n, .inl (0, 3, .inl (upd (upd (upd fN 0 (fN2 0)) 1 (fN2 1)) 2 (fN2 2)))), (p, .inl (3, 3, .inr (.inr (.inr (.inr (va_up (va_up (va_up fR 0 (fR2 0)) 1 (fR2 1)) 2 (fR2 2))))))), (b, .inr (5, [.int (W 0), .int (W 1), .int (W 2), .int (W 3), .ref n2, .ref p2, .int (W 6), .int (W 7), .int (W 8), .int (W 9), .int (W 10), .int (W 11), .int (W 12), .int (W 13), .int (W 14), .int (W 15)])), (n2, .inl (0, 3, .inl fN2)), (p2, .inl (3, 3, .inr (.inr (.inr (.inr fR2)))))]) 0 hn rfl dX5_copyFrom_82 fpX5_32 rfl rfl (Nat.le_of_ble_eq_true rfl) rfl ?_
  refine ax_aload_n dX5_copyFrom_85 rfl ?_
  refine ax_aload_n dX5_copyFrom_86 rfl ?_
  refine ax_wget 3 hn rfl dX5_copyFrom_87 fkX5_35 rfl ?_
  refine ax_wput (l' := [(a, .inr (5, [.int (W 0), .int (W 1), .int (W 2), .int (W 3), .ref n, .ref p, .int (W 6), .int (W 7), .int (V 8), .int (V 9), .int (V 10), .int (V 11), .int (V 12), .int (V 13), .int (V 14), .int (V 15)])), (n, .inl (0, 3, .inl (upd (upd (upd fN 0 (fN2 0)) 1 (fN2 1)) 2 (fN2 2)))), (p, .inl (3, 3, .inr (.inr (.inr (.inr (va_up (va_up (va_up fR 0 (fR2 0)) 1 (fR2 1)) 2 (fR2 2))))))), (b, .inr (5, [.int (W 0), .int (W 1), .int (W 2), .int (W 3), .ref n2, .ref p2, .int (W 6), .int (W 7), .int (W 8), .int (W 9), .int (W 10), .int (W 11), .int (W 12), .int (W 13), .int (W 14), .int (W 15)])), (n2, .inl (0, 3, .inl fN2)), (p2, .inl (3, 3, .inr (.inr (.inr (.inr fR2)))))]) 0 hn rfl dX5_copyFrom_90 fpX5_35 rfl rfl (Nat.le_of_ble_eq_true rfl) rfl ?_
  refine ax_aload_n dX5_copyFrom_93 rfl ?_
  refine ax_aload_n dX5_copyFrom_94 rfl ?_
  refine ax_wget 3 hn rfl dX5_copyFrom_95 fkX5_38 rfl ?_
  refine ax_wput (l' := [(a, .inr (5, [.int (W 0), .int (W 1), .int (W 2), .int (W 3), .ref n, .ref p, .int (W 6), .int (W 7), .int (W 8), .int (V 9), .int (V 10), .int (V 11), .int (V 12), .int (V 13), .int (V 14), .int (V 15)])), (n, .inl (0, 3, .inl (upd (upd (upd fN 0 (fN2 0)) 1 (fN2 1)) 2 (fN2 2)))), (p, .inl (3, 3, .inr (.inr (.inr (.inr (va_up (va_up (va_up fR 0 (fR2 0)) 1 (fR2 1)) 2 (fR2 2))))))), (b, .inr (5, [.int (W 0), .int (W 1), .int (W 2), .int (W 3), .ref n2, .ref p2, .int (W 6), .int (W 7), .int (W 8), .int (W 9), .int (W 10), .int (W 11), .int (W 12), .int (W 13), .int (W 14), .int (W 15)])), (n2, .inl (0, 3, .inl fN2)), (p2, .inl (3, 3, .inr (.inr (.inr (.inr fR2)))))]) 0 hn rfl dX5_copyFrom_98 fpX5_38 rfl rfl (Nat.le_of_ble_eq_true rfl) rfl ?_
  refine ax_aload_n dX5_copyFrom_101 rfl ?_
  refine ax_aload_n dX5_copyFrom_102 rfl ?_
  refine ax_wget 3 hn rfl dX5_copyFrom_103 fkX5_41 rfl ?_
  refine ax_wput (l' := [(a, .inr (5, [.int (W 0), .int (W 1), .int (W 2), .int (W 3), .ref n, .ref p, .int (W 6), .int (W 7), .int (W 8), .int (W 9), .int (V 10), .int (V 11), .int (V 12), .int (V 13), .int (V 14), .int (V 15)])), (n, .inl (0, 3, .inl (upd (upd (upd fN 0 (fN2 0)) 1 (fN2 1)) 2 (fN2 2)))), (p, .inl (3, 3, .inr (.inr (.inr (.inr (va_up (va_up (va_up fR 0 (fR2 0)) 1 (fR2 1)) 2 (fR2 2))))))), (b, .inr (5, [.int (W 0), .int (W 1), .int (W 2), .int (W 3), .ref n2, .ref p2, .int (W 6), .int (W 7), .int (W 8), .int (W 9), .int (W 10), .int (W 11), .int (W 12), .int (W 13), .int (W 14), .int (W 15)])), (n2, .inl (0, 3, .inl fN2)), (p2, .inl (3, 3, .inr (.inr (.inr (.inr fR2)))))]) 0 hn rfl dX5_copyFrom_106 fpX5_41 rfl rfl (Nat.le_of_ble_eq_true rfl) rfl ?_
  refine ax_aload_n dX5_copyFrom_109 rfl ?_
  refine ax_aload_n dX5_copyFrom_110 rfl ?_
  refine ax_wget 3 hn rfl dX5_copyFrom_111 fkX5_44 rfl ?_
  refine ax_wput (l' := [(a, .inr (5, [.int (W 0), .int (W 1), .int (W 2), .int (W 3), .ref n, .ref p, .int (W 6), .int (W 7), .int (W 8), .int (W 9), .int (W 10), .int (V 11), .int (V 12), .int (V 13), .int (V 14), .int (V 15)])), (n, .inl (0, 3, .inl (upd (upd (upd fN 0 (fN2 0)) 1 (fN2 1)) 2 (fN2 2)))), (p, .inl (3, 3, .inr (.inr (.inr (.inr (va_up (va_up (va_up fR 0 (fR2 0)) 1 (fR2 1)) 2 (fR2 2))))))), (b, .inr (5, [.int (W 0), .int (W 1), .int (W 2), .int (W 3), .ref n2, .ref p2, .int (W 6), .int (W 7), .int (W 8), .int (W 9), .int (W 10), .int (W 11), .int (W 12), .int (W 13), .int (W 14), .int (W 15)])), (n2, .inl (0, 3, .inl fN2)), (p2, .inl (3, 3, .inr (.inr (.inr (.inr fR2)))))]) 0 hn rfl dX5_copyFrom_114 fpX5_44 rfl rfl (Nat.le_of_ble_eq_true rfl) rfl ?_
  refine ax_aload_n dX5_copyFrom_117 rfl ?_
  refine ax_aload_n dX5_copyFrom_118 rfl ?_
  refine ax_wget 3 hn rfl dX5_copyFrom_119 fkX5_47 rfl ?_
  refine ax_wput (l' := [(a, .inr (5, [.int (W 0), .int (W 1), .int (W 2), .int (W 3), .ref n, .ref p, .int (W 6), .int (W 7), .int (W 8), .int (W 9), .int (W 10), .int (W 11), .int (V 12), .int (V 13), .int (V 14), .int (V 15)])), (n, .inl (0, 3, .inl (upd (upd (upd fN 0 (fN2 0)) 1 (fN2 1)) 2 (fN2 2)))), (p, .inl (3, 3, .inr (.inr (.inr (.inr (va_up (va_up (va_up fR 0 (fR2 0)) 1 (fR2 1)) 2 (fR2 2))))))), (b, .inr (5, [.int (W 0), .int (W 1), .int (W 2), .int (W 3), .ref n2, .ref p2, .int (W 6), .int (W 7), .int (W 8), .int (W 9), .int (W 10), .int (W 11), .int (W 12), .int (W 13), .int (W 14), .int (W 15)])), (n2, .inl (0, 3, .inl fN2)), (p2, .inl (3, 3, .inr (.inr (.inr (.inr fR2)))))]) 0 hn rfl dX5_copyFrom_122 fpX5_47 rfl rfl (Nat.le_of_ble_eq_true rfl) rfl ?_
  refine ax_aload_n dX5_copyFrom_125 rfl ?_
  refine ax_aload_n dX5_copyFrom_126 rfl ?_
  refine ax_wget 3 hn rfl dX5_copyFrom_127 fkX5_50 rfl ?_
  refine ax_wput (l' := [(a, .inr (5, [.int (W 0), .int (W 1), .int (W 2), .int (W 3), .ref n, .ref p, .int (W 6), .int (W 7), .int (W 8), .int (W 9), .int (W 10), .int (W 11), .int (W 12), .int (V 13), .int (V 14), .int (V 15)])), (n, .inl (0, 3, .inl (upd (upd (upd fN 0 (fN2 0)) 1 (fN2 1)) 2 (fN2 2)))), (p, .inl (3, 3, .inr (.inr (.inr (.inr (va_up (va_up (va_up fR 0 (fR2 0)) 1 (fR2 1)) 2 (fR2 2))))))), (b, .inr (5, [.int (W 0), .int (W 1), .int (W 2), .int (W 3), .ref n2, .ref p2, .int (W 6), .int (W 7), .int (W 8), .int (W 9), .int (W 10), .int (W 11), .int (W 12), .int (W 13), .int (W 14), .int (W 15)])), (n2, .inl (0, 3, .inl fN2)), (p2, .inl (3, 3, .inr (.inr (.inr (.inr fR2)))))]) 0 hn rfl dX5_copyFrom_130 fpX5_50 rfl rfl (Nat.le_of_ble_eq_true rfl) rfl ?_
  refine ax_aload_n dX5_copyFrom_133 rfl ?_
  refine ax_aload_n dX5_copyFrom_134 rfl ?_
  refine ax_wget 3 hn rfl dX5_copyFrom_135 fkX5_53 rfl ?_
  refine ax_wput (l' := [(a, .inr (5, [.int (W 0), .int (W 1), .int (W 2), .int (W 3), .ref n, .ref p, .int (W 6), .int (W 7), .int (W 8), .int (W 9), .int (W 10), .int (W 11), .int (W 12), .int (V 13), .int (W 14), .int (V 15)])), (n, .inl (0, 3, .inl (upd (upd (upd fN 0 (fN2 0)) 1 (fN2 1)) 2 (fN2 2)))), (p, .inl (3, 3, .inr (.inr (.inr (.inr (va_up (va_up (va_up fR 0 (fR2 0)) 1 (fR2 1)) 2 (fR2 2))))))), (b, .inr (5, [.int (W 0), .int (W 1), .int (W 2), .int (W 3), .ref n2, .ref p2, .int (W 6), .int (W 7), .int (W 8), .int (W 9), .int (W 10), .int (W 11), .int (W 12), .int (W 13), .int (W 14), .int (W 15)])), (n2, .inl (0, 3, .inl fN2)), (p2, .inl (3, 3, .inr (.inr (.inr (.inr fR2)))))]) 0 hn rfl dX5_copyFrom_138 fpX5_53 rfl rfl (Nat.le_of_ble_eq_true rfl) rfl ?_
  refine ax_aload_n dX5_copyFrom_141 rfl ?_
  refine ax_aload_n dX5_copyFrom_142 rfl ?_
  refine ax_wget 3 hn rfl dX5_copyFrom_143 fkX5_56 rfl ?_
  refine ax_wput (l' := [(a, .inr (5, [.int (W 0), .int (W 1), .int (W 2), .int (W 3), .ref n, .ref p, .int (W 6), .int (W 7), .int (W 8), .int (W 9), .int (W 10), .int (W 11), .int (W 12), .int (W 13), .int (W 14), .int (V 15)])), (n, .inl (0, 3, .inl (upd (upd (upd fN 0 (fN2 0)) 1 (fN2 1)) 2 (fN2 2)))), (p, .inl (3, 3, .inr (.inr (.inr (.inr (va_up (va_up (va_up fR 0 (fR2 0)) 1 (fR2 1)) 2 (fR2 2))))))), (b, .inr (5, [.int (W 0), .int (W 1), .int (W 2), .int (W 3), .ref n2, .ref p2, .int (W 6), .int (W 7), .int (W 8), .int (W 9), .int (W 10), .int (W 11), .int (W 12), .int (W 13), .int (W 14), .int (W 15)])), (n2, .inl (0, 3, .inl fN2)), (p2, .inl (3, 3, .inr (.inr (.inr (.inr fR2)))))]) 0 hn rfl dX5_copyFrom_146 fpX5_56 rfl rfl (Nat.le_of_ble_eq_true rfl) rfl ?_
  refine ax_aload_n dX5_copyFrom_149 rfl ?_
  refine ax_aload_n dX5_copyFrom_150 rfl ?_
  refine ax_wget 3 hn rfl dX5_copyFrom_151 fkX5_59 rfl ?_
  refine ax_wput (l' := [(a, .inr (5, [.int (W 0), .int (W 1), .int (W 2), .int (W 3), .ref n, .ref p, .int (W 6), .int (W 7), .int (W 8), .int (W 9), .int (W 10), .int (W 11), .int (W 12), .int (W 13), .int (W 14), .int (W 15)])), (n, .inl (0, 3, .inl (upd (upd (upd fN 0 (fN2 0)) 1 (fN2 1)) 2 (fN2 2)))), (p, .inl (3, 3, .inr (.inr (.inr (.inr (va_up (va_up (va_up fR 0 (fR2 0)) 1 (fR2 1)) 2 (fR2 2))))))), (b, .inr (5, [.int (W 0), .int (W 1), .int (W 2), .int (W 3), .ref n2, .ref p2, .int (W 6), .int (W 7), .int (W 8), .int (W 9), .int (W 10), .int (W 11), .int (W 12), .int (W 13), .int (W 14), .int (W 15)])), (n2, .inl (0, 3, .inl fN2)), (p2, .inl (3, 3, .inr (.inr (.inr (.inr fR2)))))]) 0 hn rfl dX5_copyFrom_154 fpX5_59 (by first | exact hb | exact hb2) (by first | exact hb | exact hb2) (Nat.le_of_ble_eq_true rfl) rfl ?_
  exact ax_vret (st := []) dX5_copyFrom_157 rfl ⟨rfl, rfl⟩
