theorem ax_atS_of {own cls : String} {ic : Nat} (h1 : ∀ w ∈ (vx_atS own ic cls ax_nms).filter goodWord, w ∈ lw_tbl) (h2 : ∀ w ∈ (vx_atS own ic cls ax_nms).filter (fun w => !goodWord w), w ∈ ax_bad) : ∀ w ∈ vx_atS own ic cls ax_nms, w ∈ ax_all ∨ w ∈ ax_bad := by
  intro w hw
  by_cases hg : goodWord w = true
  · exact Or.inl (List.mem_filter.mpr ⟨h1 w (List.mem_filter.mpr ⟨hw, hg⟩), hg⟩)
  · exact Or.inr (h2 w (List.mem_filter.mpr ⟨hw, by simpa using hg⟩))
theorem atIAE : ∀ w ∈ vx_atS RX6 54 "java/lang/IllegalArgumentException" ax_nms, w ∈ ax_all ∨ w ∈ ax_bad := ax_atS_of (by decide +kernel) (by decide +kernel)
theorem thIAE {is : Nat} {text : String} (h : (RX6, is, text) ∈ ax_strs) : ax_th RX6 50 is 54 "java/lang/IllegalArgumentException" text := ⟨by decide +kernel, by decide +kernel, tkIAE, tiIAE, h, atIAE⟩
theorem atISE : ∀ w ∈ vx_atS RX6 74 "java/lang/IllegalStateException" ax_nms, w ∈ ax_all ∨ w ∈ ax_bad := ax_atS_of (by decide +kernel) (by decide +kernel)
theorem thISE {is : Nat} {text : String} (h : (RX6, is, text) ∈ ax_strs) : ax_th RX6 70 is 74 "java/lang/IllegalStateException" text := ⟨by decide +kernel, by decide +kernel, tkISE, tiISE, h, atISE⟩
theorem atIOB : ∀ w ∈ vx_atS RX6 129 "java/lang/IndexOutOfBoundsException" ax_nms, w ∈ ax_all ∨ w ∈ ax_bad := ax_atS_of (by decide +kernel) (by decide +kernel)
theorem thIOB {is : Nat} {text : String} (h : (RX6, is, text) ∈ ax_strs) : ax_th RX6 125 is 129 "java/lang/IndexOutOfBoundsException" text := ⟨by decide +kernel, by decide +kernel, tkIOB, tiIOB, h, atIOB⟩
