abbrev x_nms : List String := ["java/lang/RuntimeException", "java/lang/Exception"]
def x_tk (k ik ic : Nat) : Prop := Bundle.fit (x_ex k) = true ∧ Cond.classLink RX6 ik (x_ex k) ∈ xA ∧ Cond.initialized (x_ex k) ∈ xA ∧ (∀ w ∈ (vx_atS RX6 ic (x_ex k) x_nms).filter goodWord, w ∈ xA) ∧ (∀ w ∈ (vx_atS RX6 ic (x_ex k) x_nms).filter (fun w => !goodWord w), w ∈ x_dw) ∧ ∀ w ∈ Cond.classLink RX6 ik (x_ex k) :: Cond.initialized (x_ex k) :: vx_atS RX6 ic (x_ex k) x_nms, vx_ot w = true
set_option maxRecDepth 100000 in
theorem x_tk1 : x_tk 1 206 210 := ⟨by decide +kernel, w4_48, w1_18, fun w h => List.mem_filter.mpr ⟨(by decide +kernel : ∀ w ∈ (vx_atS RX6 210 (x_ex 1) x_nms).filter goodWord, w ∈ lw_tbl) w h, (List.mem_filter.mp h).2⟩, by decide +kernel, by decide +kernel⟩
set_option maxRecDepth 100000 in
theorem x_tk2 : x_tk 2 200 204 := ⟨by decide +kernel, w4_133, w1_19, fun w h => List.mem_filter.mpr ⟨(by decide +kernel : ∀ w ∈ (vx_atS RX6 204 (x_ex 2) x_nms).filter goodWord, w ∈ lw_tbl) w h, (List.mem_filter.mp h).2⟩, by decide +kernel, by decide +kernel⟩
set_option maxRecDepth 100000 in
theorem x_tk3 : x_tk 3 279 283 := ⟨by decide +kernel, w5_104, w1_20, fun w h => List.mem_filter.mpr ⟨(by decide +kernel : ∀ w ∈ (vx_atS RX6 283 (x_ex 3) x_nms).filter goodWord, w ∈ lw_tbl) w h, (List.mem_filter.mp h).2⟩, by decide +kernel, by decide +kernel⟩
