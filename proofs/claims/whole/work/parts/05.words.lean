/-! written by wip/whole/gen.py: words by their places -/
theorem nw_f_X1_35 : Cond.fieldLinkNest RX1 35 RX0 "size" "I" "KnotArchive" ∈ k_ws := by decide +kernel
theorem nw_f_X1_41 : Cond.fieldLinkNest RX1 41 RX0 "strands" "[I" "KnotArchive" ∈ k_ws := by decide +kernel
theorem nw_f_X4_58 : Cond.fieldLinkNest RX4 58 RX0 "size" "I" "KnotArchive" ∈ k_ws := by decide +kernel
theorem nw_f_X4_93 : Cond.fieldLinkNest RX4 93 RX1 "tied" "[[I" "KnotArchive" ∈ k_ws := by decide +kernel
theorem nw_f_X4_99 : Cond.fieldLinkNest RX4 99 RX2 "size" "I" "KnotArchive" ∈ k_ws := by decide +kernel
theorem nw_f_X4_122 : Cond.fieldLinkNest RX4 122 RX1 "frays" "[[I" "KnotArchive" ∈ k_ws := by decide +kernel
theorem nw_f_X4_125 : Cond.fieldLinkNest RX4 125 RX3 "size" "I" "KnotArchive" ∈ k_ws := by decide +kernel
theorem nw_f_X4_131 : Cond.fieldLinkNest RX4 131 RX0 "says" "[I" "KnotArchive" ∈ k_ws := by decide +kernel
theorem nw_f_X4_143 : Cond.fieldLinkNest RX4 143 RX3 "trusts" "[I" "KnotArchive" ∈ k_ws := by decide +kernel
theorem nw_f_X4_151 : Cond.fieldLinkNest RX4 151 RX3 "numbers" "[[I" "KnotArchive" ∈ k_ws := by decide +kernel
theorem nw_f_X4_162 : Cond.fieldLinkNest RX4 162 RX2 "rows" "[[I" "KnotArchive" ∈ k_ws := by decide +kernel
theorem nw_f_X4_182 : Cond.fieldLinkNest RX4 182 RX0 "counted" "[I" "KnotArchive" ∈ k_ws := by decide +kernel
theorem nw_f_X4_202 : Cond.fieldLinkNest RX4 202 RX0 "strands" "[I" "KnotArchive" ∈ k_ws := by decide +kernel
theorem nw_f_X4_236 : Cond.fieldLinkNest RX4 236 RX0 "froms" "[I" "KnotArchive" ∈ k_ws := by decide +kernel
theorem nw_m_X0_32 : Cond.methodLinkNest RX0 32 yX1_digits "KnotArchive" ∈ k_ws := by decide +kernel
theorem nw_m_X4_66 : Cond.methodLinkNest RX4 66 yX0_hangingFrom "KnotArchive" ∈ k_ws := by decide +kernel
theorem nw_m_X4_72 : Cond.methodLinkNest RX4 72 yX0_add "KnotArchive" ∈ k_ws := by decide +kernel
theorem nw_m_X4_78 : Cond.methodLinkNest RX4 78 yX1_digits "KnotArchive" ∈ k_ws := by decide +kernel
theorem nw_m_X4_81 : Cond.methodLinkNest RX4 81 yX1_tieAll "KnotArchive" ∈ k_ws := by decide +kernel
theorem nw_m_X4_102 : Cond.methodLinkNest RX4 102 yX2_write "KnotArchive" ∈ k_ws := by decide +kernel
theorem nw_m_X4_106 : Cond.methodLinkNest RX4 106 yX1_allFrays "KnotArchive" ∈ k_ws := by decide +kernel
theorem nw_m_X4_109 : Cond.methodLinkNest RX4 109 yX1_clearFrays "KnotArchive" ∈ k_ws := by decide +kernel
theorem nw_m_X4_115 : Cond.methodLinkNest RX4 115 yX0_tell "KnotArchive" ∈ k_ws := by decide +kernel
theorem nw_m_X4_128 : Cond.methodLinkNest RX4 128 yX3_add "KnotArchive" ∈ k_ws := by decide +kernel
theorem nw_m_X4_135 : Cond.methodLinkNest RX4 135 yX3_keep "KnotArchive" ∈ k_ws := by decide +kernel
theorem nw_m_X4_139 : Cond.methodLinkNest RX4 139 yX3_memory "KnotArchive" ∈ k_ws := by decide +kernel
theorem nw_m_X4_146 : Cond.methodLinkNest RX4 146 yX3_mostTrusted "KnotArchive" ∈ k_ws := by decide +kernel
theorem nw_m_X4_154 : Cond.methodLinkNest RX4 154 yX3_judge "KnotArchive" ∈ k_ws := by decide +kernel
theorem nw_m_X4_168 : Cond.methodLinkNest RX4 168 yX1_fray "KnotArchive" ∈ k_ws := by decide +kernel
theorem nw_m_X4_175 : Cond.methodLinkNest RX4 175 yX1_copyFrom "KnotArchive" ∈ k_ws := by decide +kernel
theorem nw_m_X4_185 : Cond.methodLinkNest RX4 185 yX1_differences "KnotArchive" ∈ k_ws := by decide +kernel
theorem xb_161 : ∀ w ∈ (vx_atS RX4 161 "java/lang/IndexOutOfBoundsException" k_nms).filter (fun w => !goodWord w), w ∈ k_ws := by decide +kernel
theorem xo_161_157 : ∀ w ∈ Cond.classLink RX4 157 "java/lang/IndexOutOfBoundsException" :: Cond.initialized "java/lang/IndexOutOfBoundsException" :: vx_atS RX4 161 "java/lang/IndexOutOfBoundsException" k_nms, vx_ot w = true := by decide +kernel
theorem xb_55 : ∀ w ∈ (vx_atS RX4 55 "java/lang/IllegalArgumentException" k_nms).filter (fun w => !goodWord w), w ∈ k_ws := by decide +kernel
theorem xo_55_51 : ∀ w ∈ Cond.classLink RX4 51 "java/lang/IllegalArgumentException" :: Cond.initialized "java/lang/IllegalArgumentException" :: vx_atS RX4 55 "java/lang/IllegalArgumentException" k_nms, vx_ot w = true := by decide +kernel
theorem xb_65 : ∀ w ∈ (vx_atS RX4 65 "java/lang/IllegalStateException" k_nms).filter (fun w => !goodWord w), w ∈ k_ws := by decide +kernel
theorem xo_65_61 : ∀ w ∈ Cond.classLink RX4 61 "java/lang/IllegalStateException" :: Cond.initialized "java/lang/IllegalStateException" :: vx_atS RX4 65 "java/lang/IllegalStateException" k_nms, vx_ot w = true := by decide +kernel
