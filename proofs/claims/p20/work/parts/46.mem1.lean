-- THE LAW'S WORDS ARE THE TABLES'
theorem lm_1 : ∀ w ∈ wsL_law0_r1, w ∈ lw_tbl := by decide +kernel
theorem lm_2 : ∀ w ∈ wsL_law0_r2, w ∈ lw_tbl := by decide +kernel
theorem lm_3 : ∀ w ∈ wsL_law0_r3, w ∈ lw_tbl := by decide +kernel
theorem lm_4 : ∀ w ∈ wsL_law0_r4, w ∈ lw_tbl := by decide +kernel
theorem lm_5 : ∀ w ∈ wsL_law0_r5, w ∈ lw_tbl := by decide +kernel
theorem lm_6 : ∀ w ∈ wsL_law0_r6, w ∈ lw_tbl := by decide +kernel
theorem lm_7 : ∀ w ∈ wsL_law0_r7, w ∈ lw_tbl := by decide +kernel
theorem lm_8 : ∀ w ∈ wsL_law0_r8, w ∈ lw_tbl := by decide +kernel
theorem lm_9 : ∀ w ∈ wsL_law0_r9, w ∈ lw_tbl := by decide +kernel
theorem lm_10 : ∀ w ∈ wsL_law0_r10, w ∈ lw_tbl := by decide +kernel
theorem lm_11 : ∀ w ∈ wsL_law0_r11, w ∈ lw_tbl := by decide +kernel
theorem lm_12 : ∀ w ∈ wsL_law0_r12, w ∈ lw_tbl := by decide +kernel
theorem lm_13 : ∀ w ∈ wsL_law0_r13, w ∈ lw_tbl := by decide +kernel
theorem lm_X4 : ∀ w ∈ wsX40, w ∈ lw_tbl := by decide +kernel
theorem lm_X3 : ∀ w ∈ wsX30, w ∈ lw_tbl := by decide +kernel
theorem lm_X2 : ∀ w ∈ wsX20, w ∈ lw_tbl := by decide +kernel
theorem lm_X0 : ∀ w ∈ wsX00, w ∈ lw_tbl := by decide +kernel
theorem lm_0 : ∀ w ∈ wsL_law0, w ∈ lw_tbl := by
  unfold wsL_law0
  exact List.forall_mem_append.mpr ⟨List.forall_mem_append.mpr ⟨List.forall_mem_append.mpr ⟨List.forall_mem_append.mpr ⟨List.forall_mem_append.mpr ⟨List.forall_mem_append.mpr ⟨lm_1, List.forall_mem_append.mpr ⟨lm_2, List.forall_mem_append.mpr ⟨lm_3, List.forall_mem_append.mpr ⟨lm_4, List.forall_mem_append.mpr ⟨lm_5, List.forall_mem_append.mpr ⟨lm_6, List.forall_mem_append.mpr ⟨lm_7, List.forall_mem_append.mpr ⟨lm_8, List.forall_mem_append.mpr ⟨lm_9, List.forall_mem_append.mpr ⟨lm_10, List.forall_mem_append.mpr ⟨lm_11, List.forall_mem_append.mpr ⟨lm_12, lm_13⟩⟩⟩⟩⟩⟩⟩⟩⟩⟩⟩⟩, lm_X4⟩, lm_X3⟩, lm_X2⟩, lm_X0⟩, fun _ h => absurd h List.not_mem_nil⟩
theorem lm_a0 : ∀ w ∈ (vx_atS RX4 50 "java/lang/IllegalStateException" ["java/lang/RuntimeException", "java/lang/Exception"]).filter goodWord, w ∈ lw_tbl := by decide +kernel
theorem lm_a1 : ∀ w ∈ (vx_atS RX4 65 "java/lang/IllegalArgumentException" ["java/lang/RuntimeException", "java/lang/Exception"]).filter goodWord, w ∈ lw_tbl := by decide +kernel
theorem lm_a2 : ∀ w ∈ (vx_atS RX4 170 "java/lang/IndexOutOfBoundsException" ["java/lang/RuntimeException", "java/lang/Exception"]).filter goodWord, w ∈ lw_tbl := by decide +kernel
theorem lm_a3 : ∀ w ∈ (nx_at RX4 157).filter goodWord, w ∈ lw_tbl := by decide +kernel
theorem lm_law : ∀ w ∈ wsL_law, w ∈ lw_tbl := by
  unfold wsL_law
  exact List.forall_mem_append.mpr ⟨List.forall_mem_append.mpr ⟨List.forall_mem_append.mpr ⟨List.forall_mem_append.mpr ⟨lm_0, lm_a0⟩, lm_a1⟩, lm_a2⟩, lm_a3⟩
