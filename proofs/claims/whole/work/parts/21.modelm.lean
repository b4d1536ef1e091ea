set_option maxHeartbeats 4000000 in
set_option maxRecDepth 100000 in
/-- what is thrown -/
theorem c5_can (l : Launch) (D : va_G) (cI cZ cO cL : ClassId) (dt : Nat) (A : Nat → Prop) (b : Nat → Nat) (mC mR mL mF : Nat) (mpar mwt mstk mflw : Nat → Int32) (mc mp mm mf md : Nat → Nat) (mv mder mkn : Nat → Int32) (thr : Int32) (R : va_W) (x : Int32)  : Met l yX5_can wsX5_can ({ frames := 0, cells := 0, slots := 0, locals := 0 } : Room) (gP D cI cZ cO cL dt A [.ref (b 0), .int x] (fun H => va_P D vwCl (WM cI cZ b mC mR mL mF mpar mwt mstk mflw mc mp mm mf md mv mder mkn thr ++ R) H ∧ va_D A (WM cI cZ b mC mR mL mF mpar mwt mstk mflw mc mp mm mf md mv mder mkn thr ++ R))) (va_Qi (fun (r : Int32) (_ : Unit) => r = bI (x = 0)) (fun _ t => va_P D vwCl (WM cI cZ b mC mR mL mF mpar mwt mstk mflw mc mp mm mf md mv mder mkn x ++ R) t.heap ∧ va_D A (WM cI cZ b mC mR mL mF mpar mwt mstk mflw mc mp mm mf md mv mder mkn x ++ R)) A) 0 0 A := by
  refine Met.ofW (cc := cX5_can) (maxL := 2) (ret := (some .boolean)) (by decide) rfl ?_
  intro p9 e9 s m9 args below meth c9 s₁ B hml hv
  obtain ⟨rfl, hg, hP, hD⟩ := hv
  have hx := B.exec
  have hb := B.bytes
  have hr := B.returns
  have hts := atoms_spec (ws := wsX5_can) B.pre
  have hown : s.vm.findClass RX5 = some m9.cls := findClass_of_methodNamed B.named
  have hlocks := B.notSynchronized
  have hK := hg.1
  have hS : va_S A s.heap s.heap [] := va_S.rf
  have w_0 := hts (.fieldLink RX5 51 "DimfactsModel" "thrown" "I") (by decide +kernel)
  have win_X5 : ∀ w ∈ wsX50, w ∈ wsX5_can := by decide +kernel
  have hl := lv_entry ([.ref (b 0), .int x]) (n := 2) (Nat.le_of_ble_eq_true rfl)
  rw [lg_entry_eq]
  generalize (lg_sl ([.ref (b 0), .int x]) ++ List.replicate (2 - (lg_sl ([.ref (b 0), .int x])).length) Slot.unset).toArray = ls at hl ⊢
  have hl : lv_has ls 2 [(0, .ref (b 0)), (1, .int x)] := hl
  refine lv_aload_n hx hb dX5_can_0 rfl (lv_at hl 0 rfl) ?_
  refine lv_iload_n hx hb dX5_can_1 rfl (lv_at hl 1 rfl) ?_
  refine va_put (D := D) (ci := 4) (v := .int x) (ty := .int) (C := RX5) (T := TX5) (N := 17) hx hb hts win_X5 tyX5 tyX5_ok nmX5 hown hK hP hD hS (0) (rfl) rfl 16 (by decide) w_0 (fun _ h9 => h9) rfl (by decide +kernel) rfl rfl (Nat.le_of_ble_eq_true rfl) dX5_can_2 (fun H locs hP hD hS => ?_)
  have hP : va_P D vwCl (WM cI cZ b mC mR mL mF mpar mwt mstk mflw mc mp mm mf md mv mder mkn x ++ R) H := hP
  have hD : va_D A (WM cI cZ b mC mR mL mF mpar mwt mstk mflw mc mp mm mf md mv mder mkn x ++ R) := hD
  refine lv_iload_n hx hb dX5_can_5 rfl (lv_at hl 1 rfl) ?_
  refine lv_if_ne (tgt := 13) hx hb dX5_can_6 (by decide) (fun c_6 => ?_) (fun c_6 => ?_)
  · skip
    refine lv_iconst (v := 0) hx hb dX5_can_13 (by decide) ?_
    exact W.zret (v := 0) hx hb hr (rfl) (fun t ht hW => ⟨⟨0, (), rfl, (bI_f c_6), g_PD ht hP hD⟩, hS.F ht⟩) hS.2.2 dX5_can_14
  · skip
    refine lv_iconst (v := 1) hx hb dX5_can_9 (by decide) ?_
    refine lv_goto (tgt := 14) hx hb dX5_can_10 (by decide) ?_
    exact W.zret (v := 1) hx hb hr (rfl) (fun t ht hW => ⟨⟨1, (), rfl, (bI_t c_6), g_PD ht hP hD⟩, hS.F ht⟩) hS.2.2 dX5_can_14
set_option maxHeartbeats 4000000 in
set_option maxRecDepth 100000 in
/-- no more concepts -/
theorem c5_addConcept_1 (l : Launch) (D : va_G) (cI cZ cO cL : ClassId) (dt : Nat) (A : Nat → Prop) (b : Nat → Nat) (mC mR mL mF : Nat) (mpar mwt mstk mflw : Nat → Int32) (mc mp mm mf md : Nat → Nat) (mv mder mkn : Nat → Int32) (thr : Int32) (R : va_W)  (h12 : mC = 12) : Met l yX5_addConcept wsX5_addConcept ({ frames := 1, cells := 0, slots := 0, locals := 21 } : Room) (gP D cI cZ cO cL dt A [.ref (b 0)] (fun H => va_P D vwCl (WM cI cZ b mC mR mL mF mpar mwt mstk mflw mc mp mm mf md mv mder mkn thr ++ R) H ∧ va_D A (WM cI cZ b mC mR mL mF mpar mwt mstk mflw mc mp mm mf md mv mder mkn thr ++ R))) (va_Qi (fun (r : Int32) (_ : Unit) => r = 0) (fun _ t => va_P D vwCl (WM cI cZ b mC mR mL mF mpar mwt mstk mflw mc mp mm mf md mv mder mkn 1 ++ R) t.heap ∧ va_D A (WM cI cZ b mC mR mL mF mpar mwt mstk mflw mc mp mm mf md mv mder mkn 1 ++ R)) A) 0 0 A := by
  refine Met.ofW (cc := cX5_addConcept) (maxL := 1) (ret := (some .int)) (by decide) rfl ?_
  intro p9 e9 s m9 args below meth c9 s₁ B hml hv
  obtain ⟨rfl, hg, hP, hD⟩ := hv
  have hx := B.exec
  have hb := B.bytes
  have hr := B.returns
  have hts := atoms_spec (ws := wsX5_addConcept) B.pre
  have hown : s.vm.findClass RX5 = some m9.cls := findClass_of_methodNamed B.named
  have hlocks := B.notSynchronized
  have hK := hg.1
  have hS : va_S A s.heap s.heap [] := va_S.rf
  have w_0 := hts (.fieldLink RX5 54 "DimfactsModel" "concepts" "I") (by decide +kernel)
  have win_X5 : ∀ w ∈ wsX50, w ∈ wsX5_addConcept := by decide +kernel
  have hl := lv_entry ([.ref (b 0)]) (n := 1) (Nat.le_of_ble_eq_true rfl)
  rw [lg_entry_eq]
  generalize (lg_sl ([.ref (b 0)]) ++ List.replicate (1 - (lg_sl ([.ref (b 0)])).length) Slot.unset).toArray = ls at hl ⊢
  have hl : lv_has ls 1 [(0, .ref (b 0))] := hl
  refine lv_aload_n hx hb dX5_addConcept_0 rfl (lv_at hl 0 rfl) ?_
  refine lv_aload_n hx hb dX5_addConcept_1 rfl (lv_at hl 0 rfl) ?_
  refine va_get (D := D) (ci := 4) (v := .int (nI mC)) (C := RX5) (T := TX5) (N := 17) hx hb hts win_X5 hown hK hP (0) (rfl) rfl 0 (by decide) w_0 (fun _ h9 => h9) rfl dX5_addConcept_2 ?_
  refine lv_bipush (v := 12) hx hb dX5_addConcept_5 (by decide) ?_
  refine lv_icmp_ne (tgt := 14) hx hb dX5_addConcept_7 (by decide) (fun c_7 => ?_) (fun c_7 => ?_)
  · skip
    exact absurd (by rw [h12]; rfl) c_7
  · skip
    refine lv_iconst (v := 1) hx hb dX5_addConcept_10 (by decide) ?_
    refine lv_goto (tgt := 15) hx hb dX5_addConcept_11 (by decide) ?_
    refine va_calli (va_runV (As := [.int 1]) (rest := []) ⟨hx, hb, hml, hown, hts⟩ (c5_can l D cI cZ cO cL dt A b mC mR mL mF mpar mwt mstk mflw mc mp mm mf md mv mder mkn thr R 1) (cwV 1 hts gX5_addConcept_X5_can rfl rfl rfl (by decide +kernel) ⟨Nat.le_of_ble_eq_true rfl, Nat.le_of_ble_eq_true rfl⟩) (gP.v hg hP 4 rfl (0) (rfl) (⟨hP, hD⟩)) rfl rfl hl.1 rfl (lv_room (Nat.le_of_ble_eq_true rfl)) dX5_addConcept_15 ⟨Nat.le_of_ble_eq_true rfl, Nat.le_of_ble_eq_true rfl⟩) hS (fun q _ h => h) (fun q h => h) (fun r_1 ur_1 tr_1 H locs htr_1 hvmr_1 hwr_1 hB hzr_1 hkr_1 hS => ?_)
    rw [htr_1] at hB
    obtain ⟨hP, hD⟩ := hB
    obtain rfl : r_1 = bI (1 = 0) := hwr_1
    have hP : va_P D vwCl (WM cI cZ b mC mR mL mF mpar mwt mstk mflw mc mp mm mf md mv mder mkn 1 ++ R) H := hP
    have hD : va_D A (WM cI cZ b mC mR mL mF mpar mwt mstk mflw mc mp mm mf md mv mder mkn 1 ++ R) := hD
    refine lv_if_ne (tgt := 23) hx hb dX5_addConcept_18 (by decide) (fun c_18 => ?_) (fun c_18 => ?_)
    · skip
      have c_18 := bI_n c_18
      exact absurd c_18 (by decide)
    · skip
      have c_18 := bI_z c_18
      refine lv_iconst (v := 0) hx hb dX5_addConcept_21 (by decide) ?_
      exact W.iret (v := 0) hx hb hr (fun t ht hW => ⟨⟨0, (), rfl, rfl, g_PD ht hP hD⟩, hS.F ht⟩) hS.2.2 dX5_addConcept_22
set_option maxHeartbeats 4000000 in
set_option maxRecDepth 100000 in
/-- a concept more -/
theorem c5_addConcept_0 (l : Launch) (D : va_G) (cI cZ cO cL : ClassId) (dt : Nat) (A : Nat → Prop) (b : Nat → Nat) (mC mR mL mF : Nat) (mpar mwt mstk mflw : Nat → Int32) (mc mp mm mf md : Nat → Nat) (mv mder mkn : Nat → Int32) (thr : Int32) (R : va_W)  (h12 : mC < 12) : Met l yX5_addConcept wsX5_addConcept ({ frames := 1, cells := 0, slots := 0, locals := 21 } : Room) (gP D cI cZ cO cL dt A [.ref (b 0)] (fun H => va_P D vwCl (WM cI cZ b mC mR mL mF mpar mwt mstk mflw mc mp mm mf md mv mder mkn thr ++ R) H ∧ va_D A (WM cI cZ b mC mR mL mF mpar mwt mstk mflw mc mp mm mf md mv mder mkn thr ++ R))) (va_Qi (fun (r : Int32) (_ : Unit) => r = nI mC) (fun _ t => va_P D vwCl (WM cI cZ b (mC + 1) mR mL mF (upd mpar mC (-1)) mwt mstk mflw mc mp mm mf md mv mder mkn 0 ++ R) t.heap ∧ va_D A (WM cI cZ b (mC + 1) mR mL mF (upd mpar mC (-1)) mwt mstk mflw mc mp mm mf md mv mder mkn 0 ++ R)) A) 0 0 A := by
  refine Met.ofW (cc := cX5_addConcept) (maxL := 1) (ret := (some .int)) (by decide) rfl ?_
  intro p9 e9 s m9 args below meth c9 s₁ B hml hv
  obtain ⟨rfl, hg, hP, hD⟩ := hv
  have hx := B.exec
  have hb := B.bytes
  have hr := B.returns
  have hts := atoms_spec (ws := wsX5_addConcept) B.pre
  have hown : s.vm.findClass RX5 = some m9.cls := findClass_of_methodNamed B.named
  have hlocks := B.notSynchronized
  have hK := hg.1
  have hS : va_S A s.heap s.heap [] := va_S.rf
  have w_0 := hts (.fieldLink RX5 54 "DimfactsModel" "concepts" "I") (by decide +kernel)
  have win_X5 : ∀ w ∈ wsX50, w ∈ wsX5_addConcept := by decide +kernel
  have w_2 := hts (.fieldLink RX5 7 "DimfactsModel" "parent" "[I") (by decide +kernel)
  have hl := lv_entry ([.ref (b 0)]) (n := 1) (Nat.le_of_ble_eq_true rfl)
  rw [lg_entry_eq]
  generalize (lg_sl ([.ref (b 0)]) ++ List.replicate (1 - (lg_sl ([.ref (b 0)])).length) Slot.unset).toArray = ls at hl ⊢
  have hl : lv_has ls 1 [(0, .ref (b 0))] := hl
  refine lv_aload_n hx hb dX5_addConcept_0 rfl (lv_at hl 0 rfl) ?_
  refine lv_aload_n hx hb dX5_addConcept_1 rfl (lv_at hl 0 rfl) ?_
  refine va_get (D := D) (ci := 4) (v := .int (nI mC)) (C := RX5) (T := TX5) (N := 17) hx hb hts win_X5 hown hK hP (0) (rfl) rfl 0 (by decide) w_0 (fun _ h9 => h9) rfl dX5_addConcept_2 ?_
  refine lv_bipush (v := 12) hx hb dX5_addConcept_5 (by decide) ?_
  refine lv_icmp_ne (tgt := 14) hx hb dX5_addConcept_7 (by decide) (fun c_7 => ?_) (fun c_7 => ?_)
  · skip
    refine lv_iconst (v := 0) hx hb dX5_addConcept_14 (by decide) ?_
    refine va_calli (va_runV (As := [.int 0]) (rest := []) ⟨hx, hb, hml, hown, hts⟩ (c5_can l D cI cZ cO cL dt A b mC mR mL mF mpar mwt mstk mflw mc mp mm mf md mv mder mkn thr R 0) (cwV 1 hts gX5_addConcept_X5_can rfl rfl rfl (by decide +kernel) ⟨Nat.le_of_ble_eq_true rfl, Nat.le_of_ble_eq_true rfl⟩) (gP.v hg hP 4 rfl (0) (rfl) (⟨hP, hD⟩)) rfl rfl hl.1 rfl (lv_room (Nat.le_of_ble_eq_true rfl)) dX5_addConcept_15 ⟨Nat.le_of_ble_eq_true rfl, Nat.le_of_ble_eq_true rfl⟩) hS (fun q _ h => h) (fun q h => h) (fun r_1 ur_1 tr_1 H locs htr_1 hvmr_1 hwr_1 hB hzr_1 hkr_1 hS => ?_)
    rw [htr_1] at hB
    obtain ⟨hP, hD⟩ := hB
    obtain rfl : r_1 = bI (0 = 0) := hwr_1
    have hP : va_P D vwCl (WM cI cZ b mC mR mL mF mpar mwt mstk mflw mc mp mm mf md mv mder mkn 0 ++ R) H := hP
    have hD : va_D A (WM cI cZ b mC mR mL mF mpar mwt mstk mflw mc mp mm mf md mv mder mkn 0 ++ R) := hD
    refine lv_if_ne (tgt := 23) hx hb dX5_addConcept_18 (by decide) (fun c_18 => ?_) (fun c_18 => ?_)
    · skip
      have c_18 := bI_n c_18
      refine lv_aload_n hx hb dX5_addConcept_23 rfl (lv_at hl 0 rfl) ?_
      refine va_get (D := D) (ci := 4) (v := .ref (b 1)) (C := RX5) (T := TX5) (N := 17) hx hb hts win_X5 hown hK hP (0) (rfl) rfl 1 (by decide) w_2 (fun _ h9 => h9) rfl dX5_addConcept_24 ?_
      refine lv_aload_n hx hb dX5_addConcept_27 rfl (lv_at hl 0 rfl) ?_
      refine va_get (D := D) (ci := 4) (v := .int (nI mC)) (C := RX5) (T := TX5) (N := 17) hx hb hts win_X5 hown hK hP (0) (rfl) rfl 0 (by decide) w_0 (fun _ h9 => h9) rfl dX5_addConcept_28 ?_
      refine lv_iconst (v := (-1)) hx hb dX5_addConcept_31 (by decide) ?_
      refine g_iast hx hb hK hP hD hS (1) 0 (n := 12) (f := mpar) (rfl) rfl mC rfl (by omega) (by decide) dX5_addConcept_32 (WM cI cZ b mC mR mL mF (upd mpar mC (-1)) mwt mstk mflw mc mp mm mf md mv mder mkn 0 ++ R) rfl (fun H locs hP hD hS => ?_)
      refine lv_aload_n hx hb dX5_addConcept_33 rfl (lv_at hl 0 rfl) ?_
      refine lv_dup hx hb dX5_addConcept_34 rfl ?_
      refine va_get (D := D) (ci := 4) (v := .int (nI mC)) (C := RX5) (T := TX5) (N := 17) hx hb hts win_X5 hown hK hP (0) (rfl) rfl 0 (by decide) w_0 (fun _ h9 => h9) rfl dX5_addConcept_35 ?_
      refine lv_iconst (v := 1) hx hb dX5_addConcept_38 (by decide) ?_
      refine lv_iadd hx hb dX5_addConcept_39 ?_
      refine lv_topi (fun dv edv => ?_)
      obtain rfl : dv = nI (mC + 1) := by rw [edv]; exact nI_1 mC
      refine va_put (D := D) (ci := 4) (v := .int (nI (mC + 1))) (ty := .int) (C := RX5) (T := TX5) (N := 17) hx hb hts win_X5 tyX5 tyX5_ok nmX5 hown hK hP hD hS (0) (rfl) rfl 0 (by decide) w_0 (fun _ h9 => h9) rfl (by decide +kernel) rfl rfl (Nat.le_of_ble_eq_true rfl) dX5_addConcept_40 (fun H locs hP hD hS => ?_)
      have hP : va_P D vwCl (WM cI cZ b (mC + 1) mR mL mF (upd mpar mC (-1)) mwt mstk mflw mc mp mm mf md mv mder mkn 0 ++ R) H := hP
      have hD : va_D A (WM cI cZ b (mC + 1) mR mL mF (upd mpar mC (-1)) mwt mstk mflw mc mp mm mf md mv mder mkn 0 ++ R) := hD
      refine lv_aload_n hx hb dX5_addConcept_43 rfl (lv_at hl 0 rfl) ?_
      refine va_get (D := D) (ci := 4) (v := .int (nI (mC + 1))) (C := RX5) (T := TX5) (N := 17) hx hb hts win_X5 hown hK hP (0) (rfl) rfl 0 (by decide) w_0 (fun _ h9 => h9) rfl dX5_addConcept_44 ?_
      refine lv_iconst (v := 1) hx hb dX5_addConcept_47 (by decide) ?_
      refine lv_isub hx hb dX5_addConcept_48 ?_
      refine lv_topi (fun dv edv => ?_)
      obtain rfl : dv = nI mC := by rw [edv]; exact nI_pred mC
      exact W.iret (v := nI mC) hx hb hr (fun t ht hW => ⟨⟨nI mC, (), rfl, rfl, g_PD ht hP hD⟩, hS.F ht⟩) hS.2.2 dX5_addConcept_49
    · skip
      have c_18 := bI_z c_18
      exact absurd (by decide) c_18
  · skip
    exact absurd ((nI_eq (b := 12) (by omega) (by decide)).mp c_7) (by omega)
set_option maxHeartbeats 4000000 in
set_option maxRecDepth 100000 in
/-- no more filings -/
theorem c5_file_1 (l : Launch) (D : va_G) (cI cZ cO cL : ClassId) (dt : Nat) (A : Nat → Prop) (b : Nat → Nat) (mC mR mL mF : Nat) (mpar mwt mstk mflw : Nat → Int32) (mc mp mm mf md : Nat → Nat) (mv mder mkn : Nat → Int32) (thr : Int32) (R : va_W)  (h8 : mL + 1 = 8) : Met l yX5_file wsX5_file ({ frames := 1, cells := 0, slots := 0, locals := 21 } : Room) (gP D cI cZ cO cL dt A [.ref (b 0)] (fun H => va_P D vwCl (WM cI cZ b mC mR mL mF mpar mwt mstk mflw mc mp mm mf md mv mder mkn thr ++ R) H ∧ va_D A (WM cI cZ b mC mR mL mF mpar mwt mstk mflw mc mp mm mf md mv mder mkn thr ++ R))) (va_Qi (fun (r : Int32) (_ : Unit) => r = 0) (fun _ t => va_P D vwCl (WM cI cZ b mC mR mL mF mpar mwt mstk mflw mc mp mm mf md mv mder mkn 1 ++ R) t.heap ∧ va_D A (WM cI cZ b mC mR mL mF mpar mwt mstk mflw mc mp mm mf md mv mder mkn 1 ++ R)) A) 0 0 A := by
  refine Met.ofW (cc := cX5_file) (maxL := 1) (ret := (some .int)) (by decide) rfl ?_
  intro p9 e9 s m9 args below meth c9 s₁ B hml hv
  obtain ⟨rfl, hg, hP, hD⟩ := hv
  have hx := B.exec
  have hb := B.bytes
  have hr := B.returns
  have hts := atoms_spec (ws := wsX5_file) B.pre
  have hown : s.vm.findClass RX5 = some m9.cls := findClass_of_methodNamed B.named
  have hlocks := B.notSynchronized
  have hK := hg.1
  have hS : va_S A s.heap s.heap [] := va_S.rf
  have w_0 := hts (.fieldLink RX5 22 "DimfactsModel" "filings" "I") (by decide +kernel)
  have win_X5 : ∀ w ∈ wsX50, w ∈ wsX5_file := by decide +kernel
  have hl := lv_entry ([.ref (b 0)]) (n := 1) (Nat.le_of_ble_eq_true rfl)
  rw [lg_entry_eq]
  generalize (lg_sl ([.ref (b 0)]) ++ List.replicate (1 - (lg_sl ([.ref (b 0)])).length) Slot.unset).toArray = ls at hl ⊢
  have hl : lv_has ls 1 [(0, .ref (b 0))] := hl
  refine lv_aload_n hx hb dX5_file_0 rfl (lv_at hl 0 rfl) ?_
  refine lv_aload_n hx hb dX5_file_1 rfl (lv_at hl 0 rfl) ?_
  refine va_get (D := D) (ci := 4) (v := .int (nI (mL + 1))) (C := RX5) (T := TX5) (N := 17) hx hb hts win_X5 hown hK hP (0) (rfl) rfl 6 (by decide) w_0 (fun _ h9 => h9) rfl dX5_file_2 ?_
  refine lv_bipush (v := 8) hx hb dX5_file_5 (by decide) ?_
  refine lv_icmp_ne (tgt := 14) hx hb dX5_file_7 (by decide) (fun c_7 => ?_) (fun c_7 => ?_)
  · skip
    exact absurd (by rw [h8]; rfl) c_7
  · skip
    refine lv_iconst (v := 1) hx hb dX5_file_10 (by decide) ?_
    refine lv_goto (tgt := 15) hx hb dX5_file_11 (by decide) ?_
    refine va_calli (va_runV (As := [.int 1]) (rest := []) ⟨hx, hb, hml, hown, hts⟩ (c5_can l D cI cZ cO cL dt A b mC mR mL mF mpar mwt mstk mflw mc mp mm mf md mv mder mkn thr R 1) (cwV 1 hts gX5_file_X5_can rfl rfl rfl (by decide +kernel) ⟨Nat.le_of_ble_eq_true rfl, Nat.le_of_ble_eq_true rfl⟩) (gP.v hg hP 4 rfl (0) (rfl) (⟨hP, hD⟩)) rfl rfl hl.1 rfl (lv_room (Nat.le_of_ble_eq_true rfl)) dX5_file_15 ⟨Nat.le_of_ble_eq_true rfl, Nat.le_of_ble_eq_true rfl⟩) hS (fun q _ h => h) (fun q h => h) (fun r_1 ur_1 tr_1 H locs htr_1 hvmr_1 hwr_1 hB hzr_1 hkr_1 hS => ?_)
    rw [htr_1] at hB
    obtain ⟨hP, hD⟩ := hB
    obtain rfl : r_1 = bI (1 = 0) := hwr_1
    have hP : va_P D vwCl (WM cI cZ b mC mR mL mF mpar mwt mstk mflw mc mp mm mf md mv mder mkn 1 ++ R) H := hP
    have hD : va_D A (WM cI cZ b mC mR mL mF mpar mwt mstk mflw mc mp mm mf md mv mder mkn 1 ++ R) := hD
    refine lv_if_ne (tgt := 23) hx hb dX5_file_18 (by decide) (fun c_18 => ?_) (fun c_18 => ?_)
    · skip
      have c_18 := bI_n c_18
      exact absurd c_18 (by decide)
    · skip
      have c_18 := bI_z c_18
      refine lv_iconst (v := 0) hx hb dX5_file_21 (by decide) ?_
      exact W.iret (v := 0) hx hb hr (fun t ht hW => ⟨⟨0, (), rfl, rfl, g_PD ht hP hD⟩, hS.F ht⟩) hS.2.2 dX5_file_22
set_option maxHeartbeats 4000000 in
set_option maxRecDepth 100000 in
/-- a filing more -/
theorem c5_file_0 (l : Launch) (D : va_G) (cI cZ cO cL : ClassId) (dt : Nat) (A : Nat → Prop) (b : Nat → Nat) (mC mR mL mF : Nat) (mpar mwt mstk mflw : Nat → Int32) (mc mp mm mf md : Nat → Nat) (mv mder mkn : Nat → Int32) (thr : Int32) (R : va_W)  (h8 : mL < 7) : Met l yX5_file wsX5_file ({ frames := 1, cells := 0, slots := 0, locals := 21 } : Room) (gP D cI cZ cO cL dt A [.ref (b 0)] (fun H => va_P D vwCl (WM cI cZ b mC mR mL mF mpar mwt mstk mflw mc mp mm mf md mv mder mkn thr ++ R) H ∧ va_D A (WM cI cZ b mC mR mL mF mpar mwt mstk mflw mc mp mm mf md mv mder mkn thr ++ R))) (va_Qi (fun (r : Int32) (_ : Unit) => r = nI (mL + 1)) (fun _ t => va_P D vwCl (WM cI cZ b mC mR (mL + 1) mF mpar mwt mstk mflw mc mp mm mf md mv mder mkn 0 ++ R) t.heap ∧ va_D A (WM cI cZ b mC mR (mL + 1) mF mpar mwt mstk mflw mc mp mm mf md mv mder mkn 0 ++ R)) A) 0 0 A := by
  refine Met.ofW (cc := cX5_file) (maxL := 1) (ret := (some .int)) (by decide) rfl ?_
  intro p9 e9 s m9 args below meth c9 s₁ B hml hv
  obtain ⟨rfl, hg, hP, hD⟩ := hv
  have hx := B.exec
  have hb := B.bytes
  have hr := B.returns
  have hts := atoms_spec (ws := wsX5_file) B.pre
  have hown : s.vm.findClass RX5 = some m9.cls := findClass_of_methodNamed B.named
  have hlocks := B.notSynchronized
  have hK := hg.1
  have hS : va_S A s.heap s.heap [] := va_S.rf
  have w_0 := hts (.fieldLink RX5 22 "DimfactsModel" "filings" "I") (by decide +kernel)
  have win_X5 : ∀ w ∈ wsX50, w ∈ wsX5_file := by decide +kernel
  have hl := lv_entry ([.ref (b 0)]) (n := 1) (Nat.le_of_ble_eq_true rfl)
  rw [lg_entry_eq]
  generalize (lg_sl ([.ref (b 0)]) ++ List.replicate (1 - (lg_sl ([.ref (b 0)])).length) Slot.unset).toArray = ls at hl ⊢
  have hl : lv_has ls 1 [(0, .ref (b 0))] := hl
  refine lv_aload_n hx hb dX5_file_0 rfl (lv_at hl 0 rfl) ?_
  refine lv_aload_n hx hb dX5_file_1 rfl (lv_at hl 0 rfl) ?_
  refine va_get (D := D) (ci := 4) (v := .int (nI (mL + 1))) (C := RX5) (T := TX5) (N := 17) hx hb hts win_X5 hown hK hP (0) (rfl) rfl 6 (by decide) w_0 (fun _ h9 => h9) rfl dX5_file_2 ?_
  refine lv_bipush (v := 8) hx hb dX5_file_5 (by decide) ?_
  refine lv_icmp_ne (tgt := 14) hx hb dX5_file_7 (by decide) (fun c_7 => ?_) (fun c_7 => ?_)
  · skip
    refine lv_iconst (v := 0) hx hb dX5_file_14 (by decide) ?_
    refine va_calli (va_runV (As := [.int 0]) (rest := []) ⟨hx, hb, hml, hown, hts⟩ (c5_can l D cI cZ cO cL dt A b mC mR mL mF mpar mwt mstk mflw mc mp mm mf md mv mder mkn thr R 0) (cwV 1 hts gX5_file_X5_can rfl rfl rfl (by decide +kernel) ⟨Nat.le_of_ble_eq_true rfl, Nat.le_of_ble_eq_true rfl⟩) (gP.v hg hP 4 rfl (0) (rfl) (⟨hP, hD⟩)) rfl rfl hl.1 rfl (lv_room (Nat.le_of_ble_eq_true rfl)) dX5_file_15 ⟨Nat.le_of_ble_eq_true rfl, Nat.le_of_ble_eq_true rfl⟩) hS (fun q _ h => h) (fun q h => h) (fun r_1 ur_1 tr_1 H locs htr_1 hvmr_1 hwr_1 hB hzr_1 hkr_1 hS => ?_)
    rw [htr_1] at hB
    obtain ⟨hP, hD⟩ := hB
    obtain rfl : r_1 = bI (0 = 0) := hwr_1
    have hP : va_P D vwCl (WM cI cZ b mC mR mL mF mpar mwt mstk mflw mc mp mm mf md mv mder mkn 0 ++ R) H := hP
    have hD : va_D A (WM cI cZ b mC mR mL mF mpar mwt mstk mflw mc mp mm mf md mv mder mkn 0 ++ R) := hD
    refine lv_if_ne (tgt := 23) hx hb dX5_file_18 (by decide) (fun c_18 => ?_) (fun c_18 => ?_)
    · skip
      have c_18 := bI_n c_18
      refine lv_aload_n hx hb dX5_file_23 rfl (lv_at hl 0 rfl) ?_
      refine lv_dup hx hb dX5_file_24 rfl ?_
      refine va_get (D := D) (ci := 4) (v := .int (nI (mL + 1))) (C := RX5) (T := TX5) (N := 17) hx hb hts win_X5 hown hK hP (0) (rfl) rfl 6 (by decide) w_0 (fun _ h9 => h9) rfl dX5_file_25 ?_
      refine lv_iconst (v := 1) hx hb dX5_file_28 (by decide) ?_
      refine lv_iadd hx hb dX5_file_29 ?_
      refine lv_topi (fun dv edv => ?_)
      obtain rfl : dv = nI ((mL + 1) + 1) := by rw [edv]; exact nI_1 (mL + 1)
      refine va_put (D := D) (ci := 4) (v := .int (nI ((mL + 1) + 1))) (ty := .int) (C := RX5) (T := TX5) (N := 17) hx hb hts win_X5 tyX5 tyX5_ok nmX5 hown hK hP hD hS (0) (rfl) rfl 6 (by decide) w_0 (fun _ h9 => h9) rfl (by decide +kernel) rfl rfl (Nat.le_of_ble_eq_true rfl) dX5_file_30 (fun H locs hP hD hS => ?_)
      have hP : va_P D vwCl (WM cI cZ b mC mR (mL + 1) mF mpar mwt mstk mflw mc mp mm mf md mv mder mkn 0 ++ R) H := hP
      have hD : va_D A (WM cI cZ b mC mR (mL + 1) mF mpar mwt mstk mflw mc mp mm mf md mv mder mkn 0 ++ R) := hD
      refine lv_aload_n hx hb dX5_file_33 rfl (lv_at hl 0 rfl) ?_
      refine va_get (D := D) (ci := 4) (v := .int (nI ((mL + 1) + 1))) (C := RX5) (T := TX5) (N := 17) hx hb hts win_X5 hown hK hP (0) (rfl) rfl 6 (by decide) w_0 (fun _ h9 => h9) rfl dX5_file_34 ?_
      refine lv_iconst (v := 1) hx hb dX5_file_37 (by decide) ?_
      refine lv_isub hx hb dX5_file_38 ?_
      refine lv_topi (fun dv edv => ?_)
      obtain rfl : dv = nI (mL + 1) := by rw [edv]; exact nI_pred (mL + 1)
      exact W.iret (v := nI (mL + 1)) hx hb hr (fun t ht hW => ⟨⟨nI (mL + 1), (), rfl, rfl, g_PD ht hP hD⟩, hS.F ht⟩) hS.2.2 dX5_file_39
    · skip
      have c_18 := bI_z c_18
      exact absurd (by decide) c_18
  · skip
    exact absurd ((nI_eq (b := 8) (by omega) (by decide)).mp c_7) (by omega)
set_option maxHeartbeats 4000000 in
set_option maxRecDepth 100000 in
/-- no such concept -/
theorem c5_unhang_1 (l : Launch) (D : va_G) (cI cZ cO cL : ClassId) (dt : Nat) (A : Nat → Prop) (b : Nat → Nat) (mC mR mL mF : Nat) (mpar mwt mstk mflw : Nat → Int32) (mc mp mm mf md : Nat → Nat) (mv mder mkn : Nat → Int32) (thr : Int32) (R : va_W) (ci : Int32) (hno : ¬ (0 ≤ ci ∧ ci ≤ nI mC - 1)) : Met l yX5_unhang wsX5_unhang ({ frames := 2, cells := 0, slots := 0, locals := 43 } : Room) (gP D cI cZ cO cL dt A [.ref (b 0), .int ci] (fun H => va_P D vwCl (WM cI cZ b mC mR mL mF mpar mwt mstk mflw mc mp mm mf md mv mder mkn thr ++ R) H ∧ va_D A (WM cI cZ b mC mR mL mF mpar mwt mstk mflw mc mp mm mf md mv mder mkn thr ++ R))) (va_Qi (fun (r : Int32) (_ : Unit) => r = 0) (fun _ t => va_P D vwCl (WM cI cZ b mC mR mL mF mpar mwt mstk mflw mc mp mm mf md mv mder mkn 1 ++ R) t.heap ∧ va_D A (WM cI cZ b mC mR mL mF mpar mwt mstk mflw mc mp mm mf md mv mder mkn 1 ++ R)) A) 0 0 A := by
  refine Met.ofW (cc := cX5_unhang) (maxL := 3) (ret := (some .int)) (by decide) rfl ?_
  intro p9 e9 s m9 args below meth c9 s₁ B hml hv
  obtain ⟨rfl, hg, hP, hD⟩ := hv
  have hx := B.exec
  have hb := B.bytes
  have hr := B.returns
  have hts := atoms_spec (ws := wsX5_unhang) B.pre
  have hown : s.vm.findClass RX5 = some m9.cls := findClass_of_methodNamed B.named
  have hlocks := B.notSynchronized
  have hK := hg.1
  have hS : va_S A s.heap s.heap [] := va_S.rf
  have hl := lv_entry ([.ref (b 0), .int ci]) (n := 3) (Nat.le_of_ble_eq_true rfl)
  rw [lg_entry_eq]
  generalize (lg_sl ([.ref (b 0), .int ci]) ++ List.replicate (3 - (lg_sl ([.ref (b 0), .int ci])).length) Slot.unset).toArray = ls at hl ⊢
  have hl : lv_has ls 3 [(0, .ref (b 0)), (1, .int ci)] := hl
  refine lv_aload_n hx hb dX5_unhang_0 rfl (lv_at hl 0 rfl) ?_
  refine lv_aload_n hx hb dX5_unhang_1 rfl (lv_at hl 0 rfl) ?_
  refine lv_iload_n hx hb dX5_unhang_2 rfl (lv_at hl 1 rfl) ?_
  refine g_csi (va_runV (As := [.int ci]) (rest := [.ref (b 0)]) ⟨hx, hb, hml, hown, hts⟩ (c5_isConcept l D cI cZ cO cL dt A b mC mR mL mF mpar mwt mstk mflw mc mp mm mf md mv mder mkn thr R ci) (cwV 1 hts gX5_unhang_X5_isConcept rfl rfl rfl (by decide +kernel) ⟨Nat.le_of_ble_eq_true rfl, Nat.le_of_ble_eq_true rfl⟩) (gP.v hg hP 4 rfl (0) (rfl) hP) rfl rfl hl.1 rfl (lv_room (Nat.le_of_ble_eq_true rfl)) dX5_unhang_3 ⟨Nat.le_of_ble_eq_true rfl, Nat.le_of_ble_eq_true rfl⟩) (fun r_1 hr_1 => ?_)
  obtain rfl : r_1 = bI (0 ≤ ci ∧ ci ≤ nI mC - 1) := hr_1
  refine lv_if_eq (tgt := 13) hx hb dX5_unhang_6 (by decide) (fun c_6 => ?_) (fun c_6 => ?_)
  · skip
    have c_6 := bI_z c_6
    refine lv_iconst (v := 1) hx hb dX5_unhang_13 (by decide) ?_
    refine va_calli (va_runV (As := [.int 1]) (rest := []) ⟨hx, hb, hml, hown, hts⟩ (c5_can l D cI cZ cO cL dt A b mC mR mL mF mpar mwt mstk mflw mc mp mm mf md mv mder mkn thr R 1) (cwV 1 hts gX5_unhang_X5_can rfl rfl rfl (by decide +kernel) ⟨Nat.le_of_ble_eq_true rfl, Nat.le_of_ble_eq_true rfl⟩) (gP.v hg hP 4 rfl (0) (rfl) (⟨hP, hD⟩)) rfl rfl hl.1 rfl (lv_room (Nat.le_of_ble_eq_true rfl)) dX5_unhang_14 ⟨Nat.le_of_ble_eq_true rfl, Nat.le_of_ble_eq_true rfl⟩) hS (fun q _ h => h) (fun q h => h) (fun r_2 ur_2 tr_2 H locs htr_2 hvmr_2 hwr_2 hB hzr_2 hkr_2 hS => ?_)
    rw [htr_2] at hB
    obtain ⟨hP, hD⟩ := hB
    obtain rfl : r_2 = bI (1 = 0) := hwr_2
    have hP : va_P D vwCl (WM cI cZ b mC mR mL mF mpar mwt mstk mflw mc mp mm mf md mv mder mkn 1 ++ R) H := hP
    have hD : va_D A (WM cI cZ b mC mR mL mF mpar mwt mstk mflw mc mp mm mf md mv mder mkn 1 ++ R) := hD
    refine lv_if_ne (tgt := 22) hx hb dX5_unhang_17 (by decide) (fun c_17 => ?_) (fun c_17 => ?_)
    · skip
      have c_17 := bI_n c_17
      exact absurd c_17 (by decide)
    · skip
      have c_17 := bI_z c_17
      refine lv_iconst (v := 0) hx hb dX5_unhang_20 (by decide) ?_
      exact W.iret (v := 0) hx hb hr (fun t ht hW => ⟨⟨0, (), rfl, rfl, g_PD ht hP hD⟩, hS.F ht⟩) hS.2.2 dX5_unhang_21
  · skip
    have c_6 := bI_n c_6
    exact absurd c_6 hno
set_option maxHeartbeats 4000000 in
set_option maxRecDepth 100000 in
/-- under none -/
theorem c5_unhang_0 (l : Launch) (D : va_G) (cI cZ cO cL : ClassId) (dt : Nat) (A : Nat → Prop) (b : Nat → Nat) (mC mR mL mF : Nat) (mpar mwt mstk mflw : Nat → Int32) (mc mp mm mf md : Nat → Nat) (mv mder mkn : Nat → Int32) (thr : Int32) (R : va_W) (c : Nat) (hc : c < 12) (hyes : 0 ≤ (nI c) ∧ (nI c) ≤ nI mC - 1) : Met l yX5_unhang wsX5_unhang ({ frames := 2, cells := 0, slots := 0, locals := 43 } : Room) (gP D cI cZ cO cL dt A [.ref (b 0), .int (nI c)] (fun H => va_P D vwCl (WM cI cZ b mC mR mL mF mpar mwt mstk mflw mc mp mm mf md mv mder mkn thr ++ R) H ∧ va_D A (WM cI cZ b mC mR mL mF mpar mwt mstk mflw mc mp mm mf md mv mder mkn thr ++ R))) (va_Qi (fun (r : Int32) (_ : Unit) => r = mpar c) (fun _ t => va_P D vwCl (WM cI cZ b mC mR mL mF (upd mpar c (-1)) mwt mstk mflw mc mp mm mf md mv mder mkn 0 ++ R) t.heap ∧ va_D A (WM cI cZ b mC mR mL mF (upd mpar c (-1)) mwt mstk mflw mc mp mm mf md mv mder mkn 0 ++ R)) A) 0 0 A := by
  refine Met.ofW (cc := cX5_unhang) (maxL := 3) (ret := (some .int)) (by decide) rfl ?_
  intro p9 e9 s m9 args below meth c9 s₁ B hml hv
  obtain ⟨rfl, hg, hP, hD⟩ := hv
  have hx := B.exec
  have hb := B.bytes
  have hr := B.returns
  have hts := atoms_spec (ws := wsX5_unhang) B.pre
  have hown : s.vm.findClass RX5 = some m9.cls := findClass_of_methodNamed B.named
  have hlocks := B.notSynchronized
  have hK := hg.1
  have hS : va_S A s.heap s.heap [] := va_S.rf
  have w_0 := hts (.fieldLink RX5 7 "DimfactsModel" "parent" "[I") (by decide +kernel)
  have win_X5 : ∀ w ∈ wsX50, w ∈ wsX5_unhang := by decide +kernel
  have hl := lv_entry ([.ref (b 0), .int (nI c)]) (n := 3) (Nat.le_of_ble_eq_true rfl)
  rw [lg_entry_eq]
  generalize (lg_sl ([.ref (b 0), .int (nI c)]) ++ List.replicate (3 - (lg_sl ([.ref (b 0), .int (nI c)])).length) Slot.unset).toArray = ls at hl ⊢
  have hl : lv_has ls 3 [(0, .ref (b 0)), (1, .int (nI c))] := hl
  refine lv_aload_n hx hb dX5_unhang_0 rfl (lv_at hl 0 rfl) ?_
  refine lv_aload_n hx hb dX5_unhang_1 rfl (lv_at hl 0 rfl) ?_
  refine lv_iload_n hx hb dX5_unhang_2 rfl (lv_at hl 1 rfl) ?_
  refine g_csi (va_runV (As := [.int (nI c)]) (rest := [.ref (b 0)]) ⟨hx, hb, hml, hown, hts⟩ (c5_isConcept l D cI cZ cO cL dt A b mC mR mL mF mpar mwt mstk mflw mc mp mm mf md mv mder mkn thr R (nI c)) (cwV 1 hts gX5_unhang_X5_isConcept rfl rfl rfl (by decide +kernel) ⟨Nat.le_of_ble_eq_true rfl, Nat.le_of_ble_eq_true rfl⟩) (gP.v hg hP 4 rfl (0) (rfl) hP) rfl rfl hl.1 rfl (lv_room (Nat.le_of_ble_eq_true rfl)) dX5_unhang_3 ⟨Nat.le_of_ble_eq_true rfl, Nat.le_of_ble_eq_true rfl⟩) (fun r_1 hr_1 => ?_)
  obtain rfl : r_1 = bI (0 ≤ (nI c) ∧ (nI c) ≤ nI mC - 1) := hr_1
  refine lv_if_eq (tgt := 13) hx hb dX5_unhang_6 (by decide) (fun c_6 => ?_) (fun c_6 => ?_)
  · skip
    have c_6 := bI_z c_6
    exact absurd hyes c_6
  · skip
    have c_6 := bI_n c_6
    refine lv_iconst (v := 0) hx hb dX5_unhang_9 (by decide) ?_
    refine lv_goto (tgt := 14) hx hb dX5_unhang_10 (by decide) ?_
    refine va_calli (va_runV (As := [.int 0]) (rest := []) ⟨hx, hb, hml, hown, hts⟩ (c5_can l D cI cZ cO cL dt A b mC mR mL mF mpar mwt mstk mflw mc mp mm mf md mv mder mkn thr R 0) (cwV 1 hts gX5_unhang_X5_can rfl rfl rfl (by decide +kernel) ⟨Nat.le_of_ble_eq_true rfl, Nat.le_of_ble_eq_true rfl⟩) (gP.v hg hP 4 rfl (0) (rfl) (⟨hP, hD⟩)) rfl rfl hl.1 rfl (lv_room (Nat.le_of_ble_eq_true rfl)) dX5_unhang_14 ⟨Nat.le_of_ble_eq_true rfl, Nat.le_of_ble_eq_true rfl⟩) hS (fun q _ h => h) (fun q h => h) (fun r_2 ur_2 tr_2 H locs htr_2 hvmr_2 hwr_2 hB hzr_2 hkr_2 hS => ?_)
    rw [htr_2] at hB
    obtain ⟨hP, hD⟩ := hB
    obtain rfl : r_2 = bI (0 = 0) := hwr_2
    have hP : va_P D vwCl (WM cI cZ b mC mR mL mF mpar mwt mstk mflw mc mp mm mf md mv mder mkn 0 ++ R) H := hP
    have hD : va_D A (WM cI cZ b mC mR mL mF mpar mwt mstk mflw mc mp mm mf md mv mder mkn 0 ++ R) := hD
    refine lv_if_ne (tgt := 22) hx hb dX5_unhang_17 (by decide) (fun c_17 => ?_) (fun c_17 => ?_)
    · skip
      have c_17 := bI_n c_17
      refine lv_aload_n hx hb dX5_unhang_22 rfl (lv_at hl 0 rfl) ?_
      refine va_get (D := D) (ci := 4) (v := .ref (b 1)) (C := RX5) (T := TX5) (N := 17) hx hb hts win_X5 hown hK hP (0) (rfl) rfl 1 (by decide) w_0 (fun _ h9 => h9) rfl dX5_unhang_23 ?_
      refine lv_iload_n hx hb dX5_unhang_26 rfl (lv_at hl 1 rfl) ?_
      refine g_iald hx hb hK hP (1) 0 (n := 12) (f := mpar) (rfl) rfl c rfl (by omega) (by decide) dX5_unhang_27 ?_
      refine lv_istore_n (lv' := [(2, .int (mpar c)), (0, .ref (b 0)), (1, .int (nI c))]) hx hb dX5_unhang_28 rfl hl (by decide) rfl (fun ls hl => ?_)
      refine lv_aload_n hx hb dX5_unhang_29 rfl (lv_at hl 1 rfl) ?_
      refine va_get (D := D) (ci := 4) (v := .ref (b 1)) (C := RX5) (T := TX5) (N := 17) hx hb hts win_X5 hown hK hP (0) (rfl) rfl 1 (by decide) w_0 (fun _ h9 => h9) rfl dX5_unhang_30 ?_
      refine lv_iload_n hx hb dX5_unhang_33 rfl (lv_at hl 2 rfl) ?_
      refine lv_iconst (v := (-1)) hx hb dX5_unhang_34 (by decide) ?_
      refine g_iast hx hb hK hP hD hS (1) 0 (n := 12) (f := mpar) (rfl) rfl c rfl (by omega) (by decide) dX5_unhang_35 (WM cI cZ b mC mR mL mF (upd mpar c (-1)) mwt mstk mflw mc mp mm mf md mv mder mkn 0 ++ R) rfl (fun H locs hP hD hS => ?_)
      refine lv_iload_n hx hb dX5_unhang_36 rfl (lv_at hl 0 rfl) ?_
      exact W.iret (v := mpar c) hx hb hr (fun t ht hW => ⟨⟨mpar c, (), rfl, rfl, g_PD ht hP hD⟩, hS.F ht⟩) hS.2.2 dX5_unhang_37
    · skip
      have c_17 := bI_z c_17
      exact absurd (by decide) c_17
set_option maxHeartbeats 4000000 in
set_option maxRecDepth 100000 in
/-- no such concept -/
theorem c5_addRoll_1a (l : Launch) (D : va_G) (cI cZ cO cL : ClassId) (dt : Nat) (A : Nat → Prop) (b : Nat → Nat) (mC mR mL mF : Nat) (mpar mwt mstk mflw : Nat → Int32) (mc mp mm mf md : Nat → Nat) (mv mder mkn : Nat → Int32) (thr : Int32) (R : va_W) (si fi : Int32) (hno : ¬ (0 ≤ si ∧ si ≤ nI mC - 1)) : Met l yX5_addRoll wsX5_addRoll ({ frames := 2, cells := 0, slots := 0, locals := 43 } : Room) (gP D cI cZ cO cL dt A [.ref (b 0), .int si, .int fi] (fun H => va_P D vwCl (WM cI cZ b mC mR mL mF mpar mwt mstk mflw mc mp mm mf md mv mder mkn thr ++ R) H ∧ va_D A (WM cI cZ b mC mR mL mF mpar mwt mstk mflw mc mp mm mf md mv mder mkn thr ++ R))) (va_Qi (fun (r : Int32) (_ : Unit) => r = 0) (fun _ t => va_P D vwCl (WM cI cZ b mC mR mL mF mpar mwt mstk mflw mc mp mm mf md mv mder mkn 1 ++ R) t.heap ∧ va_D A (WM cI cZ b mC mR mL mF mpar mwt mstk mflw mc mp mm mf md mv mder mkn 1 ++ R)) A) 0 0 A := by
  refine Met.ofW (cc := cX5_addRoll) (maxL := 4) (ret := (some .int)) (by decide) rfl ?_
  intro p9 e9 s m9 args below meth c9 s₁ B hml hv
  obtain ⟨rfl, hg, hP, hD⟩ := hv
  have hx := B.exec
  have hb := B.bytes
  have hr := B.returns
  have hts := atoms_spec (ws := wsX5_addRoll) B.pre
  have hown : s.vm.findClass RX5 = some m9.cls := findClass_of_methodNamed B.named
  have hlocks := B.notSynchronized
  have hK := hg.1
  have hS : va_S A s.heap s.heap [] := va_S.rf
  have hl := lv_entry ([.ref (b 0), .int si, .int fi]) (n := 4) (Nat.le_of_ble_eq_true rfl)
  rw [lg_entry_eq]
  generalize (lg_sl ([.ref (b 0), .int si, .int fi]) ++ List.replicate (4 - (lg_sl ([.ref (b 0), .int si, .int fi])).length) Slot.unset).toArray = ls at hl ⊢
  have hl : lv_has ls 4 [(0, .ref (b 0)), (1, .int si), (2, .int fi)] := hl
  refine lv_aload_n hx hb dX5_addRoll_0 rfl (lv_at hl 0 rfl) ?_
  refine lv_iload_n hx hb dX5_addRoll_1 rfl (lv_at hl 1 rfl) ?_
  refine g_csi (va_runV (As := [.int si]) (rest := []) ⟨hx, hb, hml, hown, hts⟩ (c5_isConcept l D cI cZ cO cL dt A b mC mR mL mF mpar mwt mstk mflw mc mp mm mf md mv mder mkn thr R si) (cwV 1 hts gX5_addRoll_X5_isConcept rfl rfl rfl (by decide +kernel) ⟨Nat.le_of_ble_eq_true rfl, Nat.le_of_ble_eq_true rfl⟩) (gP.v hg hP 4 rfl (0) (rfl) hP) rfl rfl hl.1 rfl (lv_room (Nat.le_of_ble_eq_true rfl)) dX5_addRoll_2 ⟨Nat.le_of_ble_eq_true rfl, Nat.le_of_ble_eq_true rfl⟩) (fun r_1 hr_1 => ?_)
  obtain rfl : r_1 = bI (0 ≤ si ∧ si ≤ nI mC - 1) := hr_1
  refine lv_if_eq (tgt := 20) hx hb dX5_addRoll_5 (by decide) (fun c_5 => ?_) (fun c_5 => ?_)
  · skip
    have c_5 := bI_z c_5
    refine lv_iconst (v := 0) hx hb dX5_addRoll_20 (by decide) ?_
    refine lv_istore_n (lv' := [(3, .int 0), (0, .ref (b 0)), (1, .int si), (2, .int fi)]) hx hb dX5_addRoll_21 rfl hl (by decide) rfl (fun ls hl => ?_)
    refine lv_aload_n hx hb dX5_addRoll_22 rfl (lv_at hl 1 rfl) ?_
    refine lv_iload_n hx hb dX5_addRoll_23 rfl (lv_at hl 0 rfl) ?_
    refine lv_if_ne (tgt := 31) hx hb dX5_addRoll_24 (by decide) (fun c_24 => ?_) (fun c_24 => ?_)
    · skip
      exact absurd c_24 (by decide)
    · skip
      refine lv_iconst (v := 1) hx hb dX5_addRoll_27 (by decide) ?_
      refine lv_goto (tgt := 53) hx hb dX5_addRoll_28 (by decide) ?_
      refine va_calli (va_runV (As := [.int 1]) (rest := []) ⟨hx, hb, hml, hown, hts⟩ (c5_can l D cI cZ cO cL dt A b mC mR mL mF mpar mwt mstk mflw mc mp mm mf md mv mder mkn thr R 1) (cwV 1 hts gX5_addRoll_X5_can rfl rfl rfl (by decide +kernel) ⟨Nat.le_of_ble_eq_true rfl, Nat.le_of_ble_eq_true rfl⟩) (gP.v hg hP 4 rfl (0) (rfl) (⟨hP, hD⟩)) rfl rfl hl.1 rfl (lv_room (Nat.le_of_ble_eq_true rfl)) dX5_addRoll_53 ⟨Nat.le_of_ble_eq_true rfl, Nat.le_of_ble_eq_true rfl⟩) hS (fun q _ h => h) (fun q h => h) (fun r_2 ur_2 tr_2 H locs htr_2 hvmr_2 hwr_2 hB hzr_2 hkr_2 hS => ?_)
      rw [htr_2] at hB
      obtain ⟨hP, hD⟩ := hB
      obtain rfl : r_2 = bI (1 = 0) := hwr_2
      have hP : va_P D vwCl (WM cI cZ b mC mR mL mF mpar mwt mstk mflw mc mp mm mf md mv mder mkn 1 ++ R) H := hP
      have hD : va_D A (WM cI cZ b mC mR mL mF mpar mwt mstk mflw mc mp mm mf md mv mder mkn 1 ++ R) := hD
      refine lv_if_ne (tgt := 61) hx hb dX5_addRoll_56 (by decide) (fun c_56 => ?_) (fun c_56 => ?_)
      · skip
        have c_56 := bI_n c_56
        exact absurd c_56 (by decide)
      · skip
        have c_56 := bI_z c_56
        refine lv_iconst (v := 0) hx hb dX5_addRoll_59 (by decide) ?_
        exact W.iret (v := 0) hx hb hr (fun t ht hW => ⟨⟨0, (), rfl, rfl, g_PD ht hP hD⟩, hS.F ht⟩) hS.2.2 dX5_addRoll_60
  · skip
    have c_5 := bI_n c_5
    exact absurd c_5 hno
set_option maxHeartbeats 4000000 in
set_option maxRecDepth 100000 in
/-- no such concept -/
theorem c5_addRoll_1b (l : Launch) (D : va_G) (cI cZ cO cL : ClassId) (dt : Nat) (A : Nat → Prop) (b : Nat → Nat) (mC mR mL mF : Nat) (mpar mwt mstk mflw : Nat → Int32) (mc mp mm mf md : Nat → Nat) (mv mder mkn : Nat → Int32) (thr : Int32) (R : va_W) (si fi : Int32) (hy : 0 ≤ si ∧ si ≤ nI mC - 1) (hno : ¬ (0 ≤ fi ∧ fi ≤ nI mC - 1)) : Met l yX5_addRoll wsX5_addRoll ({ frames := 2, cells := 0, slots := 0, locals := 43 } : Room) (gP D cI cZ cO cL dt A [.ref (b 0), .int si, .int fi] (fun H => va_P D vwCl (WM cI cZ b mC mR mL mF mpar mwt mstk mflw mc mp mm mf md mv mder mkn thr ++ R) H ∧ va_D A (WM cI cZ b mC mR mL mF mpar mwt mstk mflw mc mp mm mf md mv mder mkn thr ++ R))) (va_Qi (fun (r : Int32) (_ : Unit) => r = 0) (fun _ t => va_P D vwCl (WM cI cZ b mC mR mL mF mpar mwt mstk mflw mc mp mm mf md mv mder mkn 1 ++ R) t.heap ∧ va_D A (WM cI cZ b mC mR mL mF mpar mwt mstk mflw mc mp mm mf md mv mder mkn 1 ++ R)) A) 0 0 A := by
  refine Met.ofW (cc := cX5_addRoll) (maxL := 4) (ret := (some .int)) (by decide) rfl ?_
  intro p9 e9 s m9 args below meth c9 s₁ B hml hv
  obtain ⟨rfl, hg, hP, hD⟩ := hv
  have hx := B.exec
  have hb := B.bytes
  have hr := B.returns
  have hts := atoms_spec (ws := wsX5_addRoll) B.pre
  have hown : s.vm.findClass RX5 = some m9.cls := findClass_of_methodNamed B.named
  have hlocks := B.notSynchronized
  have hK := hg.1
  have hS : va_S A s.heap s.heap [] := va_S.rf
  have hl := lv_entry ([.ref (b 0), .int si, .int fi]) (n := 4) (Nat.le_of_ble_eq_true rfl)
  rw [lg_entry_eq]
  generalize (lg_sl ([.ref (b 0), .int si, .int fi]) ++ List.replicate (4 - (lg_sl ([.ref (b 0), .int si, .int fi])).length) Slot.unset).toArray = ls at hl ⊢
  have hl : lv_has ls 4 [(0, .ref (b 0)), (1, .int si), (2, .int fi)] := hl
  refine lv_aload_n hx hb dX5_addRoll_0 rfl (lv_at hl 0 rfl) ?_
  refine lv_iload_n hx hb dX5_addRoll_1 rfl (lv_at hl 1 rfl) ?_
  refine g_csi (va_runV (As := [.int si]) (rest := []) ⟨hx, hb, hml, hown, hts⟩ (c5_isConcept l D cI cZ cO cL dt A b mC mR mL mF mpar mwt mstk mflw mc mp mm mf md mv mder mkn thr R si) (cwV 1 hts gX5_addRoll_X5_isConcept rfl rfl rfl (by decide +kernel) ⟨Nat.le_of_ble_eq_true rfl, Nat.le_of_ble_eq_true rfl⟩) (gP.v hg hP 4 rfl (0) (rfl) hP) rfl rfl hl.1 rfl (lv_room (Nat.le_of_ble_eq_true rfl)) dX5_addRoll_2 ⟨Nat.le_of_ble_eq_true rfl, Nat.le_of_ble_eq_true rfl⟩) (fun r_1 hr_1 => ?_)
  obtain rfl : r_1 = bI (0 ≤ si ∧ si ≤ nI mC - 1) := hr_1
  refine lv_if_eq (tgt := 20) hx hb dX5_addRoll_5 (by decide) (fun c_5 => ?_) (fun c_5 => ?_)
  · skip
    have c_5 := bI_z c_5
    exact absurd hy c_5
  · skip
    have c_5 := bI_n c_5
    refine lv_aload_n hx hb dX5_addRoll_8 rfl (lv_at hl 0 rfl) ?_
    refine lv_iload_n hx hb dX5_addRoll_9 rfl (lv_at hl 2 rfl) ?_
    refine g_csi (va_runV (As := [.int fi]) (rest := []) ⟨hx, hb, hml, hown, hts⟩ (c5_isConcept l D cI cZ cO cL dt A b mC mR mL mF mpar mwt mstk mflw mc mp mm mf md mv mder mkn thr R fi) (cwV 1 hts gX5_addRoll_X5_isConcept rfl rfl rfl (by decide +kernel) ⟨Nat.le_of_ble_eq_true rfl, Nat.le_of_ble_eq_true rfl⟩) (gP.v hg hP 4 rfl (0) (rfl) hP) rfl rfl hl.1 rfl (lv_room (Nat.le_of_ble_eq_true rfl)) dX5_addRoll_10 ⟨Nat.le_of_ble_eq_true rfl, Nat.le_of_ble_eq_true rfl⟩) (fun r_2 hr_2 => ?_)
    obtain rfl : r_2 = bI (0 ≤ fi ∧ fi ≤ nI mC - 1) := hr_2
    refine lv_if_eq (tgt := 20) hx hb dX5_addRoll_13 (by decide) (fun c_13 => ?_) (fun c_13 => ?_)
    · skip
      have c_13 := bI_z c_13
      refine lv_iconst (v := 0) hx hb dX5_addRoll_20 (by decide) ?_
      refine lv_istore_n (lv' := [(3, .int 0), (0, .ref (b 0)), (1, .int si), (2, .int fi)]) hx hb dX5_addRoll_21 rfl hl (by decide) rfl (fun ls hl => ?_)
      refine lv_aload_n hx hb dX5_addRoll_22 rfl (lv_at hl 1 rfl) ?_
      refine lv_iload_n hx hb dX5_addRoll_23 rfl (lv_at hl 0 rfl) ?_
      refine lv_if_ne (tgt := 31) hx hb dX5_addRoll_24 (by decide) (fun c_24 => ?_) (fun c_24 => ?_)
      · skip
        exact absurd c_24 (by decide)
      · skip
        refine lv_iconst (v := 1) hx hb dX5_addRoll_27 (by decide) ?_
        refine lv_goto (tgt := 53) hx hb dX5_addRoll_28 (by decide) ?_
        refine va_calli (va_runV (As := [.int 1]) (rest := []) ⟨hx, hb, hml, hown, hts⟩ (c5_can l D cI cZ cO cL dt A b mC mR mL mF mpar mwt mstk mflw mc mp mm mf md mv mder mkn thr R 1) (cwV 1 hts gX5_addRoll_X5_can rfl rfl rfl (by decide +kernel) ⟨Nat.le_of_ble_eq_true rfl, Nat.le_of_ble_eq_true rfl⟩) (gP.v hg hP 4 rfl (0) (rfl) (⟨hP, hD⟩)) rfl rfl hl.1 rfl (lv_room (Nat.le_of_ble_eq_true rfl)) dX5_addRoll_53 ⟨Nat.le_of_ble_eq_true rfl, Nat.le_of_ble_eq_true rfl⟩) hS (fun q _ h => h) (fun q h => h) (fun r_3 ur_3 tr_3 H locs htr_3 hvmr_3 hwr_3 hB hzr_3 hkr_3 hS => ?_)
        rw [htr_3] at hB
        obtain ⟨hP, hD⟩ := hB
        obtain rfl : r_3 = bI (1 = 0) := hwr_3
        have hP : va_P D vwCl (WM cI cZ b mC mR mL mF mpar mwt mstk mflw mc mp mm mf md mv mder mkn 1 ++ R) H := hP
        have hD : va_D A (WM cI cZ b mC mR mL mF mpar mwt mstk mflw mc mp mm mf md mv mder mkn 1 ++ R) := hD
        refine lv_if_ne (tgt := 61) hx hb dX5_addRoll_56 (by decide) (fun c_56 => ?_) (fun c_56 => ?_)
        · skip
          have c_56 := bI_n c_56
          exact absurd c_56 (by decide)
        · skip
          have c_56 := bI_z c_56
          refine lv_iconst (v := 0) hx hb dX5_addRoll_59 (by decide) ?_
          exact W.iret (v := 0) hx hb hr (fun t ht hW => ⟨⟨0, (), rfl, rfl, g_PD ht hP hD⟩, hS.F ht⟩) hS.2.2 dX5_addRoll_60
    · skip
      have c_13 := bI_n c_13
      exact absurd c_13 hno
set_option maxHeartbeats 4000000 in
set_option maxRecDepth 100000 in
/-- the same -/
theorem c5_addRoll_2 (l : Launch) (D : va_G) (cI cZ cO cL : ClassId) (dt : Nat) (A : Nat → Prop) (b : Nat → Nat) (mC mR mL mF : Nat) (mpar mwt mstk mflw : Nat → Int32) (mc mp mm mf md : Nat → Nat) (mv mder mkn : Nat → Int32) (thr : Int32) (R : va_W) (si fi : Int32) (hy : 0 ≤ si ∧ si ≤ nI mC - 1) (hy2 : 0 ≤ fi ∧ fi ≤ nI mC - 1) (he : si = fi) : Met l yX5_addRoll wsX5_addRoll ({ frames := 2, cells := 0, slots := 0, locals := 43 } : Room) (gP D cI cZ cO cL dt A [.ref (b 0), .int si, .int fi] (fun H => va_P D vwCl (WM cI cZ b mC mR mL mF mpar mwt mstk mflw mc mp mm mf md mv mder mkn thr ++ R) H ∧ va_D A (WM cI cZ b mC mR mL mF mpar mwt mstk mflw mc mp mm mf md mv mder mkn thr ++ R))) (va_Qi (fun (r : Int32) (_ : Unit) => r = 0) (fun _ t => va_P D vwCl (WM cI cZ b mC mR mL mF mpar mwt mstk mflw mc mp mm mf md mv mder mkn 2 ++ R) t.heap ∧ va_D A (WM cI cZ b mC mR mL mF mpar mwt mstk mflw mc mp mm mf md mv mder mkn 2 ++ R)) A) 0 0 A := by
  refine Met.ofW (cc := cX5_addRoll) (maxL := 4) (ret := (some .int)) (by decide) rfl ?_
  intro p9 e9 s m9 args below meth c9 s₁ B hml hv
  obtain ⟨rfl, hg, hP, hD⟩ := hv
  have hx := B.exec
  have hb := B.bytes
  have hr := B.returns
  have hts := atoms_spec (ws := wsX5_addRoll) B.pre
  have hown : s.vm.findClass RX5 = some m9.cls := findClass_of_methodNamed B.named
  have hlocks := B.notSynchronized
  have hK := hg.1
  have hS : va_S A s.heap s.heap [] := va_S.rf
  have hl := lv_entry ([.ref (b 0), .int si, .int fi]) (n := 4) (Nat.le_of_ble_eq_true rfl)
  rw [lg_entry_eq]
  generalize (lg_sl ([.ref (b 0), .int si, .int fi]) ++ List.replicate (4 - (lg_sl ([.ref (b 0), .int si, .int fi])).length) Slot.unset).toArray = ls at hl ⊢
  have hl : lv_has ls 4 [(0, .ref (b 0)), (1, .int si), (2, .int fi)] := hl
  refine lv_aload_n hx hb dX5_addRoll_0 rfl (lv_at hl 0 rfl) ?_
  refine lv_iload_n hx hb dX5_addRoll_1 rfl (lv_at hl 1 rfl) ?_
  refine g_csi (va_runV (As := [.int si]) (rest := []) ⟨hx, hb, hml, hown, hts⟩ (c5_isConcept l D cI cZ cO cL dt A b mC mR mL mF mpar mwt mstk mflw mc mp mm mf md mv mder mkn thr R si) (cwV 1 hts gX5_addRoll_X5_isConcept rfl rfl rfl (by decide +kernel) ⟨Nat.le_of_ble_eq_true rfl, Nat.le_of_ble_eq_true rfl⟩) (gP.v hg hP 4 rfl (0) (rfl) hP) rfl rfl hl.1 rfl (lv_room (Nat.le_of_ble_eq_true rfl)) dX5_addRoll_2 ⟨Nat.le_of_ble_eq_true rfl, Nat.le_of_ble_eq_true rfl⟩) (fun r_1 hr_1 => ?_)
  obtain rfl : r_1 = bI (0 ≤ si ∧ si ≤ nI mC - 1) := hr_1
  refine lv_if_eq (tgt := 20) hx hb dX5_addRoll_5 (by decide) (fun c_5 => ?_) (fun c_5 => ?_)
  · skip
    have c_5 := bI_z c_5
    exact absurd hy c_5
  · skip
    have c_5 := bI_n c_5
    refine lv_aload_n hx hb dX5_addRoll_8 rfl (lv_at hl 0 rfl) ?_
    refine lv_iload_n hx hb dX5_addRoll_9 rfl (lv_at hl 2 rfl) ?_
    refine g_csi (va_runV (As := [.int fi]) (rest := []) ⟨hx, hb, hml, hown, hts⟩ (c5_isConcept l D cI cZ cO cL dt A b mC mR mL mF mpar mwt mstk mflw mc mp mm mf md mv mder mkn thr R fi) (cwV 1 hts gX5_addRoll_X5_isConcept rfl rfl rfl (by decide +kernel) ⟨Nat.le_of_ble_eq_true rfl, Nat.le_of_ble_eq_true rfl⟩) (gP.v hg hP 4 rfl (0) (rfl) hP) rfl rfl hl.1 rfl (lv_room (Nat.le_of_ble_eq_true rfl)) dX5_addRoll_10 ⟨Nat.le_of_ble_eq_true rfl, Nat.le_of_ble_eq_true rfl⟩) (fun r_2 hr_2 => ?_)
    obtain rfl : r_2 = bI (0 ≤ fi ∧ fi ≤ nI mC - 1) := hr_2
    refine lv_if_eq (tgt := 20) hx hb dX5_addRoll_13 (by decide) (fun c_13 => ?_) (fun c_13 => ?_)
    · skip
      have c_13 := bI_z c_13
      exact absurd hy2 c_13
    · skip
      have c_13 := bI_n c_13
      refine lv_iconst (v := 1) hx hb dX5_addRoll_16 (by decide) ?_
      refine lv_goto (tgt := 21) hx hb dX5_addRoll_17 (by decide) ?_
      refine lv_istore_n (lv' := [(3, .int 1), (0, .ref (b 0)), (1, .int si), (2, .int fi)]) hx hb dX5_addRoll_21 rfl hl (by decide) rfl (fun ls hl => ?_)
      refine lv_aload_n hx hb dX5_addRoll_22 rfl (lv_at hl 1 rfl) ?_
      refine lv_iload_n hx hb dX5_addRoll_23 rfl (lv_at hl 0 rfl) ?_
      refine lv_if_ne (tgt := 31) hx hb dX5_addRoll_24 (by decide) (fun c_24 => ?_) (fun c_24 => ?_)
      · skip
        refine lv_iload_n hx hb dX5_addRoll_31 rfl (lv_at hl 2 rfl) ?_
        refine lv_iload_n hx hb dX5_addRoll_32 rfl (lv_at hl 3 rfl) ?_
        refine lv_icmp_ne (tgt := 40) hx hb dX5_addRoll_33 (by decide) (fun c_33 => ?_) (fun c_33 => ?_)
        · skip
          exact absurd he c_33
        · skip
          refine lv_iconst (v := 2) hx hb dX5_addRoll_36 (by decide) ?_
          refine lv_goto (tgt := 53) hx hb dX5_addRoll_37 (by decide) ?_
          refine va_calli (va_runV (As := [.int 2]) (rest := []) ⟨hx, hb, hml, hown, hts⟩ (c5_can l D cI cZ cO cL dt A b mC mR mL mF mpar mwt mstk mflw mc mp mm mf md mv mder mkn thr R 2) (cwV 1 hts gX5_addRoll_X5_can rfl rfl rfl (by decide +kernel) ⟨Nat.le_of_ble_eq_true rfl, Nat.le_of_ble_eq_true rfl⟩) (gP.v hg hP 4 rfl (0) (rfl) (⟨hP, hD⟩)) rfl rfl hl.1 rfl (lv_room (Nat.le_of_ble_eq_true rfl)) dX5_addRoll_53 ⟨Nat.le_of_ble_eq_true rfl, Nat.le_of_ble_eq_true rfl⟩) hS (fun q _ h => h) (fun q h => h) (fun r_3 ur_3 tr_3 H locs htr_3 hvmr_3 hwr_3 hB hzr_3 hkr_3 hS => ?_)
          rw [htr_3] at hB
          obtain ⟨hP, hD⟩ := hB
          obtain rfl : r_3 = bI (2 = 0) := hwr_3
          have hP : va_P D vwCl (WM cI cZ b mC mR mL mF mpar mwt mstk mflw mc mp mm mf md mv mder mkn 2 ++ R) H := hP
          have hD : va_D A (WM cI cZ b mC mR mL mF mpar mwt mstk mflw mc mp mm mf md mv mder mkn 2 ++ R) := hD
          refine lv_if_ne (tgt := 61) hx hb dX5_addRoll_56 (by decide) (fun c_56 => ?_) (fun c_56 => ?_)
          · skip
            have c_56 := bI_n c_56
            exact absurd c_56 (by decide)
          · skip
            have c_56 := bI_z c_56
            refine lv_iconst (v := 0) hx hb dX5_addRoll_59 (by decide) ?_
            exact W.iret (v := 0) hx hb hr (fun t ht hW => ⟨⟨0, (), rfl, rfl, g_PD ht hP hD⟩, hS.F ht⟩) hS.2.2 dX5_addRoll_60
      · skip
        exact absurd c_24 (by decide)
set_option maxHeartbeats 4000000 in
set_option maxRecDepth 100000 in
/-- no more rules -/
theorem c5_addRoll_3 (l : Launch) (D : va_G) (cI cZ cO cL : ClassId) (dt : Nat) (A : Nat → Prop) (b : Nat → Nat) (mC mR mL mF : Nat) (mpar mwt mstk mflw : Nat → Int32) (mc mp mm mf md : Nat → Nat) (mv mder mkn : Nat → Int32) (thr : Int32) (R : va_W) (si fi : Int32) (hy : 0 ≤ si ∧ si ≤ nI mC - 1) (hy2 : 0 ≤ fi ∧ fi ≤ nI mC - 1) (he : ¬ si = fi) (h5 : mR = 5) : Met l yX5_addRoll wsX5_addRoll ({ frames := 2, cells := 0, slots := 0, locals := 43 } : Room) (gP D cI cZ cO cL dt A [.ref (b 0), .int si, .int fi] (fun H => va_P D vwCl (WM cI cZ b mC mR mL mF mpar mwt mstk mflw mc mp mm mf md mv mder mkn thr ++ R) H ∧ va_D A (WM cI cZ b mC mR mL mF mpar mwt mstk mflw mc mp mm mf md mv mder mkn thr ++ R))) (va_Qi (fun (r : Int32) (_ : Unit) => r = 0) (fun _ t => va_P D vwCl (WM cI cZ b mC mR mL mF mpar mwt mstk mflw mc mp mm mf md mv mder mkn 3 ++ R) t.heap ∧ va_D A (WM cI cZ b mC mR mL mF mpar mwt mstk mflw mc mp mm mf md mv mder mkn 3 ++ R)) A) 0 0 A := by
  refine Met.ofW (cc := cX5_addRoll) (maxL := 4) (ret := (some .int)) (by decide) rfl ?_
  intro p9 e9 s m9 args below meth c9 s₁ B hml hv
  obtain ⟨rfl, hg, hP, hD⟩ := hv
  have hx := B.exec
  have hb := B.bytes
  have hr := B.returns
  have hts := atoms_spec (ws := wsX5_addRoll) B.pre
  have hown : s.vm.findClass RX5 = some m9.cls := findClass_of_methodNamed B.named
  have hlocks := B.notSynchronized
  have hK := hg.1
  have hS : va_S A s.heap s.heap [] := va_S.rf
  have w_0 := hts (.fieldLink RX5 72 "DimfactsModel" "rolls" "I") (by decide +kernel)
  have win_X5 : ∀ w ∈ wsX50, w ∈ wsX5_addRoll := by decide +kernel
  have hl := lv_entry ([.ref (b 0), .int si, .int fi]) (n := 4) (Nat.le_of_ble_eq_true rfl)
  rw [lg_entry_eq]
  generalize (lg_sl ([.ref (b 0), .int si, .int fi]) ++ List.replicate (4 - (lg_sl ([.ref (b 0), .int si, .int fi])).length) Slot.unset).toArray = ls at hl ⊢
  have hl : lv_has ls 4 [(0, .ref (b 0)), (1, .int si), (2, .int fi)] := hl
  refine lv_aload_n hx hb dX5_addRoll_0 rfl (lv_at hl 0 rfl) ?_
  refine lv_iload_n hx hb dX5_addRoll_1 rfl (lv_at hl 1 rfl) ?_
  refine g_csi (va_runV (As := [.int si]) (rest := []) ⟨hx, hb, hml, hown, hts⟩ (c5_isConcept l D cI cZ cO cL dt A b mC mR mL mF mpar mwt mstk mflw mc mp mm mf md mv mder mkn thr R si) (cwV 1 hts gX5_addRoll_X5_isConcept rfl rfl rfl (by decide +kernel) ⟨Nat.le_of_ble_eq_true rfl, Nat.le_of_ble_eq_true rfl⟩) (gP.v hg hP 4 rfl (0) (rfl) hP) rfl rfl hl.1 rfl (lv_room (Nat.le_of_ble_eq_true rfl)) dX5_addRoll_2 ⟨Nat.le_of_ble_eq_true rfl, Nat.le_of_ble_eq_true rfl⟩) (fun r_1 hr_1 => ?_)
  obtain rfl : r_1 = bI (0 ≤ si ∧ si ≤ nI mC - 1) := hr_1
  refine lv_if_eq (tgt := 20) hx hb dX5_addRoll_5 (by decide) (fun c_5 => ?_) (fun c_5 => ?_)
  · skip
    have c_5 := bI_z c_5
    exact absurd hy c_5
  · skip
    have c_5 := bI_n c_5
    refine lv_aload_n hx hb dX5_addRoll_8 rfl (lv_at hl 0 rfl) ?_
    refine lv_iload_n hx hb dX5_addRoll_9 rfl (lv_at hl 2 rfl) ?_
    refine g_csi (va_runV (As := [.int fi]) (rest := []) ⟨hx, hb, hml, hown, hts⟩ (c5_isConcept l D cI cZ cO cL dt A b mC mR mL mF mpar mwt mstk mflw mc mp mm mf md mv mder mkn thr R fi) (cwV 1 hts gX5_addRoll_X5_isConcept rfl rfl rfl (by decide +kernel) ⟨Nat.le_of_ble_eq_true rfl, Nat.le_of_ble_eq_true rfl⟩) (gP.v hg hP 4 rfl (0) (rfl) hP) rfl rfl hl.1 rfl (lv_room (Nat.le_of_ble_eq_true rfl)) dX5_addRoll_10 ⟨Nat.le_of_ble_eq_true rfl, Nat.le_of_ble_eq_true rfl⟩) (fun r_2 hr_2 => ?_)
    obtain rfl : r_2 = bI (0 ≤ fi ∧ fi ≤ nI mC - 1) := hr_2
    refine lv_if_eq (tgt := 20) hx hb dX5_addRoll_13 (by decide) (fun c_13 => ?_) (fun c_13 => ?_)
    · skip
      have c_13 := bI_z c_13
      exact absurd hy2 c_13
    · skip
      have c_13 := bI_n c_13
      refine lv_iconst (v := 1) hx hb dX5_addRoll_16 (by decide) ?_
      refine lv_goto (tgt := 21) hx hb dX5_addRoll_17 (by decide) ?_
      refine lv_istore_n (lv' := [(3, .int 1), (0, .ref (b 0)), (1, .int si), (2, .int fi)]) hx hb dX5_addRoll_21 rfl hl (by decide) rfl (fun ls hl => ?_)
      refine lv_aload_n hx hb dX5_addRoll_22 rfl (lv_at hl 1 rfl) ?_
      refine lv_iload_n hx hb dX5_addRoll_23 rfl (lv_at hl 0 rfl) ?_
      refine lv_if_ne (tgt := 31) hx hb dX5_addRoll_24 (by decide) (fun c_24 => ?_) (fun c_24 => ?_)
      · skip
        refine lv_iload_n hx hb dX5_addRoll_31 rfl (lv_at hl 2 rfl) ?_
        refine lv_iload_n hx hb dX5_addRoll_32 rfl (lv_at hl 3 rfl) ?_
        refine lv_icmp_ne (tgt := 40) hx hb dX5_addRoll_33 (by decide) (fun c_33 => ?_) (fun c_33 => ?_)
        · skip
          refine lv_aload_n hx hb dX5_addRoll_40 rfl (lv_at hl 1 rfl) ?_
          refine va_get (D := D) (ci := 4) (v := .int (nI mR)) (C := RX5) (T := TX5) (N := 17) hx hb hts win_X5 hown hK hP (0) (rfl) rfl 3 (by decide) w_0 (fun _ h9 => h9) rfl dX5_addRoll_41 ?_
          refine lv_iconst (v := 5) hx hb dX5_addRoll_44 (by decide) ?_
          refine lv_icmp_ne (tgt := 52) hx hb dX5_addRoll_45 (by decide) (fun c_45 => ?_) (fun c_45 => ?_)
          · skip
            exact absurd (by rw [h5]; rfl) c_45
          · skip
            refine lv_iconst (v := 3) hx hb dX5_addRoll_48 (by decide) ?_
            refine lv_goto (tgt := 53) hx hb dX5_addRoll_49 (by decide) ?_
            refine va_calli (va_runV (As := [.int 3]) (rest := []) ⟨hx, hb, hml, hown, hts⟩ (c5_can l D cI cZ cO cL dt A b mC mR mL mF mpar mwt mstk mflw mc mp mm mf md mv mder mkn thr R 3) (cwV 1 hts gX5_addRoll_X5_can rfl rfl rfl (by decide +kernel) ⟨Nat.le_of_ble_eq_true rfl, Nat.le_of_ble_eq_true rfl⟩) (gP.v hg hP 4 rfl (0) (rfl) (⟨hP, hD⟩)) rfl rfl hl.1 rfl (lv_room (Nat.le_of_ble_eq_true rfl)) dX5_addRoll_53 ⟨Nat.le_of_ble_eq_true rfl, Nat.le_of_ble_eq_true rfl⟩) hS (fun q _ h => h) (fun q h => h) (fun r_3 ur_3 tr_3 H locs htr_3 hvmr_3 hwr_3 hB hzr_3 hkr_3 hS => ?_)
            rw [htr_3] at hB
            obtain ⟨hP, hD⟩ := hB
            obtain rfl : r_3 = bI (3 = 0) := hwr_3
            have hP : va_P D vwCl (WM cI cZ b mC mR mL mF mpar mwt mstk mflw mc mp mm mf md mv mder mkn 3 ++ R) H := hP
            have hD : va_D A (WM cI cZ b mC mR mL mF mpar mwt mstk mflw mc mp mm mf md mv mder mkn 3 ++ R) := hD
            refine lv_if_ne (tgt := 61) hx hb dX5_addRoll_56 (by decide) (fun c_56 => ?_) (fun c_56 => ?_)
            · skip
              have c_56 := bI_n c_56
              exact absurd c_56 (by decide)
            · skip
              have c_56 := bI_z c_56
              refine lv_iconst (v := 0) hx hb dX5_addRoll_59 (by decide) ?_
              exact W.iret (v := 0) hx hb hr (fun t ht hW => ⟨⟨0, (), rfl, rfl, g_PD ht hP hD⟩, hS.F ht⟩) hS.2.2 dX5_addRoll_60
        · skip
          exact absurd c_33 he
      · skip
        exact absurd c_24 (by decide)
set_option maxHeartbeats 4000000 in
set_option maxRecDepth 100000 in
/-- a rule more -/
theorem c5_addRoll_0 (l : Launch) (D : va_G) (cI cZ cO cL : ClassId) (dt : Nat) (A : Nat → Prop) (b : Nat → Nat) (mC mR mL mF : Nat) (mpar mwt mstk mflw : Nat → Int32) (mc mp mm mf md : Nat → Nat) (mv mder mkn : Nat → Int32) (thr : Int32) (R : va_W) (si fi : Int32) (hy : 0 ≤ si ∧ si ≤ nI mC - 1) (hy2 : 0 ≤ fi ∧ fi ≤ nI mC - 1) (he : ¬ si = fi) (h5 : mR < 5) : Met l yX5_addRoll wsX5_addRoll ({ frames := 2, cells := 0, slots := 0, locals := 43 } : Room) (gP D cI cZ cO cL dt A [.ref (b 0), .int si, .int fi] (fun H => va_P D vwCl (WM cI cZ b mC mR mL mF mpar mwt mstk mflw mc mp mm mf md mv mder mkn thr ++ R) H ∧ va_D A (WM cI cZ b mC mR mL mF mpar mwt mstk mflw mc mp mm mf md mv mder mkn thr ++ R))) (va_Qi (fun (r : Int32) (_ : Unit) => r = nI mR) (fun _ t => va_P D vwCl (WM cI cZ b mC (mR + 1) mL mF mpar mwt (upd mstk mR si) (upd mflw mR fi) mc mp mm mf md mv mder mkn 0 ++ R) t.heap ∧ va_D A (WM cI cZ b mC (mR + 1) mL mF mpar mwt (upd mstk mR si) (upd mflw mR fi) mc mp mm mf md mv mder mkn 0 ++ R)) A) 0 0 A := by
  refine Met.ofW (cc := cX5_addRoll) (maxL := 4) (ret := (some .int)) (by decide) rfl ?_
  intro p9 e9 s m9 args below meth c9 s₁ B hml hv
  obtain ⟨rfl, hg, hP, hD⟩ := hv
  have hx := B.exec
  have hb := B.bytes
  have hr := B.returns
  have hts := atoms_spec (ws := wsX5_addRoll) B.pre
  have hown : s.vm.findClass RX5 = some m9.cls := findClass_of_methodNamed B.named
  have hlocks := B.notSynchronized
  have hK := hg.1
  have hS : va_S A s.heap s.heap [] := va_S.rf
  have w_0 := hts (.fieldLink RX5 72 "DimfactsModel" "rolls" "I") (by decide +kernel)
  have win_X5 : ∀ w ∈ wsX50, w ∈ wsX5_addRoll := by decide +kernel
  have w_2 := hts (.fieldLink RX5 16 "DimfactsModel" "stock" "[I") (by decide +kernel)
  have w_3 := hts (.fieldLink RX5 19 "DimfactsModel" "flow" "[I") (by decide +kernel)
  have hl := lv_entry ([.ref (b 0), .int si, .int fi]) (n := 4) (Nat.le_of_ble_eq_true rfl)
  rw [lg_entry_eq]
  generalize (lg_sl ([.ref (b 0), .int si, .int fi]) ++ List.replicate (4 - (lg_sl ([.ref (b 0), .int si, .int fi])).length) Slot.unset).toArray = ls at hl ⊢
  have hl : lv_has ls 4 [(0, .ref (b 0)), (1, .int si), (2, .int fi)] := hl
  refine lv_aload_n hx hb dX5_addRoll_0 rfl (lv_at hl 0 rfl) ?_
  refine lv_iload_n hx hb dX5_addRoll_1 rfl (lv_at hl 1 rfl) ?_
  refine g_csi (va_runV (As := [.int si]) (rest := []) ⟨hx, hb, hml, hown, hts⟩ (c5_isConcept l D cI cZ cO cL dt A b mC mR mL mF mpar mwt mstk mflw mc mp mm mf md mv mder mkn thr R si) (cwV 1 hts gX5_addRoll_X5_isConcept rfl rfl rfl (by decide +kernel) ⟨Nat.le_of_ble_eq_true rfl, Nat.le_of_ble_eq_true rfl⟩) (gP.v hg hP 4 rfl (0) (rfl) hP) rfl rfl hl.1 rfl (lv_room (Nat.le_of_ble_eq_true rfl)) dX5_addRoll_2 ⟨Nat.le_of_ble_eq_true rfl, Nat.le_of_ble_eq_true rfl⟩) (fun r_1 hr_1 => ?_)
  obtain rfl : r_1 = bI (0 ≤ si ∧ si ≤ nI mC - 1) := hr_1
  refine lv_if_eq (tgt := 20) hx hb dX5_addRoll_5 (by decide) (fun c_5 => ?_) (fun c_5 => ?_)
  · skip
    have c_5 := bI_z c_5
    exact absurd hy c_5
  · skip
    have c_5 := bI_n c_5
    refine lv_aload_n hx hb dX5_addRoll_8 rfl (lv_at hl 0 rfl) ?_
    refine lv_iload_n hx hb dX5_addRoll_9 rfl (lv_at hl 2 rfl) ?_
    refine g_csi (va_runV (As := [.int fi]) (rest := []) ⟨hx, hb, hml, hown, hts⟩ (c5_isConcept l D cI cZ cO cL dt A b mC mR mL mF mpar mwt mstk mflw mc mp mm mf md mv mder mkn thr R fi) (cwV 1 hts gX5_addRoll_X5_isConcept rfl rfl rfl (by decide +kernel) ⟨Nat.le_of_ble_eq_true rfl, Nat.le_of_ble_eq_true rfl⟩) (gP.v hg hP 4 rfl (0) (rfl) hP) rfl rfl hl.1 rfl (lv_room (Nat.le_of_ble_eq_true rfl)) dX5_addRoll_10 ⟨Nat.le_of_ble_eq_true rfl, Nat.le_of_ble_eq_true rfl⟩) (fun r_2 hr_2 => ?_)
    obtain rfl : r_2 = bI (0 ≤ fi ∧ fi ≤ nI mC - 1) := hr_2
    refine lv_if_eq (tgt := 20) hx hb dX5_addRoll_13 (by decide) (fun c_13 => ?_) (fun c_13 => ?_)
    · skip
      have c_13 := bI_z c_13
      exact absurd hy2 c_13
    · skip
      have c_13 := bI_n c_13
      refine lv_iconst (v := 1) hx hb dX5_addRoll_16 (by decide) ?_
      refine lv_goto (tgt := 21) hx hb dX5_addRoll_17 (by decide) ?_
      refine lv_istore_n (lv' := [(3, .int 1), (0, .ref (b 0)), (1, .int si), (2, .int fi)]) hx hb dX5_addRoll_21 rfl hl (by decide) rfl (fun ls hl => ?_)
      refine lv_aload_n hx hb dX5_addRoll_22 rfl (lv_at hl 1 rfl) ?_
      refine lv_iload_n hx hb dX5_addRoll_23 rfl (lv_at hl 0 rfl) ?_
      refine lv_if_ne (tgt := 31) hx hb dX5_addRoll_24 (by decide) (fun c_24 => ?_) (fun c_24 => ?_)
      · skip
        refine lv_iload_n hx hb dX5_addRoll_31 rfl (lv_at hl 2 rfl) ?_
        refine lv_iload_n hx hb dX5_addRoll_32 rfl (lv_at hl 3 rfl) ?_
        refine lv_icmp_ne (tgt := 40) hx hb dX5_addRoll_33 (by decide) (fun c_33 => ?_) (fun c_33 => ?_)
        · skip
          refine lv_aload_n hx hb dX5_addRoll_40 rfl (lv_at hl 1 rfl) ?_
          refine va_get (D := D) (ci := 4) (v := .int (nI mR)) (C := RX5) (T := TX5) (N := 17) hx hb hts win_X5 hown hK hP (0) (rfl) rfl 3 (by decide) w_0 (fun _ h9 => h9) rfl dX5_addRoll_41 ?_
          refine lv_iconst (v := 5) hx hb dX5_addRoll_44 (by decide) ?_
          refine lv_icmp_ne (tgt := 52) hx hb dX5_addRoll_45 (by decide) (fun c_45 => ?_) (fun c_45 => ?_)
          · skip
            refine lv_iconst (v := 0) hx hb dX5_addRoll_52 (by decide) ?_
            refine va_calli (va_runV (As := [.int 0]) (rest := []) ⟨hx, hb, hml, hown, hts⟩ (c5_can l D cI cZ cO cL dt A b mC mR mL mF mpar mwt mstk mflw mc mp mm mf md mv mder mkn thr R 0) (cwV 1 hts gX5_addRoll_X5_can rfl rfl rfl (by decide +kernel) ⟨Nat.le_of_ble_eq_true rfl, Nat.le_of_ble_eq_true rfl⟩) (gP.v hg hP 4 rfl (0) (rfl) (⟨hP, hD⟩)) rfl rfl hl.1 rfl (lv_room (Nat.le_of_ble_eq_true rfl)) dX5_addRoll_53 ⟨Nat.le_of_ble_eq_true rfl, Nat.le_of_ble_eq_true rfl⟩) hS (fun q _ h => h) (fun q h => h) (fun r_3 ur_3 tr_3 H locs htr_3 hvmr_3 hwr_3 hB hzr_3 hkr_3 hS => ?_)
            rw [htr_3] at hB
            obtain ⟨hP, hD⟩ := hB
            obtain rfl : r_3 = bI (0 = 0) := hwr_3
            have hP : va_P D vwCl (WM cI cZ b mC mR mL mF mpar mwt mstk mflw mc mp mm mf md mv mder mkn 0 ++ R) H := hP
            have hD : va_D A (WM cI cZ b mC mR mL mF mpar mwt mstk mflw mc mp mm mf md mv mder mkn 0 ++ R) := hD
            refine lv_if_ne (tgt := 61) hx hb dX5_addRoll_56 (by decide) (fun c_56 => ?_) (fun c_56 => ?_)
            · skip
              have c_56 := bI_n c_56
              refine lv_aload_n hx hb dX5_addRoll_61 rfl (lv_at hl 1 rfl) ?_
              refine va_get (D := D) (ci := 4) (v := .ref (b 3)) (C := RX5) (T := TX5) (N := 17) hx hb hts win_X5 hown hK hP (0) (rfl) rfl 4 (by decide) w_2 (fun _ h9 => h9) rfl dX5_addRoll_62 ?_
              refine lv_aload_n hx hb dX5_addRoll_65 rfl (lv_at hl 1 rfl) ?_
              refine va_get (D := D) (ci := 4) (v := .int (nI mR)) (C := RX5) (T := TX5) (N := 17) hx hb hts win_X5 hown hK hP (0) (rfl) rfl 3 (by decide) w_0 (fun _ h9 => h9) rfl dX5_addRoll_66 ?_
              refine lv_iload_n hx hb dX5_addRoll_69 rfl (lv_at hl 2 rfl) ?_
              refine g_iast hx hb hK hP hD hS (3) 0 (n := 5) (f := mstk) (rfl) rfl mR rfl (by omega) (by decide) dX5_addRoll_70 (WM cI cZ b mC mR mL mF mpar mwt (upd mstk mR si) mflw mc mp mm mf md mv mder mkn 0 ++ R) rfl (fun H locs hP hD hS => ?_)
              refine lv_aload_n hx hb dX5_addRoll_71 rfl (lv_at hl 1 rfl) ?_
              refine va_get (D := D) (ci := 4) (v := .ref (b 4)) (C := RX5) (T := TX5) (N := 17) hx hb hts win_X5 hown hK hP (0) (rfl) rfl 5 (by decide) w_3 (fun _ h9 => h9) rfl dX5_addRoll_72 ?_
              refine lv_aload_n hx hb dX5_addRoll_75 rfl (lv_at hl 1 rfl) ?_
              refine va_get (D := D) (ci := 4) (v := .int (nI mR)) (C := RX5) (T := TX5) (N := 17) hx hb hts win_X5 hown hK hP (0) (rfl) rfl 3 (by decide) w_0 (fun _ h9 => h9) rfl dX5_addRoll_76 ?_
              refine lv_iload_n hx hb dX5_addRoll_79 rfl (lv_at hl 3 rfl) ?_
              refine g_iast hx hb hK hP hD hS (4) 0 (n := 5) (f := mflw) (rfl) rfl mR rfl (by omega) (by decide) dX5_addRoll_80 (WM cI cZ b mC mR mL mF mpar mwt (upd mstk mR si) (upd mflw mR fi) mc mp mm mf md mv mder mkn 0 ++ R) rfl (fun H locs hP hD hS => ?_)
              refine lv_aload_n hx hb dX5_addRoll_81 rfl (lv_at hl 1 rfl) ?_
              refine lv_dup hx hb dX5_addRoll_82 rfl ?_
              refine va_get (D := D) (ci := 4) (v := .int (nI mR)) (C := RX5) (T := TX5) (N := 17) hx hb hts win_X5 hown hK hP (0) (rfl) rfl 3 (by decide) w_0 (fun _ h9 => h9) rfl dX5_addRoll_83 ?_
              refine lv_iconst (v := 1) hx hb dX5_addRoll_86 (by decide) ?_
              refine lv_iadd hx hb dX5_addRoll_87 ?_
              refine lv_topi (fun dv edv => ?_)
              obtain rfl : dv = nI (mR + 1) := by rw [edv]; exact nI_1 mR
              refine va_put (D := D) (ci := 4) (v := .int (nI (mR + 1))) (ty := .int) (C := RX5) (T := TX5) (N := 17) hx hb hts win_X5 tyX5 tyX5_ok nmX5 hown hK hP hD hS (0) (rfl) rfl 3 (by decide) w_0 (fun _ h9 => h9) rfl (by decide +kernel) rfl rfl (Nat.le_of_ble_eq_true rfl) dX5_addRoll_88 (fun H locs hP hD hS => ?_)
              have hP : va_P D vwCl (WM cI cZ b mC (mR + 1) mL mF mpar mwt (upd mstk mR si) (upd mflw mR fi) mc mp mm mf md mv mder mkn 0 ++ R) H := hP
              have hD : va_D A (WM cI cZ b mC (mR + 1) mL mF mpar mwt (upd mstk mR si) (upd mflw mR fi) mc mp mm mf md mv mder mkn 0 ++ R) := hD
              refine lv_aload_n hx hb dX5_addRoll_91 rfl (lv_at hl 1 rfl) ?_
              refine va_get (D := D) (ci := 4) (v := .int (nI (mR + 1))) (C := RX5) (T := TX5) (N := 17) hx hb hts win_X5 hown hK hP (0) (rfl) rfl 3 (by decide) w_0 (fun _ h9 => h9) rfl dX5_addRoll_92 ?_
              refine lv_iconst (v := 1) hx hb dX5_addRoll_95 (by decide) ?_
              refine lv_isub hx hb dX5_addRoll_96 ?_
              refine lv_topi (fun dv edv => ?_)
              obtain rfl : dv = nI mR := by rw [edv]; exact nI_pred mR
              exact W.iret (v := nI mR) hx hb hr (fun t ht hW => ⟨⟨nI mR, (), rfl, rfl, g_PD ht hP hD⟩, hS.F ht⟩) hS.2.2 dX5_addRoll_97
            · skip
              have c_56 := bI_z c_56
              exact absurd (by decide) c_56
          · skip
            exact absurd ((nI_eq (b := 5) (by omega) (by decide)).mp c_45) (by omega)
        · skip
          exact absurd c_33 he
      · skip
        exact absurd c_24 (by decide)
set_option maxHeartbeats 4000000 in
set_option maxRecDepth 100000 in
/-- no such key -/
theorem c5_tell_1 (l : Launch) (D : va_G) (cI cZ cO cL : ClassId) (dt : Nat) (A : Nat → Prop) (b : Nat → Nat) (mC mR mL mF : Nat) (mpar mwt mstk mflw : Nat → Int32) (mc mp mm mf md : Nat → Nat) (mv mder mkn : Nat → Int32) (thr : Int32) (R : va_W) (ci pi mi vi di : Int32) (hno : ¬ ((0 ≤ ci ∧ ci ≤ nI mC - 1) ∧ (0 ≤ pi ∧ pi ≤ 9) ∧ (0 ≤ mi ∧ mi ≤ 3))) : Met l yX5_tell wsX5_tell ({ frames := 3, cells := 0, slots := 0, locals := 66 } : Room) (gP D cI cZ cO cL dt A [.ref (b 0), .int ci, .int pi, .int mi, .int vi, .int di] (fun H => va_P D vwCl (WM cI cZ b mC mR mL mF mpar mwt mstk mflw mc mp mm mf md mv mder mkn thr ++ R) H ∧ va_D A (WM cI cZ b mC mR mL mF mpar mwt mstk mflw mc mp mm mf md mv mder mkn thr ++ R))) (va_Qi (fun (r : Int32) (_ : Unit) => r = 0) (fun _ t => va_P D vwCl (WM cI cZ b mC mR mL mF mpar mwt mstk mflw mc mp mm mf md mv mder mkn 1 ++ R) t.heap ∧ va_D A (WM cI cZ b mC mR mL mF mpar mwt mstk mflw mc mp mm mf md mv mder mkn 1 ++ R)) A) 0 0 A := by
  refine Met.ofW (cc := cX5_tell) (maxL := 7) (ret := (some .int)) (by decide) rfl ?_
  intro p9 e9 s m9 args below meth c9 s₁ B hml hv
  obtain ⟨rfl, hg, hP, hD⟩ := hv
  have hx := B.exec
  have hb := B.bytes
  have hr := B.returns
  have hts := atoms_spec (ws := wsX5_tell) B.pre
  have hown : s.vm.findClass RX5 = some m9.cls := findClass_of_methodNamed B.named
  have hlocks := B.notSynchronized
  have hK := hg.1
  have hS : va_S A s.heap s.heap [] := va_S.rf
  have w_0 := hts (.constant RX5 75 (-1000000)) (by decide +kernel)
  have w_1 := hts (.constant RX5 76 (1000000)) (by decide +kernel)
  have hl := lv_entry ([.ref (b 0), .int ci, .int pi, .int mi, .int vi, .int di]) (n := 7) (Nat.le_of_ble_eq_true rfl)
  rw [lg_entry_eq]
  generalize (lg_sl ([.ref (b 0), .int ci, .int pi, .int mi, .int vi, .int di]) ++ List.replicate (7 - (lg_sl ([.ref (b 0), .int ci, .int pi, .int mi, .int vi, .int di])).length) Slot.unset).toArray = ls at hl ⊢
  have hl : lv_has ls 7 [(0, .ref (b 0)), (1, .int ci), (2, .int pi), (3, .int mi), (4, .int vi), (5, .int di)] := hl
  refine lv_iload hx hb dX5_tell_0 (lv_at hl 4 rfl) ?_
  refine lv_ldc (v := (-1000000)) hx hb hown w_0 dX5_tell_2 ?_
  refine lv_ldc (v := (1000000)) hx hb hown w_1 dX5_tell_4 ?_
  refine g_csi (va_runS (As := [.int vi, .int (-1000000), .int (1000000)]) (rest := []) ⟨hx, hb, hml, hown, hts⟩ (c5_isIn l D cI cZ cO cL dt A vi (-1000000) (1000000) (WM cI cZ b mC mR mL mF mpar mwt mstk mflw mc mp mm mf md mv mder mkn thr ++ R)) (va_cwS 3 hts gX5_tell_X5_isIn rfl rfl rfl (by decide +kernel) ⟨Nat.le_of_ble_eq_true rfl, Nat.le_of_ble_eq_true rfl⟩) (gP.s hg hP) rfl rfl hl.1 rfl (lv_room (Nat.le_of_ble_eq_true rfl)) dX5_tell_6 ⟨Nat.le_of_ble_eq_true rfl, Nat.le_of_ble_eq_true rfl⟩) (fun r_1 hr_1 => ?_)
  obtain rfl : r_1 = bI ((-1000000) ≤ vi ∧ vi ≤ (1000000)) := hr_1
  refine lv_if_eq (tgt := 26) hx hb dX5_tell_9 (by decide) (fun c_9 => ?_) (fun c_9 => ?_)
  · skip
    have c_9 := bI_z c_9
    refine lv_iconst (v := 0) hx hb dX5_tell_26 (by decide) ?_
    refine lv_istore (lv' := [(6, .int 0), (0, .ref (b 0)), (1, .int ci), (2, .int pi), (3, .int mi), (4, .int vi), (5, .int di)]) hx hb dX5_tell_27 hl (by decide) rfl (fun ls hl => ?_)
    refine lv_aload_n hx hb dX5_tell_29 rfl (lv_at hl 1 rfl) ?_
    refine lv_aload_n hx hb dX5_tell_30 rfl (lv_at hl 1 rfl) ?_
    refine lv_iload_n hx hb dX5_tell_31 rfl (lv_at hl 2 rfl) ?_
    refine lv_iload_n hx hb dX5_tell_32 rfl (lv_at hl 3 rfl) ?_
    refine lv_iload_n hx hb dX5_tell_33 rfl (lv_at hl 4 rfl) ?_
    refine g_csi (va_runV (As := [.int ci, .int pi, .int mi]) (rest := [.ref (b 0)]) ⟨hx, hb, hml, hown, hts⟩ (c5_isKey l D cI cZ cO cL dt A b mC mR mL mF mpar mwt mstk mflw mc mp mm mf md mv mder mkn thr R ci pi mi) (cwV 3 hts gX5_tell_X5_isKey rfl rfl rfl (by decide +kernel) ⟨Nat.le_of_ble_eq_true rfl, Nat.le_of_ble_eq_true rfl⟩) (gP.v hg hP 4 rfl (0) (rfl) hP) rfl rfl hl.1 rfl (lv_room (Nat.le_of_ble_eq_true rfl)) dX5_tell_34 ⟨Nat.le_of_ble_eq_true rfl, Nat.le_of_ble_eq_true rfl⟩) (fun r_2 hr_2 => ?_)
    obtain rfl : r_2 = bI ((0 ≤ ci ∧ ci ≤ nI mC - 1) ∧ (0 ≤ pi ∧ pi ≤ 9) ∧ (0 ≤ mi ∧ mi ≤ 3)) := hr_2
    refine lv_if_ne (tgt := 44) hx hb dX5_tell_37 (by decide) (fun c_37 => ?_) (fun c_37 => ?_)
    · skip
      have c_37 := bI_n c_37
      exact absurd c_37 hno
    · skip
      have c_37 := bI_z c_37
      refine lv_iconst (v := 1) hx hb dX5_tell_40 (by decide) ?_
      refine lv_goto (tgt := 67) hx hb dX5_tell_41 (by decide) ?_
      refine va_calli (va_runV (As := [.int 1]) (rest := []) ⟨hx, hb, hml, hown, hts⟩ (c5_can l D cI cZ cO cL dt A b mC mR mL mF mpar mwt mstk mflw mc mp mm mf md mv mder mkn thr R 1) (cwV 1 hts gX5_tell_X5_can rfl rfl rfl (by decide +kernel) ⟨Nat.le_of_ble_eq_true rfl, Nat.le_of_ble_eq_true rfl⟩) (gP.v hg hP 4 rfl (0) (rfl) (⟨hP, hD⟩)) rfl rfl hl.1 rfl (lv_room (Nat.le_of_ble_eq_true rfl)) dX5_tell_67 ⟨Nat.le_of_ble_eq_true rfl, Nat.le_of_ble_eq_true rfl⟩) hS (fun q _ h => h) (fun q h => h) (fun r_3 ur_3 tr_3 H locs htr_3 hvmr_3 hwr_3 hB hzr_3 hkr_3 hS => ?_)
      rw [htr_3] at hB
      obtain ⟨hP, hD⟩ := hB
      obtain rfl : r_3 = bI (1 = 0) := hwr_3
      have hP : va_P D vwCl (WM cI cZ b mC mR mL mF mpar mwt mstk mflw mc mp mm mf md mv mder mkn 1 ++ R) H := hP
      have hD : va_D A (WM cI cZ b mC mR mL mF mpar mwt mstk mflw mc mp mm mf md mv mder mkn 1 ++ R) := hD
      refine lv_if_ne (tgt := 75) hx hb dX5_tell_70 (by decide) (fun c_70 => ?_) (fun c_70 => ?_)
      · skip
        have c_70 := bI_n c_70
        exact absurd c_70 (by decide)
      · skip
        have c_70 := bI_z c_70
        refine lv_iconst (v := 0) hx hb dX5_tell_73 (by decide) ?_
        exact W.iret (v := 0) hx hb hr (fun t ht hW => ⟨⟨0, (), rfl, rfl, g_PD ht hP hD⟩, hS.F ht⟩) hS.2.2 dX5_tell_74
  · skip
    have c_9 := bI_n c_9
    refine lv_iload hx hb dX5_tell_12 (lv_at hl 5 rfl) ?_
    refine lv_iconst (v := 0) hx hb dX5_tell_14 (by decide) ?_
    refine lv_iconst (v := 4) hx hb dX5_tell_15 (by decide) ?_
    refine g_csi (va_runS (As := [.int di, .int 0, .int 4]) (rest := []) ⟨hx, hb, hml, hown, hts⟩ (c5_isIn l D cI cZ cO cL dt A di 0 4 (WM cI cZ b mC mR mL mF mpar mwt mstk mflw mc mp mm mf md mv mder mkn thr ++ R)) (va_cwS 3 hts gX5_tell_X5_isIn rfl rfl rfl (by decide +kernel) ⟨Nat.le_of_ble_eq_true rfl, Nat.le_of_ble_eq_true rfl⟩) (gP.s hg hP) rfl rfl hl.1 rfl (lv_room (Nat.le_of_ble_eq_true rfl)) dX5_tell_16 ⟨Nat.le_of_ble_eq_true rfl, Nat.le_of_ble_eq_true rfl⟩) (fun r_4 hr_4 => ?_)
    obtain rfl : r_4 = bI (0 ≤ di ∧ di ≤ 4) := hr_4
    refine lv_if_eq (tgt := 26) hx hb dX5_tell_19 (by decide) (fun c_19 => ?_) (fun c_19 => ?_)
    · skip
      have c_19 := bI_z c_19
      refine lv_iconst (v := 0) hx hb dX5_tell_26 (by decide) ?_
      refine lv_istore (lv' := [(6, .int 0), (0, .ref (b 0)), (1, .int ci), (2, .int pi), (3, .int mi), (4, .int vi), (5, .int di)]) hx hb dX5_tell_27 hl (by decide) rfl (fun ls hl => ?_)
      refine lv_aload_n hx hb dX5_tell_29 rfl (lv_at hl 1 rfl) ?_
      refine lv_aload_n hx hb dX5_tell_30 rfl (lv_at hl 1 rfl) ?_
      refine lv_iload_n hx hb dX5_tell_31 rfl (lv_at hl 2 rfl) ?_
      refine lv_iload_n hx hb dX5_tell_32 rfl (lv_at hl 3 rfl) ?_
      refine lv_iload_n hx hb dX5_tell_33 rfl (lv_at hl 4 rfl) ?_
      refine g_csi (va_runV (As := [.int ci, .int pi, .int mi]) (rest := [.ref (b 0)]) ⟨hx, hb, hml, hown, hts⟩ (c5_isKey l D cI cZ cO cL dt A b mC mR mL mF mpar mwt mstk mflw mc mp mm mf md mv mder mkn thr R ci pi mi) (cwV 3 hts gX5_tell_X5_isKey rfl rfl rfl (by decide +kernel) ⟨Nat.le_of_ble_eq_true rfl, Nat.le_of_ble_eq_true rfl⟩) (gP.v hg hP 4 rfl (0) (rfl) hP) rfl rfl hl.1 rfl (lv_room (Nat.le_of_ble_eq_true rfl)) dX5_tell_34 ⟨Nat.le_of_ble_eq_true rfl, Nat.le_of_ble_eq_true rfl⟩) (fun r_5 hr_5 => ?_)
      obtain rfl : r_5 = bI ((0 ≤ ci ∧ ci ≤ nI mC - 1) ∧ (0 ≤ pi ∧ pi ≤ 9) ∧ (0 ≤ mi ∧ mi ≤ 3)) := hr_5
      refine lv_if_ne (tgt := 44) hx hb dX5_tell_37 (by decide) (fun c_37 => ?_) (fun c_37 => ?_)
      · skip
        have c_37 := bI_n c_37
        exact absurd c_37 hno
      · skip
        have c_37 := bI_z c_37
        refine lv_iconst (v := 1) hx hb dX5_tell_40 (by decide) ?_
        refine lv_goto (tgt := 67) hx hb dX5_tell_41 (by decide) ?_
        refine va_calli (va_runV (As := [.int 1]) (rest := []) ⟨hx, hb, hml, hown, hts⟩ (c5_can l D cI cZ cO cL dt A b mC mR mL mF mpar mwt mstk mflw mc mp mm mf md mv mder mkn thr R 1) (cwV 1 hts gX5_tell_X5_can rfl rfl rfl (by decide +kernel) ⟨Nat.le_of_ble_eq_true rfl, Nat.le_of_ble_eq_true rfl⟩) (gP.v hg hP 4 rfl (0) (rfl) (⟨hP, hD⟩)) rfl rfl hl.1 rfl (lv_room (Nat.le_of_ble_eq_true rfl)) dX5_tell_67 ⟨Nat.le_of_ble_eq_true rfl, Nat.le_of_ble_eq_true rfl⟩) hS (fun q _ h => h) (fun q h => h) (fun r_6 ur_6 tr_6 H locs htr_6 hvmr_6 hwr_6 hB hzr_6 hkr_6 hS => ?_)
        rw [htr_6] at hB
        obtain ⟨hP, hD⟩ := hB
        obtain rfl : r_6 = bI (1 = 0) := hwr_6
        have hP : va_P D vwCl (WM cI cZ b mC mR mL mF mpar mwt mstk mflw mc mp mm mf md mv mder mkn 1 ++ R) H := hP
        have hD : va_D A (WM cI cZ b mC mR mL mF mpar mwt mstk mflw mc mp mm mf md mv mder mkn 1 ++ R) := hD
        refine lv_if_ne (tgt := 75) hx hb dX5_tell_70 (by decide) (fun c_70 => ?_) (fun c_70 => ?_)
        · skip
          have c_70 := bI_n c_70
          exact absurd c_70 (by decide)
        · skip
          have c_70 := bI_z c_70
          refine lv_iconst (v := 0) hx hb dX5_tell_73 (by decide) ?_
          exact W.iret (v := 0) hx hb hr (fun t ht hW => ⟨⟨0, (), rfl, rfl, g_PD ht hP hD⟩, hS.F ht⟩) hS.2.2 dX5_tell_74
    · skip
      have c_19 := bI_n c_19
      refine lv_iconst (v := 1) hx hb dX5_tell_22 (by decide) ?_
      refine lv_goto (tgt := 27) hx hb dX5_tell_23 (by decide) ?_
      refine lv_istore (lv' := [(6, .int 1), (0, .ref (b 0)), (1, .int ci), (2, .int pi), (3, .int mi), (4, .int vi), (5, .int di)]) hx hb dX5_tell_27 hl (by decide) rfl (fun ls hl => ?_)
      refine lv_aload_n hx hb dX5_tell_29 rfl (lv_at hl 1 rfl) ?_
      refine lv_aload_n hx hb dX5_tell_30 rfl (lv_at hl 1 rfl) ?_
      refine lv_iload_n hx hb dX5_tell_31 rfl (lv_at hl 2 rfl) ?_
      refine lv_iload_n hx hb dX5_tell_32 rfl (lv_at hl 3 rfl) ?_
      refine lv_iload_n hx hb dX5_tell_33 rfl (lv_at hl 4 rfl) ?_
      refine g_csi (va_runV (As := [.int ci, .int pi, .int mi]) (rest := [.ref (b 0)]) ⟨hx, hb, hml, hown, hts⟩ (c5_isKey l D cI cZ cO cL dt A b mC mR mL mF mpar mwt mstk mflw mc mp mm mf md mv mder mkn thr R ci pi mi) (cwV 3 hts gX5_tell_X5_isKey rfl rfl rfl (by decide +kernel) ⟨Nat.le_of_ble_eq_true rfl, Nat.le_of_ble_eq_true rfl⟩) (gP.v hg hP 4 rfl (0) (rfl) hP) rfl rfl hl.1 rfl (lv_room (Nat.le_of_ble_eq_true rfl)) dX5_tell_34 ⟨Nat.le_of_ble_eq_true rfl, Nat.le_of_ble_eq_true rfl⟩) (fun r_7 hr_7 => ?_)
      obtain rfl : r_7 = bI ((0 ≤ ci ∧ ci ≤ nI mC - 1) ∧ (0 ≤ pi ∧ pi ≤ 9) ∧ (0 ≤ mi ∧ mi ≤ 3)) := hr_7
      refine lv_if_ne (tgt := 44) hx hb dX5_tell_37 (by decide) (fun c_37 => ?_) (fun c_37 => ?_)
      · skip
        have c_37 := bI_n c_37
        exact absurd c_37 hno
      · skip
        have c_37 := bI_z c_37
        refine lv_iconst (v := 1) hx hb dX5_tell_40 (by decide) ?_
        refine lv_goto (tgt := 67) hx hb dX5_tell_41 (by decide) ?_
        refine va_calli (va_runV (As := [.int 1]) (rest := []) ⟨hx, hb, hml, hown, hts⟩ (c5_can l D cI cZ cO cL dt A b mC mR mL mF mpar mwt mstk mflw mc mp mm mf md mv mder mkn thr R 1) (cwV 1 hts gX5_tell_X5_can rfl rfl rfl (by decide +kernel) ⟨Nat.le_of_ble_eq_true rfl, Nat.le_of_ble_eq_true rfl⟩) (gP.v hg hP 4 rfl (0) (rfl) (⟨hP, hD⟩)) rfl rfl hl.1 rfl (lv_room (Nat.le_of_ble_eq_true rfl)) dX5_tell_67 ⟨Nat.le_of_ble_eq_true rfl, Nat.le_of_ble_eq_true rfl⟩) hS (fun q _ h => h) (fun q h => h) (fun r_8 ur_8 tr_8 H locs htr_8 hvmr_8 hwr_8 hB hzr_8 hkr_8 hS => ?_)
        rw [htr_8] at hB
        obtain ⟨hP, hD⟩ := hB
        obtain rfl : r_8 = bI (1 = 0) := hwr_8
        have hP : va_P D vwCl (WM cI cZ b mC mR mL mF mpar mwt mstk mflw mc mp mm mf md mv mder mkn 1 ++ R) H := hP
        have hD : va_D A (WM cI cZ b mC mR mL mF mpar mwt mstk mflw mc mp mm mf md mv mder mkn 1 ++ R) := hD
        refine lv_if_ne (tgt := 75) hx hb dX5_tell_70 (by decide) (fun c_70 => ?_) (fun c_70 => ?_)
        · skip
          have c_70 := bI_n c_70
          exact absurd c_70 (by decide)
        · skip
          have c_70 := bI_z c_70
          refine lv_iconst (v := 0) hx hb dX5_tell_73 (by decide) ?_
          exact W.iret (v := 0) hx hb hr (fun t ht hW => ⟨⟨0, (), rfl, rfl, g_PD ht hP hD⟩, hS.F ht⟩) hS.2.2 dX5_tell_74
set_option maxHeartbeats 4000000 in
set_option maxRecDepth 100000 in
/-- a value out of range -/
theorem c5_tell_2a (l : Launch) (D : va_G) (cI cZ cO cL : ClassId) (dt : Nat) (A : Nat → Prop) (b : Nat → Nat) (mC mR mL mF : Nat) (mpar mwt mstk mflw : Nat → Int32) (mc mp mm mf md : Nat → Nat) (mv mder mkn : Nat → Int32) (thr : Int32) (R : va_W) (ci pi mi vi di : Int32) (hy : (0 ≤ ci ∧ ci ≤ nI mC - 1) ∧ (0 ≤ pi ∧ pi ≤ 9) ∧ (0 ≤ mi ∧ mi ≤ 3)) (hno : ¬ ((-1000000) ≤ vi ∧ vi ≤ (1000000))) : Met l yX5_tell wsX5_tell ({ frames := 3, cells := 0, slots := 0, locals := 66 } : Room) (gP D cI cZ cO cL dt A [.ref (b 0), .int ci, .int pi, .int mi, .int vi, .int di] (fun H => va_P D vwCl (WM cI cZ b mC mR mL mF mpar mwt mstk mflw mc mp mm mf md mv mder mkn thr ++ R) H ∧ va_D A (WM cI cZ b mC mR mL mF mpar mwt mstk mflw mc mp mm mf md mv mder mkn thr ++ R))) (va_Qi (fun (r : Int32) (_ : Unit) => r = 0) (fun _ t => va_P D vwCl (WM cI cZ b mC mR mL mF mpar mwt mstk mflw mc mp mm mf md mv mder mkn 2 ++ R) t.heap ∧ va_D A (WM cI cZ b mC mR mL mF mpar mwt mstk mflw mc mp mm mf md mv mder mkn 2 ++ R)) A) 0 0 A := by
  refine Met.ofW (cc := cX5_tell) (maxL := 7) (ret := (some .int)) (by decide) rfl ?_
  intro p9 e9 s m9 args below meth c9 s₁ B hml hv
  obtain ⟨rfl, hg, hP, hD⟩ := hv
  have hx := B.exec
  have hb := B.bytes
  have hr := B.returns
  have hts := atoms_spec (ws := wsX5_tell) B.pre
  have hown : s.vm.findClass RX5 = some m9.cls := findClass_of_methodNamed B.named
  have hlocks := B.notSynchronized
  have hK := hg.1
  have hS : va_S A s.heap s.heap [] := va_S.rf
  have w_0 := hts (.constant RX5 75 (-1000000)) (by decide +kernel)
  have w_1 := hts (.constant RX5 76 (1000000)) (by decide +kernel)
  have hl := lv_entry ([.ref (b 0), .int ci, .int pi, .int mi, .int vi, .int di]) (n := 7) (Nat.le_of_ble_eq_true rfl)
  rw [lg_entry_eq]
  generalize (lg_sl ([.ref (b 0), .int ci, .int pi, .int mi, .int vi, .int di]) ++ List.replicate (7 - (lg_sl ([.ref (b 0), .int ci, .int pi, .int mi, .int vi, .int di])).length) Slot.unset).toArray = ls at hl ⊢
  have hl : lv_has ls 7 [(0, .ref (b 0)), (1, .int ci), (2, .int pi), (3, .int mi), (4, .int vi), (5, .int di)] := hl
  refine lv_iload hx hb dX5_tell_0 (lv_at hl 4 rfl) ?_
  refine lv_ldc (v := (-1000000)) hx hb hown w_0 dX5_tell_2 ?_
  refine lv_ldc (v := (1000000)) hx hb hown w_1 dX5_tell_4 ?_
  refine g_csi (va_runS (As := [.int vi, .int (-1000000), .int (1000000)]) (rest := []) ⟨hx, hb, hml, hown, hts⟩ (c5_isIn l D cI cZ cO cL dt A vi (-1000000) (1000000) (WM cI cZ b mC mR mL mF mpar mwt mstk mflw mc mp mm mf md mv mder mkn thr ++ R)) (va_cwS 3 hts gX5_tell_X5_isIn rfl rfl rfl (by decide +kernel) ⟨Nat.le_of_ble_eq_true rfl, Nat.le_of_ble_eq_true rfl⟩) (gP.s hg hP) rfl rfl hl.1 rfl (lv_room (Nat.le_of_ble_eq_true rfl)) dX5_tell_6 ⟨Nat.le_of_ble_eq_true rfl, Nat.le_of_ble_eq_true rfl⟩) (fun r_1 hr_1 => ?_)
  obtain rfl : r_1 = bI ((-1000000) ≤ vi ∧ vi ≤ (1000000)) := hr_1
  refine lv_if_eq (tgt := 26) hx hb dX5_tell_9 (by decide) (fun c_9 => ?_) (fun c_9 => ?_)
  · skip
    have c_9 := bI_z c_9
    refine lv_iconst (v := 0) hx hb dX5_tell_26 (by decide) ?_
    refine lv_istore (lv' := [(6, .int 0), (0, .ref (b 0)), (1, .int ci), (2, .int pi), (3, .int mi), (4, .int vi), (5, .int di)]) hx hb dX5_tell_27 hl (by decide) rfl (fun ls hl => ?_)
    refine lv_aload_n hx hb dX5_tell_29 rfl (lv_at hl 1 rfl) ?_
    refine lv_aload_n hx hb dX5_tell_30 rfl (lv_at hl 1 rfl) ?_
    refine lv_iload_n hx hb dX5_tell_31 rfl (lv_at hl 2 rfl) ?_
    refine lv_iload_n hx hb dX5_tell_32 rfl (lv_at hl 3 rfl) ?_
    refine lv_iload_n hx hb dX5_tell_33 rfl (lv_at hl 4 rfl) ?_
    refine g_csi (va_runV (As := [.int ci, .int pi, .int mi]) (rest := [.ref (b 0)]) ⟨hx, hb, hml, hown, hts⟩ (c5_isKey l D cI cZ cO cL dt A b mC mR mL mF mpar mwt mstk mflw mc mp mm mf md mv mder mkn thr R ci pi mi) (cwV 3 hts gX5_tell_X5_isKey rfl rfl rfl (by decide +kernel) ⟨Nat.le_of_ble_eq_true rfl, Nat.le_of_ble_eq_true rfl⟩) (gP.v hg hP 4 rfl (0) (rfl) hP) rfl rfl hl.1 rfl (lv_room (Nat.le_of_ble_eq_true rfl)) dX5_tell_34 ⟨Nat.le_of_ble_eq_true rfl, Nat.le_of_ble_eq_true rfl⟩) (fun r_2 hr_2 => ?_)
    obtain rfl : r_2 = bI ((0 ≤ ci ∧ ci ≤ nI mC - 1) ∧ (0 ≤ pi ∧ pi ≤ 9) ∧ (0 ≤ mi ∧ mi ≤ 3)) := hr_2
    refine lv_if_ne (tgt := 44) hx hb dX5_tell_37 (by decide) (fun c_37 => ?_) (fun c_37 => ?_)
    · skip
      have c_37 := bI_n c_37
      refine lv_iload hx hb dX5_tell_44 (lv_at hl 0 rfl) ?_
      refine lv_if_ne (tgt := 53) hx hb dX5_tell_46 (by decide) (fun c_46 => ?_) (fun c_46 => ?_)
      · skip
        exact absurd c_46 (by decide)
      · skip
        refine lv_iconst (v := 2) hx hb dX5_tell_49 (by decide) ?_
        refine lv_goto (tgt := 67) hx hb dX5_tell_50 (by decide) ?_
        refine va_calli (va_runV (As := [.int 2]) (rest := []) ⟨hx, hb, hml, hown, hts⟩ (c5_can l D cI cZ cO cL dt A b mC mR mL mF mpar mwt mstk mflw mc mp mm mf md mv mder mkn thr R 2) (cwV 1 hts gX5_tell_X5_can rfl rfl rfl (by decide +kernel) ⟨Nat.le_of_ble_eq_true rfl, Nat.le_of_ble_eq_true rfl⟩) (gP.v hg hP 4 rfl (0) (rfl) (⟨hP, hD⟩)) rfl rfl hl.1 rfl (lv_room (Nat.le_of_ble_eq_true rfl)) dX5_tell_67 ⟨Nat.le_of_ble_eq_true rfl, Nat.le_of_ble_eq_true rfl⟩) hS (fun q _ h => h) (fun q h => h) (fun r_3 ur_3 tr_3 H locs htr_3 hvmr_3 hwr_3 hB hzr_3 hkr_3 hS => ?_)
        rw [htr_3] at hB
        obtain ⟨hP, hD⟩ := hB
        obtain rfl : r_3 = bI (2 = 0) := hwr_3
        have hP : va_P D vwCl (WM cI cZ b mC mR mL mF mpar mwt mstk mflw mc mp mm mf md mv mder mkn 2 ++ R) H := hP
        have hD : va_D A (WM cI cZ b mC mR mL mF mpar mwt mstk mflw mc mp mm mf md mv mder mkn 2 ++ R) := hD
        refine lv_if_ne (tgt := 75) hx hb dX5_tell_70 (by decide) (fun c_70 => ?_) (fun c_70 => ?_)
        · skip
          have c_70 := bI_n c_70
          exact absurd c_70 (by decide)
        · skip
          have c_70 := bI_z c_70
          refine lv_iconst (v := 0) hx hb dX5_tell_73 (by decide) ?_
          exact W.iret (v := 0) hx hb hr (fun t ht hW => ⟨⟨0, (), rfl, rfl, g_PD ht hP hD⟩, hS.F ht⟩) hS.2.2 dX5_tell_74
    · skip
      have c_37 := bI_z c_37
      exact absurd hy c_37
  · skip
    have c_9 := bI_n c_9
    exact absurd c_9 hno
set_option maxHeartbeats 4000000 in
set_option maxRecDepth 100000 in
/-- decimals out of range -/
theorem c5_tell_2b (l : Launch) (D : va_G) (cI cZ cO cL : ClassId) (dt : Nat) (A : Nat → Prop) (b : Nat → Nat) (mC mR mL mF : Nat) (mpar mwt mstk mflw : Nat → Int32) (mc mp mm mf md : Nat → Nat) (mv mder mkn : Nat → Int32) (thr : Int32) (R : va_W) (ci pi mi vi di : Int32) (hy : (0 ≤ ci ∧ ci ≤ nI mC - 1) ∧ (0 ≤ pi ∧ pi ≤ 9) ∧ (0 ≤ mi ∧ mi ≤ 3)) (hv : (-1000000) ≤ vi ∧ vi ≤ (1000000)) (hno : ¬ (0 ≤ di ∧ di ≤ 4)) : Met l yX5_tell wsX5_tell ({ frames := 3, cells := 0, slots := 0, locals := 66 } : Room) (gP D cI cZ cO cL dt A [.ref (b 0), .int ci, .int pi, .int mi, .int vi, .int di] (fun H => va_P D vwCl (WM cI cZ b mC mR mL mF mpar mwt mstk mflw mc mp mm mf md mv mder mkn thr ++ R) H ∧ va_D A (WM cI cZ b mC mR mL mF mpar mwt mstk mflw mc mp mm mf md mv mder mkn thr ++ R))) (va_Qi (fun (r : Int32) (_ : Unit) => r = 0) (fun _ t => va_P D vwCl (WM cI cZ b mC mR mL mF mpar mwt mstk mflw mc mp mm mf md mv mder mkn 2 ++ R) t.heap ∧ va_D A (WM cI cZ b mC mR mL mF mpar mwt mstk mflw mc mp mm mf md mv mder mkn 2 ++ R)) A) 0 0 A := by
  refine Met.ofW (cc := cX5_tell) (maxL := 7) (ret := (some .int)) (by decide) rfl ?_
  intro p9 e9 s m9 args below meth c9 s₁ B hml hv
  obtain ⟨rfl, hg, hP, hD⟩ := hv
  have hx := B.exec
  have hb := B.bytes
  have hr := B.returns
  have hts := atoms_spec (ws := wsX5_tell) B.pre
  have hown : s.vm.findClass RX5 = some m9.cls := findClass_of_methodNamed B.named
  have hlocks := B.notSynchronized
  have hK := hg.1
  have hS : va_S A s.heap s.heap [] := va_S.rf
  have w_0 := hts (.constant RX5 75 (-1000000)) (by decide +kernel)
  have w_1 := hts (.constant RX5 76 (1000000)) (by decide +kernel)
  have hl := lv_entry ([.ref (b 0), .int ci, .int pi, .int mi, .int vi, .int di]) (n := 7) (Nat.le_of_ble_eq_true rfl)
  rw [lg_entry_eq]
  generalize (lg_sl ([.ref (b 0), .int ci, .int pi, .int mi, .int vi, .int di]) ++ List.replicate (7 - (lg_sl ([.ref (b 0), .int ci, .int pi, .int mi, .int vi, .int di])).length) Slot.unset).toArray = ls at hl ⊢
  have hl : lv_has ls 7 [(0, .ref (b 0)), (1, .int ci), (2, .int pi), (3, .int mi), (4, .int vi), (5, .int di)] := hl
  refine lv_iload hx hb dX5_tell_0 (lv_at hl 4 rfl) ?_
  refine lv_ldc (v := (-1000000)) hx hb hown w_0 dX5_tell_2 ?_
  refine lv_ldc (v := (1000000)) hx hb hown w_1 dX5_tell_4 ?_
  refine g_csi (va_runS (As := [.int vi, .int (-1000000), .int (1000000)]) (rest := []) ⟨hx, hb, hml, hown, hts⟩ (c5_isIn l D cI cZ cO cL dt A vi (-1000000) (1000000) (WM cI cZ b mC mR mL mF mpar mwt mstk mflw mc mp mm mf md mv mder mkn thr ++ R)) (va_cwS 3 hts gX5_tell_X5_isIn rfl rfl rfl (by decide +kernel) ⟨Nat.le_of_ble_eq_true rfl, Nat.le_of_ble_eq_true rfl⟩) (gP.s hg hP) rfl rfl hl.1 rfl (lv_room (Nat.le_of_ble_eq_true rfl)) dX5_tell_6 ⟨Nat.le_of_ble_eq_true rfl, Nat.le_of_ble_eq_true rfl⟩) (fun r_1 hr_1 => ?_)
  obtain rfl : r_1 = bI ((-1000000) ≤ vi ∧ vi ≤ (1000000)) := hr_1
  refine lv_if_eq (tgt := 26) hx hb dX5_tell_9 (by decide) (fun c_9 => ?_) (fun c_9 => ?_)
  · skip
    have c_9 := bI_z c_9
    exact absurd hv c_9
  · skip
    have c_9 := bI_n c_9
    refine lv_iload hx hb dX5_tell_12 (lv_at hl 5 rfl) ?_
    refine lv_iconst (v := 0) hx hb dX5_tell_14 (by decide) ?_
    refine lv_iconst (v := 4) hx hb dX5_tell_15 (by decide) ?_
    refine g_csi (va_runS (As := [.int di, .int 0, .int 4]) (rest := []) ⟨hx, hb, hml, hown, hts⟩ (c5_isIn l D cI cZ cO cL dt A di 0 4 (WM cI cZ b mC mR mL mF mpar mwt mstk mflw mc mp mm mf md mv mder mkn thr ++ R)) (va_cwS 3 hts gX5_tell_X5_isIn rfl rfl rfl (by decide +kernel) ⟨Nat.le_of_ble_eq_true rfl, Nat.le_of_ble_eq_true rfl⟩) (gP.s hg hP) rfl rfl hl.1 rfl (lv_room (Nat.le_of_ble_eq_true rfl)) dX5_tell_16 ⟨Nat.le_of_ble_eq_true rfl, Nat.le_of_ble_eq_true rfl⟩) (fun r_2 hr_2 => ?_)
    obtain rfl : r_2 = bI (0 ≤ di ∧ di ≤ 4) := hr_2
    refine lv_if_eq (tgt := 26) hx hb dX5_tell_19 (by decide) (fun c_19 => ?_) (fun c_19 => ?_)
    · skip
      have c_19 := bI_z c_19
      refine lv_iconst (v := 0) hx hb dX5_tell_26 (by decide) ?_
      refine lv_istore (lv' := [(6, .int 0), (0, .ref (b 0)), (1, .int ci), (2, .int pi), (3, .int mi), (4, .int vi), (5, .int di)]) hx hb dX5_tell_27 hl (by decide) rfl (fun ls hl => ?_)
      refine lv_aload_n hx hb dX5_tell_29 rfl (lv_at hl 1 rfl) ?_
      refine lv_aload_n hx hb dX5_tell_30 rfl (lv_at hl 1 rfl) ?_
      refine lv_iload_n hx hb dX5_tell_31 rfl (lv_at hl 2 rfl) ?_
      refine lv_iload_n hx hb dX5_tell_32 rfl (lv_at hl 3 rfl) ?_
      refine lv_iload_n hx hb dX5_tell_33 rfl (lv_at hl 4 rfl) ?_
      refine g_csi (va_runV (As := [.int ci, .int pi, .int mi]) (rest := [.ref (b 0)]) ⟨hx, hb, hml, hown, hts⟩ (c5_isKey l D cI cZ cO cL dt A b mC mR mL mF mpar mwt mstk mflw mc mp mm mf md mv mder mkn thr R ci pi mi) (cwV 3 hts gX5_tell_X5_isKey rfl rfl rfl (by decide +kernel) ⟨Nat.le_of_ble_eq_true rfl, Nat.le_of_ble_eq_true rfl⟩) (gP.v hg hP 4 rfl (0) (rfl) hP) rfl rfl hl.1 rfl (lv_room (Nat.le_of_ble_eq_true rfl)) dX5_tell_34 ⟨Nat.le_of_ble_eq_true rfl, Nat.le_of_ble_eq_true rfl⟩) (fun r_3 hr_3 => ?_)
      obtain rfl : r_3 = bI ((0 ≤ ci ∧ ci ≤ nI mC - 1) ∧ (0 ≤ pi ∧ pi ≤ 9) ∧ (0 ≤ mi ∧ mi ≤ 3)) := hr_3
      refine lv_if_ne (tgt := 44) hx hb dX5_tell_37 (by decide) (fun c_37 => ?_) (fun c_37 => ?_)
      · skip
        have c_37 := bI_n c_37
        refine lv_iload hx hb dX5_tell_44 (lv_at hl 0 rfl) ?_
        refine lv_if_ne (tgt := 53) hx hb dX5_tell_46 (by decide) (fun c_46 => ?_) (fun c_46 => ?_)
        · skip
          exact absurd c_46 (by decide)
        · skip
          refine lv_iconst (v := 2) hx hb dX5_tell_49 (by decide) ?_
          refine lv_goto (tgt := 67) hx hb dX5_tell_50 (by decide) ?_
          refine va_calli (va_runV (As := [.int 2]) (rest := []) ⟨hx, hb, hml, hown, hts⟩ (c5_can l D cI cZ cO cL dt A b mC mR mL mF mpar mwt mstk mflw mc mp mm mf md mv mder mkn thr R 2) (cwV 1 hts gX5_tell_X5_can rfl rfl rfl (by decide +kernel) ⟨Nat.le_of_ble_eq_true rfl, Nat.le_of_ble_eq_true rfl⟩) (gP.v hg hP 4 rfl (0) (rfl) (⟨hP, hD⟩)) rfl rfl hl.1 rfl (lv_room (Nat.le_of_ble_eq_true rfl)) dX5_tell_67 ⟨Nat.le_of_ble_eq_true rfl, Nat.le_of_ble_eq_true rfl⟩) hS (fun q _ h => h) (fun q h => h) (fun r_4 ur_4 tr_4 H locs htr_4 hvmr_4 hwr_4 hB hzr_4 hkr_4 hS => ?_)
          rw [htr_4] at hB
          obtain ⟨hP, hD⟩ := hB
          obtain rfl : r_4 = bI (2 = 0) := hwr_4
          have hP : va_P D vwCl (WM cI cZ b mC mR mL mF mpar mwt mstk mflw mc mp mm mf md mv mder mkn 2 ++ R) H := hP
          have hD : va_D A (WM cI cZ b mC mR mL mF mpar mwt mstk mflw mc mp mm mf md mv mder mkn 2 ++ R) := hD
          refine lv_if_ne (tgt := 75) hx hb dX5_tell_70 (by decide) (fun c_70 => ?_) (fun c_70 => ?_)
          · skip
            have c_70 := bI_n c_70
            exact absurd c_70 (by decide)
          · skip
            have c_70 := bI_z c_70
            refine lv_iconst (v := 0) hx hb dX5_tell_73 (by decide) ?_
            exact W.iret (v := 0) hx hb hr (fun t ht hW => ⟨⟨0, (), rfl, rfl, g_PD ht hP hD⟩, hS.F ht⟩) hS.2.2 dX5_tell_74
      · skip
        have c_37 := bI_z c_37
        exact absurd hy c_37
    · skip
      have c_19 := bI_n c_19
      exact absurd c_19 hno
set_option maxHeartbeats 4000000 in
set_option maxRecDepth 100000 in
/-- no more facts -/
theorem c5_tell_3 (l : Launch) (D : va_G) (cI cZ cO cL : ClassId) (dt : Nat) (A : Nat → Prop) (b : Nat → Nat) (mC mR mL mF : Nat) (mpar mwt mstk mflw : Nat → Int32) (mc mp mm mf md : Nat → Nat) (mv mder mkn : Nat → Int32) (thr : Int32) (R : va_W) (ci pi mi vi di : Int32) (hy : (0 ≤ ci ∧ ci ≤ nI mC - 1) ∧ (0 ≤ pi ∧ pi ≤ 9) ∧ (0 ≤ mi ∧ mi ≤ 3)) (hv : (-1000000) ≤ vi ∧ vi ≤ (1000000)) (hd : 0 ≤ di ∧ di ≤ 4) (h80 : mF = 80) : Met l yX5_tell wsX5_tell ({ frames := 3, cells := 0, slots := 0, locals := 66 } : Room) (gP D cI cZ cO cL dt A [.ref (b 0), .int ci, .int pi, .int mi, .int vi, .int di] (fun H => va_P D vwCl (WM cI cZ b mC mR mL mF mpar mwt mstk mflw mc mp mm mf md mv mder mkn thr ++ R) H ∧ va_D A (WM cI cZ b mC mR mL mF mpar mwt mstk mflw mc mp mm mf md mv mder mkn thr ++ R))) (va_Qi (fun (r : Int32) (_ : Unit) => r = 0) (fun _ t => va_P D vwCl (WM cI cZ b mC mR mL mF mpar mwt mstk mflw mc mp mm mf md mv mder mkn 3 ++ R) t.heap ∧ va_D A (WM cI cZ b mC mR mL mF mpar mwt mstk mflw mc mp mm mf md mv mder mkn 3 ++ R)) A) 0 0 A := by
  refine Met.ofW (cc := cX5_tell) (maxL := 7) (ret := (some .int)) (by decide) rfl ?_
  intro p9 e9 s m9 args below meth c9 s₁ B hml hv
  obtain ⟨rfl, hg, hP, hD⟩ := hv
  have hx := B.exec
  have hb := B.bytes
  have hr := B.returns
  have hts := atoms_spec (ws := wsX5_tell) B.pre
  have hown : s.vm.findClass RX5 = some m9.cls := findClass_of_methodNamed B.named
  have hlocks := B.notSynchronized
  have hK := hg.1
  have hS : va_S A s.heap s.heap [] := va_S.rf
  have w_0 := hts (.constant RX5 75 (-1000000)) (by decide +kernel)
  have w_1 := hts (.constant RX5 76 (1000000)) (by decide +kernel)
  have w_2 := hts (.fieldLink RX5 80 "DimfactsModel" "facts" "I") (by decide +kernel)
  have win_X5 : ∀ w ∈ wsX50, w ∈ wsX5_tell := by decide +kernel
  have hl := lv_entry ([.ref (b 0), .int ci, .int pi, .int mi, .int vi, .int di]) (n := 7) (Nat.le_of_ble_eq_true rfl)
  rw [lg_entry_eq]
  generalize (lg_sl ([.ref (b 0), .int ci, .int pi, .int mi, .int vi, .int di]) ++ List.replicate (7 - (lg_sl ([.ref (b 0), .int ci, .int pi, .int mi, .int vi, .int di])).length) Slot.unset).toArray = ls at hl ⊢
  have hl : lv_has ls 7 [(0, .ref (b 0)), (1, .int ci), (2, .int pi), (3, .int mi), (4, .int vi), (5, .int di)] := hl
  refine lv_iload hx hb dX5_tell_0 (lv_at hl 4 rfl) ?_
  refine lv_ldc (v := (-1000000)) hx hb hown w_0 dX5_tell_2 ?_
  refine lv_ldc (v := (1000000)) hx hb hown w_1 dX5_tell_4 ?_
  refine g_csi (va_runS (As := [.int vi, .int (-1000000), .int (1000000)]) (rest := []) ⟨hx, hb, hml, hown, hts⟩ (c5_isIn l D cI cZ cO cL dt A vi (-1000000) (1000000) (WM cI cZ b mC mR mL mF mpar mwt mstk mflw mc mp mm mf md mv mder mkn thr ++ R)) (va_cwS 3 hts gX5_tell_X5_isIn rfl rfl rfl (by decide +kernel) ⟨Nat.le_of_ble_eq_true rfl, Nat.le_of_ble_eq_true rfl⟩) (gP.s hg hP) rfl rfl hl.1 rfl (lv_room (Nat.le_of_ble_eq_true rfl)) dX5_tell_6 ⟨Nat.le_of_ble_eq_true rfl, Nat.le_of_ble_eq_true rfl⟩) (fun r_1 hr_1 => ?_)
  obtain rfl : r_1 = bI ((-1000000) ≤ vi ∧ vi ≤ (1000000)) := hr_1
  refine lv_if_eq (tgt := 26) hx hb dX5_tell_9 (by decide) (fun c_9 => ?_) (fun c_9 => ?_)
  · skip
    have c_9 := bI_z c_9
    exact absurd hv c_9
  · skip
    have c_9 := bI_n c_9
    refine lv_iload hx hb dX5_tell_12 (lv_at hl 5 rfl) ?_
    refine lv_iconst (v := 0) hx hb dX5_tell_14 (by decide) ?_
    refine lv_iconst (v := 4) hx hb dX5_tell_15 (by decide) ?_
    refine g_csi (va_runS (As := [.int di, .int 0, .int 4]) (rest := []) ⟨hx, hb, hml, hown, hts⟩ (c5_isIn l D cI cZ cO cL dt A di 0 4 (WM cI cZ b mC mR mL mF mpar mwt mstk mflw mc mp mm mf md mv mder mkn thr ++ R)) (va_cwS 3 hts gX5_tell_X5_isIn rfl rfl rfl (by decide +kernel) ⟨Nat.le_of_ble_eq_true rfl, Nat.le_of_ble_eq_true rfl⟩) (gP.s hg hP) rfl rfl hl.1 rfl (lv_room (Nat.le_of_ble_eq_true rfl)) dX5_tell_16 ⟨Nat.le_of_ble_eq_true rfl, Nat.le_of_ble_eq_true rfl⟩) (fun r_2 hr_2 => ?_)
    obtain rfl : r_2 = bI (0 ≤ di ∧ di ≤ 4) := hr_2
    refine lv_if_eq (tgt := 26) hx hb dX5_tell_19 (by decide) (fun c_19 => ?_) (fun c_19 => ?_)
    · skip
      have c_19 := bI_z c_19
      exact absurd hd c_19
    · skip
      have c_19 := bI_n c_19
      refine lv_iconst (v := 1) hx hb dX5_tell_22 (by decide) ?_
      refine lv_goto (tgt := 27) hx hb dX5_tell_23 (by decide) ?_
      refine lv_istore (lv' := [(6, .int 1), (0, .ref (b 0)), (1, .int ci), (2, .int pi), (3, .int mi), (4, .int vi), (5, .int di)]) hx hb dX5_tell_27 hl (by decide) rfl (fun ls hl => ?_)
      refine lv_aload_n hx hb dX5_tell_29 rfl (lv_at hl 1 rfl) ?_
      refine lv_aload_n hx hb dX5_tell_30 rfl (lv_at hl 1 rfl) ?_
      refine lv_iload_n hx hb dX5_tell_31 rfl (lv_at hl 2 rfl) ?_
      refine lv_iload_n hx hb dX5_tell_32 rfl (lv_at hl 3 rfl) ?_
      refine lv_iload_n hx hb dX5_tell_33 rfl (lv_at hl 4 rfl) ?_
      refine g_csi (va_runV (As := [.int ci, .int pi, .int mi]) (rest := [.ref (b 0)]) ⟨hx, hb, hml, hown, hts⟩ (c5_isKey l D cI cZ cO cL dt A b mC mR mL mF mpar mwt mstk mflw mc mp mm mf md mv mder mkn thr R ci pi mi) (cwV 3 hts gX5_tell_X5_isKey rfl rfl rfl (by decide +kernel) ⟨Nat.le_of_ble_eq_true rfl, Nat.le_of_ble_eq_true rfl⟩) (gP.v hg hP 4 rfl (0) (rfl) hP) rfl rfl hl.1 rfl (lv_room (Nat.le_of_ble_eq_true rfl)) dX5_tell_34 ⟨Nat.le_of_ble_eq_true rfl, Nat.le_of_ble_eq_true rfl⟩) (fun r_3 hr_3 => ?_)
      obtain rfl : r_3 = bI ((0 ≤ ci ∧ ci ≤ nI mC - 1) ∧ (0 ≤ pi ∧ pi ≤ 9) ∧ (0 ≤ mi ∧ mi ≤ 3)) := hr_3
      refine lv_if_ne (tgt := 44) hx hb dX5_tell_37 (by decide) (fun c_37 => ?_) (fun c_37 => ?_)
      · skip
        have c_37 := bI_n c_37
        refine lv_iload hx hb dX5_tell_44 (lv_at hl 0 rfl) ?_
        refine lv_if_ne (tgt := 53) hx hb dX5_tell_46 (by decide) (fun c_46 => ?_) (fun c_46 => ?_)
        · skip
          refine lv_aload_n hx hb dX5_tell_53 rfl (lv_at hl 1 rfl) ?_
          refine va_get (D := D) (ci := 4) (v := .int (nI mF)) (C := RX5) (T := TX5) (N := 17) hx hb hts win_X5 hown hK hP (0) (rfl) rfl 7 (by decide) w_2 (fun _ h9 => h9) rfl dX5_tell_54 ?_
          refine lv_bipush (v := 80) hx hb dX5_tell_57 (by decide) ?_
          refine lv_icmp_ne (tgt := 66) hx hb dX5_tell_59 (by decide) (fun c_59 => ?_) (fun c_59 => ?_)
          · skip
            exact absurd (by rw [h80]; rfl) c_59
          · skip
            refine lv_iconst (v := 3) hx hb dX5_tell_62 (by decide) ?_
            refine lv_goto (tgt := 67) hx hb dX5_tell_63 (by decide) ?_
            refine va_calli (va_runV (As := [.int 3]) (rest := []) ⟨hx, hb, hml, hown, hts⟩ (c5_can l D cI cZ cO cL dt A b mC mR mL mF mpar mwt mstk mflw mc mp mm mf md mv mder mkn thr R 3) (cwV 1 hts gX5_tell_X5_can rfl rfl rfl (by decide +kernel) ⟨Nat.le_of_ble_eq_true rfl, Nat.le_of_ble_eq_true rfl⟩) (gP.v hg hP 4 rfl (0) (rfl) (⟨hP, hD⟩)) rfl rfl hl.1 rfl (lv_room (Nat.le_of_ble_eq_true rfl)) dX5_tell_67 ⟨Nat.le_of_ble_eq_true rfl, Nat.le_of_ble_eq_true rfl⟩) hS (fun q _ h => h) (fun q h => h) (fun r_4 ur_4 tr_4 H locs htr_4 hvmr_4 hwr_4 hB hzr_4 hkr_4 hS => ?_)
            rw [htr_4] at hB
            obtain ⟨hP, hD⟩ := hB
            obtain rfl : r_4 = bI (3 = 0) := hwr_4
            have hP : va_P D vwCl (WM cI cZ b mC mR mL mF mpar mwt mstk mflw mc mp mm mf md mv mder mkn 3 ++ R) H := hP
            have hD : va_D A (WM cI cZ b mC mR mL mF mpar mwt mstk mflw mc mp mm mf md mv mder mkn 3 ++ R) := hD
            refine lv_if_ne (tgt := 75) hx hb dX5_tell_70 (by decide) (fun c_70 => ?_) (fun c_70 => ?_)
            · skip
              have c_70 := bI_n c_70
              exact absurd c_70 (by decide)
            · skip
              have c_70 := bI_z c_70
              refine lv_iconst (v := 0) hx hb dX5_tell_73 (by decide) ?_
              exact W.iret (v := 0) hx hb hr (fun t ht hW => ⟨⟨0, (), rfl, rfl, g_PD ht hP hD⟩, hS.F ht⟩) hS.2.2 dX5_tell_74
        · skip
          exact absurd c_46 (by decide)
      · skip
        have c_37 := bI_z c_37
        exact absurd hy c_37
set_option maxHeartbeats 4000000 in
set_option maxRecDepth 100000 in
/-- a fact more -/
theorem c5_tell_0 (l : Launch) (D : va_G) (cI cZ cO cL : ClassId) (dt : Nat) (A : Nat → Prop) (b : Nat → Nat) (mC mR mL mF : Nat) (mpar mwt mstk mflw : Nat → Int32) (mc mp mm mf md : Nat → Nat) (mv mder mkn : Nat → Int32) (thr : Int32) (R : va_W) (c p m d : Nat) (vi : Int32) (hy : (0 ≤ (nI c) ∧ (nI c) ≤ nI mC - 1) ∧ (0 ≤ (nI p) ∧ (nI p) ≤ 9) ∧ (0 ≤ (nI m) ∧ (nI m) ≤ 3)) (hv : (-1000000) ≤ vi ∧ vi ≤ (1000000)) (hd : 0 ≤ (nI d) ∧ (nI d) ≤ 4) (h80 : mF < 80) : Met l yX5_tell wsX5_tell ({ frames := 3, cells := 0, slots := 0, locals := 66 } : Room) (gP D cI cZ cO cL dt A [.ref (b 0), .int (nI c), .int (nI p), .int (nI m), .int vi, .int (nI d)] (fun H => va_P D vwCl (WM cI cZ b mC mR mL mF mpar mwt mstk mflw mc mp mm mf md mv mder mkn thr ++ R) H ∧ va_D A (WM cI cZ b mC mR mL mF mpar mwt mstk mflw mc mp mm mf md mv mder mkn thr ++ R))) (va_Qi (fun (r : Int32) (_ : Unit) => r = nI (mF + 1)) (fun _ t => va_P D vwCl (WM cI cZ b mC mR mL (mF + 1) mpar mwt mstk mflw (va_up mc mF c) (va_up mp mF p) (va_up mm mF m) (va_up mf mF mL) (va_up md mF d) (upd mv mF vi) mder mkn 0 ++ R) t.heap ∧ va_D A (WM cI cZ b mC mR mL (mF + 1) mpar mwt mstk mflw (va_up mc mF c) (va_up mp mF p) (va_up mm mF m) (va_up mf mF mL) (va_up md mF d) (upd mv mF vi) mder mkn 0 ++ R)) A) 0 0 A := by
  refine Met.ofW (cc := cX5_tell) (maxL := 7) (ret := (some .int)) (by decide) rfl ?_
  intro p9 e9 s m9 args below meth c9 s₁ B hml hv
  obtain ⟨rfl, hg, hP, hD⟩ := hv
  have hx := B.exec
  have hb := B.bytes
  have hr := B.returns
  have hts := atoms_spec (ws := wsX5_tell) B.pre
  have hown : s.vm.findClass RX5 = some m9.cls := findClass_of_methodNamed B.named
  have hlocks := B.notSynchronized
  have hK := hg.1
  have hS : va_S A s.heap s.heap [] := va_S.rf
  have w_0 := hts (.constant RX5 75 (-1000000)) (by decide +kernel)
  have w_1 := hts (.constant RX5 76 (1000000)) (by decide +kernel)
  have w_2 := hts (.fieldLink RX5 80 "DimfactsModel" "facts" "I") (by decide +kernel)
  have win_X5 : ∀ w ∈ wsX50, w ∈ wsX5_tell := by decide +kernel
  have w_4 := hts (.fieldLink RX5 26 "DimfactsModel" "concept" "[I") (by decide +kernel)
  have w_5 := hts (.fieldLink RX5 29 "DimfactsModel" "period" "[I") (by decide +kernel)
  have w_6 := hts (.fieldLink RX5 32 "DimfactsModel" "member" "[I") (by decide +kernel)
  have w_7 := hts (.fieldLink RX5 35 "DimfactsModel" "filed" "[I") (by decide +kernel)
  have w_8 := hts (.fieldLink RX5 22 "DimfactsModel" "filings" "I") (by decide +kernel)
  have w_9 := hts (.fieldLink RX5 38 "DimfactsModel" "value" "[I") (by decide +kernel)
  have w_10 := hts (.fieldLink RX5 41 "DimfactsModel" "decimals" "[I") (by decide +kernel)
  have hl := lv_entry ([.ref (b 0), .int (nI c), .int (nI p), .int (nI m), .int vi, .int (nI d)]) (n := 7) (Nat.le_of_ble_eq_true rfl)
  rw [lg_entry_eq]
  generalize (lg_sl ([.ref (b 0), .int (nI c), .int (nI p), .int (nI m), .int vi, .int (nI d)]) ++ List.replicate (7 - (lg_sl ([.ref (b 0), .int (nI c), .int (nI p), .int (nI m), .int vi, .int (nI d)])).length) Slot.unset).toArray = ls at hl ⊢
  have hl : lv_has ls 7 [(0, .ref (b 0)), (1, .int (nI c)), (2, .int (nI p)), (3, .int (nI m)), (4, .int vi), (5, .int (nI d))] := hl
  refine lv_iload hx hb dX5_tell_0 (lv_at hl 4 rfl) ?_
  refine lv_ldc (v := (-1000000)) hx hb hown w_0 dX5_tell_2 ?_
  refine lv_ldc (v := (1000000)) hx hb hown w_1 dX5_tell_4 ?_
  refine g_csi (va_runS (As := [.int vi, .int (-1000000), .int (1000000)]) (rest := []) ⟨hx, hb, hml, hown, hts⟩ (c5_isIn l D cI cZ cO cL dt A vi (-1000000) (1000000) (WM cI cZ b mC mR mL mF mpar mwt mstk mflw mc mp mm mf md mv mder mkn thr ++ R)) (va_cwS 3 hts gX5_tell_X5_isIn rfl rfl rfl (by decide +kernel) ⟨Nat.le_of_ble_eq_true rfl, Nat.le_of_ble_eq_true rfl⟩) (gP.s hg hP) rfl rfl hl.1 rfl (lv_room (Nat.le_of_ble_eq_true rfl)) dX5_tell_6 ⟨Nat.le_of_ble_eq_true rfl, Nat.le_of_ble_eq_true rfl⟩) (fun r_1 hr_1 => ?_)
  obtain rfl : r_1 = bI ((-1000000) ≤ vi ∧ vi ≤ (1000000)) := hr_1
  refine lv_if_eq (tgt := 26) hx hb dX5_tell_9 (by decide) (fun c_9 => ?_) (fun c_9 => ?_)
  · skip
    have c_9 := bI_z c_9
    exact absurd hv c_9
  · skip
    have c_9 := bI_n c_9
    refine lv_iload hx hb dX5_tell_12 (lv_at hl 5 rfl) ?_
    refine lv_iconst (v := 0) hx hb dX5_tell_14 (by decide) ?_
    refine lv_iconst (v := 4) hx hb dX5_tell_15 (by decide) ?_
    refine g_csi (va_runS (As := [.int (nI d), .int 0, .int 4]) (rest := []) ⟨hx, hb, hml, hown, hts⟩ (c5_isIn l D cI cZ cO cL dt A (nI d) 0 4 (WM cI cZ b mC mR mL mF mpar mwt mstk mflw mc mp mm mf md mv mder mkn thr ++ R)) (va_cwS 3 hts gX5_tell_X5_isIn rfl rfl rfl (by decide +kernel) ⟨Nat.le_of_ble_eq_true rfl, Nat.le_of_ble_eq_true rfl⟩) (gP.s hg hP) rfl rfl hl.1 rfl (lv_room (Nat.le_of_ble_eq_true rfl)) dX5_tell_16 ⟨Nat.le_of_ble_eq_true rfl, Nat.le_of_ble_eq_true rfl⟩) (fun r_2 hr_2 => ?_)
    obtain rfl : r_2 = bI (0 ≤ (nI d) ∧ (nI d) ≤ 4) := hr_2
    refine lv_if_eq (tgt := 26) hx hb dX5_tell_19 (by decide) (fun c_19 => ?_) (fun c_19 => ?_)
    · skip
      have c_19 := bI_z c_19
      exact absurd hd c_19
    · skip
      have c_19 := bI_n c_19
      refine lv_iconst (v := 1) hx hb dX5_tell_22 (by decide) ?_
      refine lv_goto (tgt := 27) hx hb dX5_tell_23 (by decide) ?_
      refine lv_istore (lv' := [(6, .int 1), (0, .ref (b 0)), (1, .int (nI c)), (2, .int (nI p)), (3, .int (nI m)), (4, .int vi), (5, .int (nI d))]) hx hb dX5_tell_27 hl (by decide) rfl (fun ls hl => ?_)
      refine lv_aload_n hx hb dX5_tell_29 rfl (lv_at hl 1 rfl) ?_
      refine lv_aload_n hx hb dX5_tell_30 rfl (lv_at hl 1 rfl) ?_
      refine lv_iload_n hx hb dX5_tell_31 rfl (lv_at hl 2 rfl) ?_
      refine lv_iload_n hx hb dX5_tell_32 rfl (lv_at hl 3 rfl) ?_
      refine lv_iload_n hx hb dX5_tell_33 rfl (lv_at hl 4 rfl) ?_
      refine g_csi (va_runV (As := [.int (nI c), .int (nI p), .int (nI m)]) (rest := [.ref (b 0)]) ⟨hx, hb, hml, hown, hts⟩ (c5_isKey l D cI cZ cO cL dt A b mC mR mL mF mpar mwt mstk mflw mc mp mm mf md mv mder mkn thr R (nI c) (nI p) (nI m)) (cwV 3 hts gX5_tell_X5_isKey rfl rfl rfl (by decide +kernel) ⟨Nat.le_of_ble_eq_true rfl, Nat.le_of_ble_eq_true rfl⟩) (gP.v hg hP 4 rfl (0) (rfl) hP) rfl rfl hl.1 rfl (lv_room (Nat.le_of_ble_eq_true rfl)) dX5_tell_34 ⟨Nat.le_of_ble_eq_true rfl, Nat.le_of_ble_eq_true rfl⟩) (fun r_3 hr_3 => ?_)
      obtain rfl : r_3 = bI ((0 ≤ (nI c) ∧ (nI c) ≤ nI mC - 1) ∧ (0 ≤ (nI p) ∧ (nI p) ≤ 9) ∧ (0 ≤ (nI m) ∧ (nI m) ≤ 3)) := hr_3
      refine lv_if_ne (tgt := 44) hx hb dX5_tell_37 (by decide) (fun c_37 => ?_) (fun c_37 => ?_)
      · skip
        have c_37 := bI_n c_37
        refine lv_iload hx hb dX5_tell_44 (lv_at hl 0 rfl) ?_
        refine lv_if_ne (tgt := 53) hx hb dX5_tell_46 (by decide) (fun c_46 => ?_) (fun c_46 => ?_)
        · skip
          refine lv_aload_n hx hb dX5_tell_53 rfl (lv_at hl 1 rfl) ?_
          refine va_get (D := D) (ci := 4) (v := .int (nI mF)) (C := RX5) (T := TX5) (N := 17) hx hb hts win_X5 hown hK hP (0) (rfl) rfl 7 (by decide) w_2 (fun _ h9 => h9) rfl dX5_tell_54 ?_
          refine lv_bipush (v := 80) hx hb dX5_tell_57 (by decide) ?_
          refine lv_icmp_ne (tgt := 66) hx hb dX5_tell_59 (by decide) (fun c_59 => ?_) (fun c_59 => ?_)
          · skip
            refine lv_iconst (v := 0) hx hb dX5_tell_66 (by decide) ?_
            refine va_calli (va_runV (As := [.int 0]) (rest := []) ⟨hx, hb, hml, hown, hts⟩ (c5_can l D cI cZ cO cL dt A b mC mR mL mF mpar mwt mstk mflw mc mp mm mf md mv mder mkn thr R 0) (cwV 1 hts gX5_tell_X5_can rfl rfl rfl (by decide +kernel) ⟨Nat.le_of_ble_eq_true rfl, Nat.le_of_ble_eq_true rfl⟩) (gP.v hg hP 4 rfl (0) (rfl) (⟨hP, hD⟩)) rfl rfl hl.1 rfl (lv_room (Nat.le_of_ble_eq_true rfl)) dX5_tell_67 ⟨Nat.le_of_ble_eq_true rfl, Nat.le_of_ble_eq_true rfl⟩) hS (fun q _ h => h) (fun q h => h) (fun r_4 ur_4 tr_4 H locs htr_4 hvmr_4 hwr_4 hB hzr_4 hkr_4 hS => ?_)
            rw [htr_4] at hB
            obtain ⟨hP, hD⟩ := hB
            obtain rfl : r_4 = bI (0 = 0) := hwr_4
            have hP : va_P D vwCl (WM cI cZ b mC mR mL mF mpar mwt mstk mflw mc mp mm mf md mv mder mkn 0 ++ R) H := hP
            have hD : va_D A (WM cI cZ b mC mR mL mF mpar mwt mstk mflw mc mp mm mf md mv mder mkn 0 ++ R) := hD
            refine lv_if_ne (tgt := 75) hx hb dX5_tell_70 (by decide) (fun c_70 => ?_) (fun c_70 => ?_)
            · skip
              have c_70 := bI_n c_70
              refine lv_aload_n hx hb dX5_tell_75 rfl (lv_at hl 1 rfl) ?_
              refine va_get (D := D) (ci := 4) (v := .ref (b 5)) (C := RX5) (T := TX5) (N := 17) hx hb hts win_X5 hown hK hP (0) (rfl) rfl 8 (by decide) w_4 (fun _ h9 => h9) rfl dX5_tell_76 ?_
              refine lv_aload_n hx hb dX5_tell_79 rfl (lv_at hl 1 rfl) ?_
              refine va_get (D := D) (ci := 4) (v := .int (nI mF)) (C := RX5) (T := TX5) (N := 17) hx hb hts win_X5 hown hK hP (0) (rfl) rfl 7 (by decide) w_2 (fun _ h9 => h9) rfl dX5_tell_80 ?_
              refine lv_iload_n hx hb dX5_tell_83 rfl (lv_at hl 2 rfl) ?_
              refine g_iast hx hb hK hP hD hS (5) 0 (n := 80) (f := (fun k => nI (mc k))) (rfl) rfl mF rfl (by omega) (by decide) dX5_tell_84 (WM cI cZ b mC mR mL mF mpar mwt mstk mflw (va_up mc mF c) mp mm mf md mv mder mkn 0 ++ R) (by rw [upd_nI]; rfl) (fun H locs hP hD hS => ?_)
              refine lv_aload_n hx hb dX5_tell_85 rfl (lv_at hl 1 rfl) ?_
              refine va_get (D := D) (ci := 4) (v := .ref (b 6)) (C := RX5) (T := TX5) (N := 17) hx hb hts win_X5 hown hK hP (0) (rfl) rfl 9 (by decide) w_5 (fun _ h9 => h9) rfl dX5_tell_86 ?_
              refine lv_aload_n hx hb dX5_tell_89 rfl (lv_at hl 1 rfl) ?_
              refine va_get (D := D) (ci := 4) (v := .int (nI mF)) (C := RX5) (T := TX5) (N := 17) hx hb hts win_X5 hown hK hP (0) (rfl) rfl 7 (by decide) w_2 (fun _ h9 => h9) rfl dX5_tell_90 ?_
              refine lv_iload_n hx hb dX5_tell_93 rfl (lv_at hl 3 rfl) ?_
              refine g_iast hx hb hK hP hD hS (6) 0 (n := 80) (f := (fun k => nI (mp k))) (rfl) rfl mF rfl (by omega) (by decide) dX5_tell_94 (WM cI cZ b mC mR mL mF mpar mwt mstk mflw (va_up mc mF c) (va_up mp mF p) mm mf md mv mder mkn 0 ++ R) (by rw [upd_nI]; rfl) (fun H locs hP hD hS => ?_)
              refine lv_aload_n hx hb dX5_tell_95 rfl (lv_at hl 1 rfl) ?_
              refine va_get (D := D) (ci := 4) (v := .ref (b 7)) (C := RX5) (T := TX5) (N := 17) hx hb hts win_X5 hown hK hP (0) (rfl) rfl 10 (by decide) w_6 (fun _ h9 => h9) rfl dX5_tell_96 ?_
              refine lv_aload_n hx hb dX5_tell_99 rfl (lv_at hl 1 rfl) ?_
              refine va_get (D := D) (ci := 4) (v := .int (nI mF)) (C := RX5) (T := TX5) (N := 17) hx hb hts win_X5 hown hK hP (0) (rfl) rfl 7 (by decide) w_2 (fun _ h9 => h9) rfl dX5_tell_100 ?_
              refine lv_iload_n hx hb dX5_tell_103 rfl (lv_at hl 4 rfl) ?_
              refine g_iast hx hb hK hP hD hS (7) 0 (n := 80) (f := (fun k => nI (mm k))) (rfl) rfl mF rfl (by omega) (by decide) dX5_tell_104 (WM cI cZ b mC mR mL mF mpar mwt mstk mflw (va_up mc mF c) (va_up mp mF p) (va_up mm mF m) mf md mv mder mkn 0 ++ R) (by rw [upd_nI]; rfl) (fun H locs hP hD hS => ?_)
              refine lv_aload_n hx hb dX5_tell_105 rfl (lv_at hl 1 rfl) ?_
              refine va_get (D := D) (ci := 4) (v := .ref (b 8)) (C := RX5) (T := TX5) (N := 17) hx hb hts win_X5 hown hK hP (0) (rfl) rfl 11 (by decide) w_7 (fun _ h9 => h9) rfl dX5_tell_106 ?_
              refine lv_aload_n hx hb dX5_tell_109 rfl (lv_at hl 1 rfl) ?_
              refine va_get (D := D) (ci := 4) (v := .int (nI mF)) (C := RX5) (T := TX5) (N := 17) hx hb hts win_X5 hown hK hP (0) (rfl) rfl 7 (by decide) w_2 (fun _ h9 => h9) rfl dX5_tell_110 ?_
              refine lv_aload_n hx hb dX5_tell_113 rfl (lv_at hl 1 rfl) ?_
              refine va_get (D := D) (ci := 4) (v := .int (nI (mL + 1))) (C := RX5) (T := TX5) (N := 17) hx hb hts win_X5 hown hK hP (0) (rfl) rfl 6 (by decide) w_8 (fun _ h9 => h9) rfl dX5_tell_114 ?_
              refine lv_iconst (v := 1) hx hb dX5_tell_117 (by decide) ?_
              refine lv_isub hx hb dX5_tell_118 ?_
              refine lv_topi (fun dv edv => ?_)
              obtain rfl : dv = nI mL := by rw [edv]; exact nI_pred mL
              refine g_iast hx hb hK hP hD hS (8) 0 (n := 80) (f := (fun k => nI (mf k))) (rfl) rfl mF rfl (by omega) (by decide) dX5_tell_119 (WM cI cZ b mC mR mL mF mpar mwt mstk mflw (va_up mc mF c) (va_up mp mF p) (va_up mm mF m) (va_up mf mF mL) md mv mder mkn 0 ++ R) (by rw [upd_nI]; rfl) (fun H locs hP hD hS => ?_)
              refine lv_aload_n hx hb dX5_tell_120 rfl (lv_at hl 1 rfl) ?_
              refine va_get (D := D) (ci := 4) (v := .ref (b 9)) (C := RX5) (T := TX5) (N := 17) hx hb hts win_X5 hown hK hP (0) (rfl) rfl 12 (by decide) w_9 (fun _ h9 => h9) rfl dX5_tell_121 ?_
              refine lv_aload_n hx hb dX5_tell_124 rfl (lv_at hl 1 rfl) ?_
              refine va_get (D := D) (ci := 4) (v := .int (nI mF)) (C := RX5) (T := TX5) (N := 17) hx hb hts win_X5 hown hK hP (0) (rfl) rfl 7 (by decide) w_2 (fun _ h9 => h9) rfl dX5_tell_125 ?_
              refine lv_iload hx hb dX5_tell_128 (lv_at hl 5 rfl) ?_
              refine g_iast hx hb hK hP hD hS (9) 0 (n := 80) (f := mv) (rfl) rfl mF rfl (by omega) (by decide) dX5_tell_130 (WM cI cZ b mC mR mL mF mpar mwt mstk mflw (va_up mc mF c) (va_up mp mF p) (va_up mm mF m) (va_up mf mF mL) md (upd mv mF vi) mder mkn 0 ++ R) rfl (fun H locs hP hD hS => ?_)
              refine lv_aload_n hx hb dX5_tell_131 rfl (lv_at hl 1 rfl) ?_
              refine va_get (D := D) (ci := 4) (v := .ref (b 10)) (C := RX5) (T := TX5) (N := 17) hx hb hts win_X5 hown hK hP (0) (rfl) rfl 13 (by decide) w_10 (fun _ h9 => h9) rfl dX5_tell_132 ?_
              refine lv_aload_n hx hb dX5_tell_135 rfl (lv_at hl 1 rfl) ?_
              refine va_get (D := D) (ci := 4) (v := .int (nI mF)) (C := RX5) (T := TX5) (N := 17) hx hb hts win_X5 hown hK hP (0) (rfl) rfl 7 (by decide) w_2 (fun _ h9 => h9) rfl dX5_tell_136 ?_
              refine lv_iload hx hb dX5_tell_139 (lv_at hl 6 rfl) ?_
              refine g_iast hx hb hK hP hD hS (10) 0 (n := 80) (f := (fun k => nI (md k))) (rfl) rfl mF rfl (by omega) (by decide) dX5_tell_141 (WM cI cZ b mC mR mL mF mpar mwt mstk mflw (va_up mc mF c) (va_up mp mF p) (va_up mm mF m) (va_up mf mF mL) (va_up md mF d) (upd mv mF vi) mder mkn 0 ++ R) (by rw [upd_nI]; rfl) (fun H locs hP hD hS => ?_)
              refine lv_aload_n hx hb dX5_tell_142 rfl (lv_at hl 1 rfl) ?_
              refine lv_dup hx hb dX5_tell_143 rfl ?_
              refine va_get (D := D) (ci := 4) (v := .int (nI mF)) (C := RX5) (T := TX5) (N := 17) hx hb hts win_X5 hown hK hP (0) (rfl) rfl 7 (by decide) w_2 (fun _ h9 => h9) rfl dX5_tell_144 ?_
              refine lv_iconst (v := 1) hx hb dX5_tell_147 (by decide) ?_
              refine lv_iadd hx hb dX5_tell_148 ?_
              refine lv_topi (fun dv edv => ?_)
              obtain rfl : dv = nI (mF + 1) := by rw [edv]; exact nI_1 mF
              refine va_put (D := D) (ci := 4) (v := .int (nI (mF + 1))) (ty := .int) (C := RX5) (T := TX5) (N := 17) hx hb hts win_X5 tyX5 tyX5_ok nmX5 hown hK hP hD hS (0) (rfl) rfl 7 (by decide) w_2 (fun _ h9 => h9) rfl (by decide +kernel) rfl rfl (Nat.le_of_ble_eq_true rfl) dX5_tell_149 (fun H locs hP hD hS => ?_)
              have hP : va_P D vwCl (WM cI cZ b mC mR mL (mF + 1) mpar mwt mstk mflw (va_up mc mF c) (va_up mp mF p) (va_up mm mF m) (va_up mf mF mL) (va_up md mF d) (upd mv mF vi) mder mkn 0 ++ R) H := hP
              have hD : va_D A (WM cI cZ b mC mR mL (mF + 1) mpar mwt mstk mflw (va_up mc mF c) (va_up mp mF p) (va_up mm mF m) (va_up mf mF mL) (va_up md mF d) (upd mv mF vi) mder mkn 0 ++ R) := hD
              refine lv_aload_n hx hb dX5_tell_152 rfl (lv_at hl 1 rfl) ?_
              refine va_get (D := D) (ci := 4) (v := .int (nI (mF + 1))) (C := RX5) (T := TX5) (N := 17) hx hb hts win_X5 hown hK hP (0) (rfl) rfl 7 (by decide) w_2 (fun _ h9 => h9) rfl dX5_tell_153 ?_
              exact W.iret (v := nI (mF + 1)) hx hb hr (fun t ht hW => ⟨⟨nI (mF + 1), (), rfl, rfl, g_PD ht hP hD⟩, hS.F ht⟩) hS.2.2 dX5_tell_156
            · skip
              have c_70 := bI_z c_70
              exact absurd (by decide) c_70
          · skip
            exact absurd ((nI_eq (b := 80) (by omega) (by decide)).mp c_59) (by omega)
        · skip
          exact absurd c_46 (by decide)
      · skip
        have c_37 := bI_z c_37
        exact absurd hy c_37
