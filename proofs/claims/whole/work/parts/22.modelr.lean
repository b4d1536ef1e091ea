set_option maxHeartbeats 4000000 in
set_option maxRecDepth 100000 in
/-- not there -/
theorem c5_value_1 (l : Launch) (D : va_G) (cI cZ cO cL : ClassId) (dt : Nat) (A : Nat → Prop) (b : Nat → Nat) (mC mR mL mF : Nat) (mpar mwt mstk mflw : Nat → Int32) (mc mp mm mf md : Nat → Nat) (mv mder mkn : Nat → Int32) (thr : Int32) (R : va_W) (ci pi mi fi : Int32) (hno : ¬ (((0 ≤ ci ∧ ci ≤ nI mC - 1) ∧ (0 ≤ pi ∧ pi ≤ 9) ∧ (0 ≤ mi ∧ mi ≤ 3)) ∧ (0 ≤ fi ∧ fi ≤ nI (mL + 1) - 1))) : Met l yX5_value wsX5_value ({ frames := 4, cells := 0, slots := 0, locals := 90 } : Room) (gP D cI cZ cO cL dt A [.ref (b 0), .int ci, .int pi, .int mi, .int fi] (fun H => va_P D vwCl (WM cI cZ b mC mR mL mF mpar mwt mstk mflw mc mp mm mf md mv mder mkn thr ++ R) H ∧ va_D A (WM cI cZ b mC mR mL mF mpar mwt mstk mflw mc mp mm mf md mv mder mkn thr ++ R))) (va_Qi (fun (r : Int32) (_ : Unit) => r = 0) (fun _ t => va_P D vwCl (WM cI cZ b mC mR mL mF mpar mwt mstk mflw mc mp mm mf md mv mder mkn 1 ++ R) t.heap ∧ va_D A (WM cI cZ b mC mR mL mF mpar mwt mstk mflw mc mp mm mf md mv mder mkn 1 ++ R)) A) 0 0 A := by
  refine Met.ofW (cc := cX5_value) (maxL := 7) (ret := (some .int)) (by decide) rfl ?_
  intro p9 e9 s m9 args below meth c9 s₁ B hml hv
  obtain ⟨rfl, hg, hP, hD⟩ := hv
  have hx := B.exec
  have hb := B.bytes
  have hr := B.returns
  have hts := atoms_spec (ws := wsX5_value) B.pre
  have hown : s.vm.findClass RX5 = some m9.cls := findClass_of_methodNamed B.named
  have hlocks := B.notSynchronized
  have hK := hg.1
  have hS : va_S A s.heap s.heap [] := va_S.rf
  have hl := lv_entry ([.ref (b 0), .int ci, .int pi, .int mi, .int fi]) (n := 7) (Nat.le_of_ble_eq_true rfl)
  rw [lg_entry_eq]
  generalize (lg_sl ([.ref (b 0), .int ci, .int pi, .int mi, .int fi]) ++ List.replicate (7 - (lg_sl ([.ref (b 0), .int ci, .int pi, .int mi, .int fi])).length) Slot.unset).toArray = ls at hl ⊢
  have hl : lv_has ls 7 [(0, .ref (b 0)), (1, .int ci), (2, .int pi), (3, .int mi), (4, .int fi)] := hl
  refine lv_aload_n hx hb dX5_value_0 rfl (lv_at hl 0 rfl) ?_
  refine lv_iload_n hx hb dX5_value_1 rfl (lv_at hl 1 rfl) ?_
  refine lv_iload_n hx hb dX5_value_2 rfl (lv_at hl 2 rfl) ?_
  refine lv_iload_n hx hb dX5_value_3 rfl (lv_at hl 3 rfl) ?_
  refine lv_iload hx hb dX5_value_4 (lv_at hl 4 rfl) ?_
  refine g_csi (va_runV (As := [.int ci, .int pi, .int mi, .int fi]) (rest := []) ⟨hx, hb, hml, hown, hts⟩ (c5_isAsked l D cI cZ cO cL dt A b mC mR mL mF mpar mwt mstk mflw mc mp mm mf md mv mder mkn thr R ci pi mi fi) (cwV 4 hts gX5_value_X5_isAsked rfl rfl rfl (by decide +kernel) ⟨Nat.le_of_ble_eq_true rfl, Nat.le_of_ble_eq_true rfl⟩) (gP.v hg hP 4 rfl (0) (rfl) hP) rfl rfl hl.1 rfl (lv_room (Nat.le_of_ble_eq_true rfl)) dX5_value_6 ⟨Nat.le_of_ble_eq_true rfl, Nat.le_of_ble_eq_true rfl⟩) (fun r_1 hr_1 => ?_)
  obtain rfl : r_1 = bI (((0 ≤ ci ∧ ci ≤ nI mC - 1) ∧ (0 ≤ pi ∧ pi ≤ 9) ∧ (0 ≤ mi ∧ mi ≤ 3)) ∧ (0 ≤ fi ∧ fi ≤ nI (mL + 1) - 1)) := hr_1
  refine lv_istore (lv' := [(5, .int (bI (((0 ≤ ci ∧ ci ≤ nI mC - 1) ∧ (0 ≤ pi ∧ pi ≤ 9) ∧ (0 ≤ mi ∧ mi ≤ 3)) ∧ (0 ≤ fi ∧ fi ≤ nI (mL + 1) - 1)))), (0, .ref (b 0)), (1, .int ci), (2, .int pi), (3, .int mi), (4, .int fi)]) hx hb dX5_value_9 hl (by decide) rfl (fun ls hl => ?_)
  refine lv_iload hx hb dX5_value_11 (lv_at hl 0 rfl) ?_
  refine lv_if_eq (tgt := 28) hx hb dX5_value_13 (by decide) (fun c_13 => ?_) (fun c_13 => ?_)
  · skip
    have c_13 := bI_z c_13
    refine lv_iconst (v := (-1)) hx hb dX5_value_28 (by decide) ?_
    refine lv_istore (lv' := [(6, .int (-1)), (5, .int (bI (((0 ≤ ci ∧ ci ≤ nI mC - 1) ∧ (0 ≤ pi ∧ pi ≤ 9) ∧ (0 ≤ mi ∧ mi ≤ 3)) ∧ (0 ≤ fi ∧ fi ≤ nI (mL + 1) - 1)))), (0, .ref (b 0)), (1, .int ci), (2, .int pi), (3, .int mi), (4, .int fi)]) hx hb dX5_value_29 hl (by decide) rfl (fun ls hl => ?_)
    refine lv_aload_n hx hb dX5_value_31 rfl (lv_at hl 2 rfl) ?_
    refine lv_iload hx hb dX5_value_32 (lv_at hl 1 rfl) ?_
    refine lv_if_ne (tgt := 41) hx hb dX5_value_34 (by decide) (fun c_34 => ?_) (fun c_34 => ?_)
    · skip
      have c_34 := bI_n c_34
      exact absurd c_34 hno
    · skip
      have c_34 := bI_z c_34
      refine lv_iconst (v := 1) hx hb dX5_value_37 (by decide) ?_
      refine lv_goto (tgt := 52) hx hb dX5_value_38 (by decide) ?_
      refine va_calli (va_runV (As := [.int 1]) (rest := []) ⟨hx, hb, hml, hown, hts⟩ (c5_can l D cI cZ cO cL dt A b mC mR mL mF mpar mwt mstk mflw mc mp mm mf md mv mder mkn thr R 1) (cwV 1 hts gX5_value_X5_can rfl rfl rfl (by decide +kernel) ⟨Nat.le_of_ble_eq_true rfl, Nat.le_of_ble_eq_true rfl⟩) (gP.v hg hP 4 rfl (0) (rfl) (⟨hP, hD⟩)) rfl rfl hl.1 rfl (lv_room (Nat.le_of_ble_eq_true rfl)) dX5_value_52 ⟨Nat.le_of_ble_eq_true rfl, Nat.le_of_ble_eq_true rfl⟩) hS (fun q _ h => h) (fun q h => h) (fun r_2 ur_2 tr_2 H locs htr_2 hvmr_2 hwr_2 hB hzr_2 hkr_2 hS => ?_)
      rw [htr_2] at hB
      obtain ⟨hP, hD⟩ := hB
      obtain rfl : r_2 = bI (1 = 0) := hwr_2
      have hP : va_P D vwCl (WM cI cZ b mC mR mL mF mpar mwt mstk mflw mc mp mm mf md mv mder mkn 1 ++ R) H := hP
      have hD : va_D A (WM cI cZ b mC mR mL mF mpar mwt mstk mflw mc mp mm mf md mv mder mkn 1 ++ R) := hD
      refine lv_if_eq (tgt := 68) hx hb dX5_value_55 (by decide) (fun c_55 => ?_) (fun c_55 => ?_)
      · skip
        have c_55 := bI_z c_55
        refine lv_iconst (v := 0) hx hb dX5_value_68 (by decide) ?_
        exact W.iret (v := 0) hx hb hr (fun t ht hW => ⟨⟨0, (), rfl, rfl, g_PD ht hP hD⟩, hS.F ht⟩) hS.2.2 dX5_value_69
      · skip
        have c_55 := bI_n c_55
        exact absurd c_55 (by decide)
  · skip
    have c_13 := bI_n c_13
    exact absurd c_13 hno
set_option maxHeartbeats 4000000 in
set_option maxRecDepth 100000 in
/-- none holds -/
theorem c5_value_2 (l : Launch) (D : va_G) (cI cZ cO cL : ClassId) (dt : Nat) (A : Nat → Prop) (b : Nat → Nat) (mC mR mL mF : Nat) (mpar mwt mstk mflw : Nat → Int32) (mc mp mm mf md : Nat → Nat) (mv mder mkn : Nat → Int32) (thr : Int32) (R : va_W) (ci pi mi fi : Int32) (hF : mF ≤ 80) (hC : mC ≤ 12) (hmf : ∀ k, mf k < 2 ^ 31) (hmd : ∀ k, md k < 2 ^ 31) (hy : ((0 ≤ ci ∧ ci ≤ nI mC - 1) ∧ (0 ≤ pi ∧ pi ≤ 9) ∧ (0 ≤ mi ∧ mi ≤ 3)) ∧ (0 ≤ fi ∧ fi ≤ nI (mL + 1) - 1)) (hN : hM mc mp mm mf md mF ci pi mi fi = none) : Met l yX5_value wsX5_value ({ frames := 4, cells := 0, slots := 0, locals := 90 } : Room) (gP D cI cZ cO cL dt A [.ref (b 0), .int ci, .int pi, .int mi, .int fi] (fun H => va_P D vwCl (WM cI cZ b mC mR mL mF mpar mwt mstk mflw mc mp mm mf md mv mder mkn thr ++ R) H ∧ va_D A (WM cI cZ b mC mR mL mF mpar mwt mstk mflw mc mp mm mf md mv mder mkn thr ++ R))) (va_Qi (fun (r : Int32) (_ : Unit) => r = 0) (fun _ t => va_P D vwCl (WM cI cZ b mC mR mL mF mpar mwt mstk mflw mc mp mm mf md mv mder mkn 2 ++ R) t.heap ∧ va_D A (WM cI cZ b mC mR mL mF mpar mwt mstk mflw mc mp mm mf md mv mder mkn 2 ++ R)) A) 0 0 A := by
  refine Met.ofW (cc := cX5_value) (maxL := 7) (ret := (some .int)) (by decide) rfl ?_
  intro p9 e9 s m9 args below meth c9 s₁ B hml hv
  obtain ⟨rfl, hg, hP, hD⟩ := hv
  have hx := B.exec
  have hb := B.bytes
  have hr := B.returns
  have hts := atoms_spec (ws := wsX5_value) B.pre
  have hown : s.vm.findClass RX5 = some m9.cls := findClass_of_methodNamed B.named
  have hlocks := B.notSynchronized
  have hK := hg.1
  have hS : va_S A s.heap s.heap [] := va_S.rf
  have hl := lv_entry ([.ref (b 0), .int ci, .int pi, .int mi, .int fi]) (n := 7) (Nat.le_of_ble_eq_true rfl)
  rw [lg_entry_eq]
  generalize (lg_sl ([.ref (b 0), .int ci, .int pi, .int mi, .int fi]) ++ List.replicate (7 - (lg_sl ([.ref (b 0), .int ci, .int pi, .int mi, .int fi])).length) Slot.unset).toArray = ls at hl ⊢
  have hl : lv_has ls 7 [(0, .ref (b 0)), (1, .int ci), (2, .int pi), (3, .int mi), (4, .int fi)] := hl
  refine lv_aload_n hx hb dX5_value_0 rfl (lv_at hl 0 rfl) ?_
  refine lv_iload_n hx hb dX5_value_1 rfl (lv_at hl 1 rfl) ?_
  refine lv_iload_n hx hb dX5_value_2 rfl (lv_at hl 2 rfl) ?_
  refine lv_iload_n hx hb dX5_value_3 rfl (lv_at hl 3 rfl) ?_
  refine lv_iload hx hb dX5_value_4 (lv_at hl 4 rfl) ?_
  refine g_csi (va_runV (As := [.int ci, .int pi, .int mi, .int fi]) (rest := []) ⟨hx, hb, hml, hown, hts⟩ (c5_isAsked l D cI cZ cO cL dt A b mC mR mL mF mpar mwt mstk mflw mc mp mm mf md mv mder mkn thr R ci pi mi fi) (cwV 4 hts gX5_value_X5_isAsked rfl rfl rfl (by decide +kernel) ⟨Nat.le_of_ble_eq_true rfl, Nat.le_of_ble_eq_true rfl⟩) (gP.v hg hP 4 rfl (0) (rfl) hP) rfl rfl hl.1 rfl (lv_room (Nat.le_of_ble_eq_true rfl)) dX5_value_6 ⟨Nat.le_of_ble_eq_true rfl, Nat.le_of_ble_eq_true rfl⟩) (fun r_1 hr_1 => ?_)
  obtain rfl : r_1 = bI (((0 ≤ ci ∧ ci ≤ nI mC - 1) ∧ (0 ≤ pi ∧ pi ≤ 9) ∧ (0 ≤ mi ∧ mi ≤ 3)) ∧ (0 ≤ fi ∧ fi ≤ nI (mL + 1) - 1)) := hr_1
  refine lv_istore (lv' := [(5, .int (bI (((0 ≤ ci ∧ ci ≤ nI mC - 1) ∧ (0 ≤ pi ∧ pi ≤ 9) ∧ (0 ≤ mi ∧ mi ≤ 3)) ∧ (0 ≤ fi ∧ fi ≤ nI (mL + 1) - 1)))), (0, .ref (b 0)), (1, .int ci), (2, .int pi), (3, .int mi), (4, .int fi)]) hx hb dX5_value_9 hl (by decide) rfl (fun ls hl => ?_)
  refine lv_iload hx hb dX5_value_11 (lv_at hl 0 rfl) ?_
  refine lv_if_eq (tgt := 28) hx hb dX5_value_13 (by decide) (fun c_13 => ?_) (fun c_13 => ?_)
  · skip
    have c_13 := bI_z c_13
    exact absurd hy c_13
  · skip
    have c_13 := bI_n c_13
    refine lv_aload_n hx hb dX5_value_16 rfl (lv_at hl 1 rfl) ?_
    refine lv_iload_n hx hb dX5_value_17 rfl (lv_at hl 2 rfl) ?_
    refine lv_iload_n hx hb dX5_value_18 rfl (lv_at hl 3 rfl) ?_
    refine lv_iload_n hx hb dX5_value_19 rfl (lv_at hl 4 rfl) ?_
    refine lv_iload hx hb dX5_value_20 (lv_at hl 5 rfl) ?_
    refine g_csi (va_runV (As := [.int ci, .int pi, .int mi, .int fi]) (rest := []) ⟨hx, hb, hml, hown, hts⟩ (c5_holds l D cI cZ cO cL dt A b mC mR mL mF mpar mwt mstk mflw mc mp mm mf md mv mder mkn thr R ci pi mi fi hF hmf hmd) (cwV 4 hts gX5_value_X5_holds rfl rfl rfl (by decide +kernel) ⟨Nat.le_of_ble_eq_true rfl, Nat.le_of_ble_eq_true rfl⟩) (gP.v hg hP 4 rfl (0) (rfl) hP) rfl rfl hl.1 rfl (lv_room (Nat.le_of_ble_eq_true rfl)) dX5_value_22 ⟨Nat.le_of_ble_eq_true rfl, Nat.le_of_ble_eq_true rfl⟩) (fun r_2 hr_2 => ?_)
    obtain rfl : r_2 = (-1) := hr_2.trans (congrArg oI hN)
    refine lv_goto (tgt := 29) hx hb dX5_value_25 (by decide) ?_
    refine lv_istore (lv' := [(6, .int (-1)), (5, .int (bI (((0 ≤ ci ∧ ci ≤ nI mC - 1) ∧ (0 ≤ pi ∧ pi ≤ 9) ∧ (0 ≤ mi ∧ mi ≤ 3)) ∧ (0 ≤ fi ∧ fi ≤ nI (mL + 1) - 1)))), (0, .ref (b 0)), (1, .int ci), (2, .int pi), (3, .int mi), (4, .int fi)]) hx hb dX5_value_29 hl (by decide) rfl (fun ls hl => ?_)
    refine lv_aload_n hx hb dX5_value_31 rfl (lv_at hl 2 rfl) ?_
    refine lv_iload hx hb dX5_value_32 (lv_at hl 1 rfl) ?_
    refine lv_if_ne (tgt := 41) hx hb dX5_value_34 (by decide) (fun c_34 => ?_) (fun c_34 => ?_)
    · skip
      have c_34 := bI_n c_34
      refine lv_iload hx hb dX5_value_41 (lv_at hl 0 rfl) ?_
      refine lv_iconst (v := (-1)) hx hb dX5_value_43 (by decide) ?_
      refine lv_icmp_ne (tgt := 51) hx hb dX5_value_44 (by decide) (fun c_44 => ?_) (fun c_44 => ?_)
      · skip
        exact absurd c_44 (by decide)
      · skip
        refine lv_iconst (v := 2) hx hb dX5_value_47 (by decide) ?_
        refine lv_goto (tgt := 52) hx hb dX5_value_48 (by decide) ?_
        refine va_calli (va_runV (As := [.int 2]) (rest := []) ⟨hx, hb, hml, hown, hts⟩ (c5_can l D cI cZ cO cL dt A b mC mR mL mF mpar mwt mstk mflw mc mp mm mf md mv mder mkn thr R 2) (cwV 1 hts gX5_value_X5_can rfl rfl rfl (by decide +kernel) ⟨Nat.le_of_ble_eq_true rfl, Nat.le_of_ble_eq_true rfl⟩) (gP.v hg hP 4 rfl (0) (rfl) (⟨hP, hD⟩)) rfl rfl hl.1 rfl (lv_room (Nat.le_of_ble_eq_true rfl)) dX5_value_52 ⟨Nat.le_of_ble_eq_true rfl, Nat.le_of_ble_eq_true rfl⟩) hS (fun q _ h => h) (fun q h => h) (fun r_3 ur_3 tr_3 H locs htr_3 hvmr_3 hwr_3 hB hzr_3 hkr_3 hS => ?_)
        rw [htr_3] at hB
        obtain ⟨hP, hD⟩ := hB
        obtain rfl : r_3 = bI (2 = 0) := hwr_3
        have hP : va_P D vwCl (WM cI cZ b mC mR mL mF mpar mwt mstk mflw mc mp mm mf md mv mder mkn 2 ++ R) H := hP
        have hD : va_D A (WM cI cZ b mC mR mL mF mpar mwt mstk mflw mc mp mm mf md mv mder mkn 2 ++ R) := hD
        refine lv_if_eq (tgt := 68) hx hb dX5_value_55 (by decide) (fun c_55 => ?_) (fun c_55 => ?_)
        · skip
          have c_55 := bI_z c_55
          refine lv_iconst (v := 0) hx hb dX5_value_68 (by decide) ?_
          exact W.iret (v := 0) hx hb hr (fun t ht hW => ⟨⟨0, (), rfl, rfl, g_PD ht hP hD⟩, hS.F ht⟩) hS.2.2 dX5_value_69
        · skip
          have c_55 := bI_n c_55
          exact absurd c_55 (by decide)
    · skip
      have c_34 := bI_z c_34
      exact absurd hy c_34
set_option maxHeartbeats 4000000 in
set_option maxRecDepth 100000 in
/-- one holds -/
theorem c5_value_0 (l : Launch) (D : va_G) (cI cZ cO cL : ClassId) (dt : Nat) (A : Nat → Prop) (b : Nat → Nat) (mC mR mL mF : Nat) (mpar mwt mstk mflw : Nat → Int32) (mc mp mm mf md : Nat → Nat) (mv mder mkn : Nat → Int32) (thr : Int32) (R : va_W) (ci pi mi fi : Int32) (j : Nat) (hF : mF ≤ 80) (hC : mC ≤ 12) (hmf : ∀ k, mf k < 2 ^ 31) (hmd : ∀ k, md k < 2 ^ 31) (hy : ((0 ≤ ci ∧ ci ≤ nI mC - 1) ∧ (0 ≤ pi ∧ pi ≤ 9) ∧ (0 ≤ mi ∧ mi ≤ 3)) ∧ (0 ≤ fi ∧ fi ≤ nI (mL + 1) - 1)) (hN : hM mc mp mm mf md mF ci pi mi fi = some j) : Met l yX5_value wsX5_value ({ frames := 4, cells := 0, slots := 0, locals := 90 } : Room) (gP D cI cZ cO cL dt A [.ref (b 0), .int ci, .int pi, .int mi, .int fi] (fun H => va_P D vwCl (WM cI cZ b mC mR mL mF mpar mwt mstk mflw mc mp mm mf md mv mder mkn thr ++ R) H ∧ va_D A (WM cI cZ b mC mR mL mF mpar mwt mstk mflw mc mp mm mf md mv mder mkn thr ++ R))) (va_Qi (fun (r : Int32) (_ : Unit) => r = mv j) (fun _ t => va_P D vwCl (WM cI cZ b mC mR mL mF mpar mwt mstk mflw mc mp mm mf md mv mder mkn 0 ++ R) t.heap ∧ va_D A (WM cI cZ b mC mR mL mF mpar mwt mstk mflw mc mp mm mf md mv mder mkn 0 ++ R)) A) 0 0 A := by
  refine Met.ofW (cc := cX5_value) (maxL := 7) (ret := (some .int)) (by decide) rfl ?_
  intro p9 e9 s m9 args below meth c9 s₁ B hml hv
  obtain ⟨rfl, hg, hP, hD⟩ := hv
  have hx := B.exec
  have hb := B.bytes
  have hr := B.returns
  have hts := atoms_spec (ws := wsX5_value) B.pre
  have hown : s.vm.findClass RX5 = some m9.cls := findClass_of_methodNamed B.named
  have hlocks := B.notSynchronized
  have hK := hg.1
  have hS : va_S A s.heap s.heap [] := va_S.rf
  have w_0 := hts (.fieldLink RX5 38 "DimfactsModel" "value" "[I") (by decide +kernel)
  have win_X5 : ∀ w ∈ wsX50, w ∈ wsX5_value := by decide +kernel
  have hl := lv_entry ([.ref (b 0), .int ci, .int pi, .int mi, .int fi]) (n := 7) (Nat.le_of_ble_eq_true rfl)
  rw [lg_entry_eq]
  generalize (lg_sl ([.ref (b 0), .int ci, .int pi, .int mi, .int fi]) ++ List.replicate (7 - (lg_sl ([.ref (b 0), .int ci, .int pi, .int mi, .int fi])).length) Slot.unset).toArray = ls at hl ⊢
  have hl : lv_has ls 7 [(0, .ref (b 0)), (1, .int ci), (2, .int pi), (3, .int mi), (4, .int fi)] := hl
  refine lv_aload_n hx hb dX5_value_0 rfl (lv_at hl 0 rfl) ?_
  refine lv_iload_n hx hb dX5_value_1 rfl (lv_at hl 1 rfl) ?_
  refine lv_iload_n hx hb dX5_value_2 rfl (lv_at hl 2 rfl) ?_
  refine lv_iload_n hx hb dX5_value_3 rfl (lv_at hl 3 rfl) ?_
  refine lv_iload hx hb dX5_value_4 (lv_at hl 4 rfl) ?_
  refine g_csi (va_runV (As := [.int ci, .int pi, .int mi, .int fi]) (rest := []) ⟨hx, hb, hml, hown, hts⟩ (c5_isAsked l D cI cZ cO cL dt A b mC mR mL mF mpar mwt mstk mflw mc mp mm mf md mv mder mkn thr R ci pi mi fi) (cwV 4 hts gX5_value_X5_isAsked rfl rfl rfl (by decide +kernel) ⟨Nat.le_of_ble_eq_true rfl, Nat.le_of_ble_eq_true rfl⟩) (gP.v hg hP 4 rfl (0) (rfl) hP) rfl rfl hl.1 rfl (lv_room (Nat.le_of_ble_eq_true rfl)) dX5_value_6 ⟨Nat.le_of_ble_eq_true rfl, Nat.le_of_ble_eq_true rfl⟩) (fun r_1 hr_1 => ?_)
  obtain rfl : r_1 = bI (((0 ≤ ci ∧ ci ≤ nI mC - 1) ∧ (0 ≤ pi ∧ pi ≤ 9) ∧ (0 ≤ mi ∧ mi ≤ 3)) ∧ (0 ≤ fi ∧ fi ≤ nI (mL + 1) - 1)) := hr_1
  refine lv_istore (lv' := [(5, .int (bI (((0 ≤ ci ∧ ci ≤ nI mC - 1) ∧ (0 ≤ pi ∧ pi ≤ 9) ∧ (0 ≤ mi ∧ mi ≤ 3)) ∧ (0 ≤ fi ∧ fi ≤ nI (mL + 1) - 1)))), (0, .ref (b 0)), (1, .int ci), (2, .int pi), (3, .int mi), (4, .int fi)]) hx hb dX5_value_9 hl (by decide) rfl (fun ls hl => ?_)
  refine lv_iload hx hb dX5_value_11 (lv_at hl 0 rfl) ?_
  refine lv_if_eq (tgt := 28) hx hb dX5_value_13 (by decide) (fun c_13 => ?_) (fun c_13 => ?_)
  · skip
    have c_13 := bI_z c_13
    exact absurd hy c_13
  · skip
    have c_13 := bI_n c_13
    refine lv_aload_n hx hb dX5_value_16 rfl (lv_at hl 1 rfl) ?_
    refine lv_iload_n hx hb dX5_value_17 rfl (lv_at hl 2 rfl) ?_
    refine lv_iload_n hx hb dX5_value_18 rfl (lv_at hl 3 rfl) ?_
    refine lv_iload_n hx hb dX5_value_19 rfl (lv_at hl 4 rfl) ?_
    refine lv_iload hx hb dX5_value_20 (lv_at hl 5 rfl) ?_
    refine g_csi (va_runV (As := [.int ci, .int pi, .int mi, .int fi]) (rest := []) ⟨hx, hb, hml, hown, hts⟩ (c5_holds l D cI cZ cO cL dt A b mC mR mL mF mpar mwt mstk mflw mc mp mm mf md mv mder mkn thr R ci pi mi fi hF hmf hmd) (cwV 4 hts gX5_value_X5_holds rfl rfl rfl (by decide +kernel) ⟨Nat.le_of_ble_eq_true rfl, Nat.le_of_ble_eq_true rfl⟩) (gP.v hg hP 4 rfl (0) (rfl) hP) rfl rfl hl.1 rfl (lv_room (Nat.le_of_ble_eq_true rfl)) dX5_value_22 ⟨Nat.le_of_ble_eq_true rfl, Nat.le_of_ble_eq_true rfl⟩) (fun r_2 hr_2 => ?_)
    obtain rfl : r_2 = nI j := hr_2.trans (congrArg oI hN)
    have hj := (sel_lt hN).1
    refine lv_goto (tgt := 29) hx hb dX5_value_25 (by decide) ?_
    refine lv_istore (lv' := [(6, .int (nI j)), (5, .int (bI (((0 ≤ ci ∧ ci ≤ nI mC - 1) ∧ (0 ≤ pi ∧ pi ≤ 9) ∧ (0 ≤ mi ∧ mi ≤ 3)) ∧ (0 ≤ fi ∧ fi ≤ nI (mL + 1) - 1)))), (0, .ref (b 0)), (1, .int ci), (2, .int pi), (3, .int mi), (4, .int fi)]) hx hb dX5_value_29 hl (by decide) rfl (fun ls hl => ?_)
    refine lv_aload_n hx hb dX5_value_31 rfl (lv_at hl 2 rfl) ?_
    refine lv_iload hx hb dX5_value_32 (lv_at hl 1 rfl) ?_
    refine lv_if_ne (tgt := 41) hx hb dX5_value_34 (by decide) (fun c_34 => ?_) (fun c_34 => ?_)
    · skip
      have c_34 := bI_n c_34
      refine lv_iload hx hb dX5_value_41 (lv_at hl 0 rfl) ?_
      refine lv_iconst (v := (-1)) hx hb dX5_value_43 (by decide) ?_
      refine lv_icmp_ne (tgt := 51) hx hb dX5_value_44 (by decide) (fun c_44 => ?_) (fun c_44 => ?_)
      · skip
        refine lv_iconst (v := 0) hx hb dX5_value_51 (by decide) ?_
        refine va_calli (va_runV (As := [.int 0]) (rest := []) ⟨hx, hb, hml, hown, hts⟩ (c5_can l D cI cZ cO cL dt A b mC mR mL mF mpar mwt mstk mflw mc mp mm mf md mv mder mkn thr R 0) (cwV 1 hts gX5_value_X5_can rfl rfl rfl (by decide +kernel) ⟨Nat.le_of_ble_eq_true rfl, Nat.le_of_ble_eq_true rfl⟩) (gP.v hg hP 4 rfl (0) (rfl) (⟨hP, hD⟩)) rfl rfl hl.1 rfl (lv_room (Nat.le_of_ble_eq_true rfl)) dX5_value_52 ⟨Nat.le_of_ble_eq_true rfl, Nat.le_of_ble_eq_true rfl⟩) hS (fun q _ h => h) (fun q h => h) (fun r_3 ur_3 tr_3 H locs htr_3 hvmr_3 hwr_3 hB hzr_3 hkr_3 hS => ?_)
        rw [htr_3] at hB
        obtain ⟨hP, hD⟩ := hB
        obtain rfl : r_3 = bI (0 = 0) := hwr_3
        have hP : va_P D vwCl (WM cI cZ b mC mR mL mF mpar mwt mstk mflw mc mp mm mf md mv mder mkn 0 ++ R) H := hP
        have hD : va_D A (WM cI cZ b mC mR mL mF mpar mwt mstk mflw mc mp mm mf md mv mder mkn 0 ++ R) := hD
        refine lv_if_eq (tgt := 68) hx hb dX5_value_55 (by decide) (fun c_55 => ?_) (fun c_55 => ?_)
        · skip
          have c_55 := bI_z c_55
          exact absurd (by decide) c_55
        · skip
          have c_55 := bI_n c_55
          refine lv_aload_n hx hb dX5_value_58 rfl (lv_at hl 2 rfl) ?_
          refine va_get (D := D) (ci := 4) (v := .ref (b 9)) (C := RX5) (T := TX5) (N := 17) hx hb hts win_X5 hown hK hP (0) (rfl) rfl 12 (by decide) w_0 (fun _ h9 => h9) rfl dX5_value_59 ?_
          refine lv_iload hx hb dX5_value_62 (lv_at hl 0 rfl) ?_
          refine g_iald hx hb hK hP (9) 0 (n := 80) (f := mv) (rfl) rfl j rfl (by omega) (by decide) dX5_value_64 ?_
          refine lv_goto (tgt := 69) hx hb dX5_value_65 (by decide) ?_
          exact W.iret (v := mv j) hx hb hr (fun t ht hW => ⟨⟨mv j, (), rfl, rfl, g_PD ht hP hD⟩, hS.F ht⟩) hS.2.2 dX5_value_69
      · skip
        exact absurd c_44 (nI_nm1 (by omega))
    · skip
      have c_34 := bI_z c_34
      exact absurd hy c_34
set_option maxHeartbeats 4000000 in
set_option maxRecDepth 100000 in
/-- not there -/
theorem c5_doubt_1 (l : Launch) (D : va_G) (cI cZ cO cL : ClassId) (dt : Nat) (A : Nat → Prop) (b : Nat → Nat) (mC mR mL mF : Nat) (mpar mwt mstk mflw : Nat → Int32) (mc mp mm mf md : Nat → Nat) (mv mder mkn : Nat → Int32) (thr : Int32) (R : va_W) (ci pi mi fi : Int32) (hno : ¬ (((0 ≤ ci ∧ ci ≤ nI mC - 1) ∧ (0 ≤ pi ∧ pi ≤ 9) ∧ (0 ≤ mi ∧ mi ≤ 3)) ∧ (0 ≤ fi ∧ fi ≤ nI (mL + 1) - 1))) : Met l yX5_doubt wsX5_doubt ({ frames := 4, cells := 0, slots := 0, locals := 90 } : Room) (gP D cI cZ cO cL dt A [.ref (b 0), .int ci, .int pi, .int mi, .int fi] (fun H => va_P D vwCl (WM cI cZ b mC mR mL mF mpar mwt mstk mflw mc mp mm mf md mv mder mkn thr ++ R) H ∧ va_D A (WM cI cZ b mC mR mL mF mpar mwt mstk mflw mc mp mm mf md mv mder mkn thr ++ R))) (va_Qi (fun (r : Int32) (_ : Unit) => r = 0) (fun _ t => va_P D vwCl (WM cI cZ b mC mR mL mF mpar mwt mstk mflw mc mp mm mf md mv mder mkn 1 ++ R) t.heap ∧ va_D A (WM cI cZ b mC mR mL mF mpar mwt mstk mflw mc mp mm mf md mv mder mkn 1 ++ R)) A) 0 0 A := by
  refine Met.ofW (cc := cX5_doubt) (maxL := 7) (ret := (some .int)) (by decide) rfl ?_
  intro p9 e9 s m9 args below meth c9 s₁ B hml hv
  obtain ⟨rfl, hg, hP, hD⟩ := hv
  have hx := B.exec
  have hb := B.bytes
  have hr := B.returns
  have hts := atoms_spec (ws := wsX5_doubt) B.pre
  have hown : s.vm.findClass RX5 = some m9.cls := findClass_of_methodNamed B.named
  have hlocks := B.notSynchronized
  have hK := hg.1
  have hS : va_S A s.heap s.heap [] := va_S.rf
  have hl := lv_entry ([.ref (b 0), .int ci, .int pi, .int mi, .int fi]) (n := 7) (Nat.le_of_ble_eq_true rfl)
  rw [lg_entry_eq]
  generalize (lg_sl ([.ref (b 0), .int ci, .int pi, .int mi, .int fi]) ++ List.replicate (7 - (lg_sl ([.ref (b 0), .int ci, .int pi, .int mi, .int fi])).length) Slot.unset).toArray = ls at hl ⊢
  have hl : lv_has ls 7 [(0, .ref (b 0)), (1, .int ci), (2, .int pi), (3, .int mi), (4, .int fi)] := hl
  refine lv_aload_n hx hb dX5_doubt_0 rfl (lv_at hl 0 rfl) ?_
  refine lv_iload_n hx hb dX5_doubt_1 rfl (lv_at hl 1 rfl) ?_
  refine lv_iload_n hx hb dX5_doubt_2 rfl (lv_at hl 2 rfl) ?_
  refine lv_iload_n hx hb dX5_doubt_3 rfl (lv_at hl 3 rfl) ?_
  refine lv_iload hx hb dX5_doubt_4 (lv_at hl 4 rfl) ?_
  refine g_csi (va_runV (As := [.int ci, .int pi, .int mi, .int fi]) (rest := []) ⟨hx, hb, hml, hown, hts⟩ (c5_isAsked l D cI cZ cO cL dt A b mC mR mL mF mpar mwt mstk mflw mc mp mm mf md mv mder mkn thr R ci pi mi fi) (cwV 4 hts gX5_doubt_X5_isAsked rfl rfl rfl (by decide +kernel) ⟨Nat.le_of_ble_eq_true rfl, Nat.le_of_ble_eq_true rfl⟩) (gP.v hg hP 4 rfl (0) (rfl) hP) rfl rfl hl.1 rfl (lv_room (Nat.le_of_ble_eq_true rfl)) dX5_doubt_6 ⟨Nat.le_of_ble_eq_true rfl, Nat.le_of_ble_eq_true rfl⟩) (fun r_1 hr_1 => ?_)
  obtain rfl : r_1 = bI (((0 ≤ ci ∧ ci ≤ nI mC - 1) ∧ (0 ≤ pi ∧ pi ≤ 9) ∧ (0 ≤ mi ∧ mi ≤ 3)) ∧ (0 ≤ fi ∧ fi ≤ nI (mL + 1) - 1)) := hr_1
  refine lv_istore (lv' := [(5, .int (bI (((0 ≤ ci ∧ ci ≤ nI mC - 1) ∧ (0 ≤ pi ∧ pi ≤ 9) ∧ (0 ≤ mi ∧ mi ≤ 3)) ∧ (0 ≤ fi ∧ fi ≤ nI (mL + 1) - 1)))), (0, .ref (b 0)), (1, .int ci), (2, .int pi), (3, .int mi), (4, .int fi)]) hx hb dX5_doubt_9 hl (by decide) rfl (fun ls hl => ?_)
  refine lv_iload hx hb dX5_doubt_11 (lv_at hl 0 rfl) ?_
  refine lv_if_eq (tgt := 28) hx hb dX5_doubt_13 (by decide) (fun c_13 => ?_) (fun c_13 => ?_)
  · skip
    have c_13 := bI_z c_13
    refine lv_iconst (v := (-1)) hx hb dX5_doubt_28 (by decide) ?_
    refine lv_istore (lv' := [(6, .int (-1)), (5, .int (bI (((0 ≤ ci ∧ ci ≤ nI mC - 1) ∧ (0 ≤ pi ∧ pi ≤ 9) ∧ (0 ≤ mi ∧ mi ≤ 3)) ∧ (0 ≤ fi ∧ fi ≤ nI (mL + 1) - 1)))), (0, .ref (b 0)), (1, .int ci), (2, .int pi), (3, .int mi), (4, .int fi)]) hx hb dX5_doubt_29 hl (by decide) rfl (fun ls hl => ?_)
    refine lv_aload_n hx hb dX5_doubt_31 rfl (lv_at hl 2 rfl) ?_
    refine lv_iload hx hb dX5_doubt_32 (lv_at hl 1 rfl) ?_
    refine lv_if_ne (tgt := 41) hx hb dX5_doubt_34 (by decide) (fun c_34 => ?_) (fun c_34 => ?_)
    · skip
      have c_34 := bI_n c_34
      exact absurd c_34 hno
    · skip
      have c_34 := bI_z c_34
      refine lv_iconst (v := 1) hx hb dX5_doubt_37 (by decide) ?_
      refine lv_goto (tgt := 52) hx hb dX5_doubt_38 (by decide) ?_
      refine va_calli (va_runV (As := [.int 1]) (rest := []) ⟨hx, hb, hml, hown, hts⟩ (c5_can l D cI cZ cO cL dt A b mC mR mL mF mpar mwt mstk mflw mc mp mm mf md mv mder mkn thr R 1) (cwV 1 hts gX5_doubt_X5_can rfl rfl rfl (by decide +kernel) ⟨Nat.le_of_ble_eq_true rfl, Nat.le_of_ble_eq_true rfl⟩) (gP.v hg hP 4 rfl (0) (rfl) (⟨hP, hD⟩)) rfl rfl hl.1 rfl (lv_room (Nat.le_of_ble_eq_true rfl)) dX5_doubt_52 ⟨Nat.le_of_ble_eq_true rfl, Nat.le_of_ble_eq_true rfl⟩) hS (fun q _ h => h) (fun q h => h) (fun r_2 ur_2 tr_2 H locs htr_2 hvmr_2 hwr_2 hB hzr_2 hkr_2 hS => ?_)
      rw [htr_2] at hB
      obtain ⟨hP, hD⟩ := hB
      obtain rfl : r_2 = bI (1 = 0) := hwr_2
      have hP : va_P D vwCl (WM cI cZ b mC mR mL mF mpar mwt mstk mflw mc mp mm mf md mv mder mkn 1 ++ R) H := hP
      have hD : va_D A (WM cI cZ b mC mR mL mF mpar mwt mstk mflw mc mp mm mf md mv mder mkn 1 ++ R) := hD
      refine lv_if_eq (tgt := 67) hx hb dX5_doubt_55 (by decide) (fun c_55 => ?_) (fun c_55 => ?_)
      · skip
        have c_55 := bI_z c_55
        refine lv_iconst (v := 0) hx hb dX5_doubt_67 (by decide) ?_
        exact W.iret (v := 0) hx hb hr (fun t ht hW => ⟨⟨0, (), rfl, rfl, g_PD ht hP hD⟩, hS.F ht⟩) hS.2.2 dX5_doubt_68
      · skip
        have c_55 := bI_n c_55
        exact absurd c_55 (by decide)
  · skip
    have c_13 := bI_n c_13
    exact absurd c_13 hno
set_option maxHeartbeats 4000000 in
set_option maxRecDepth 100000 in
/-- none holds -/
theorem c5_doubt_2 (l : Launch) (D : va_G) (cI cZ cO cL : ClassId) (dt : Nat) (A : Nat → Prop) (b : Nat → Nat) (mC mR mL mF : Nat) (mpar mwt mstk mflw : Nat → Int32) (mc mp mm mf md : Nat → Nat) (mv mder mkn : Nat → Int32) (thr : Int32) (R : va_W) (ci pi mi fi : Int32) (hF : mF ≤ 80) (hC : mC ≤ 12) (hmf : ∀ k, mf k < 2 ^ 31) (hmd : ∀ k, md k < 2 ^ 31) (hy : ((0 ≤ ci ∧ ci ≤ nI mC - 1) ∧ (0 ≤ pi ∧ pi ≤ 9) ∧ (0 ≤ mi ∧ mi ≤ 3)) ∧ (0 ≤ fi ∧ fi ≤ nI (mL + 1) - 1)) (hN : hM mc mp mm mf md mF ci pi mi fi = none) : Met l yX5_doubt wsX5_doubt ({ frames := 4, cells := 0, slots := 0, locals := 90 } : Room) (gP D cI cZ cO cL dt A [.ref (b 0), .int ci, .int pi, .int mi, .int fi] (fun H => va_P D vwCl (WM cI cZ b mC mR mL mF mpar mwt mstk mflw mc mp mm mf md mv mder mkn thr ++ R) H ∧ va_D A (WM cI cZ b mC mR mL mF mpar mwt mstk mflw mc mp mm mf md mv mder mkn thr ++ R))) (va_Qi (fun (r : Int32) (_ : Unit) => r = 0) (fun _ t => va_P D vwCl (WM cI cZ b mC mR mL mF mpar mwt mstk mflw mc mp mm mf md mv mder mkn 2 ++ R) t.heap ∧ va_D A (WM cI cZ b mC mR mL mF mpar mwt mstk mflw mc mp mm mf md mv mder mkn 2 ++ R)) A) 0 0 A := by
  refine Met.ofW (cc := cX5_doubt) (maxL := 7) (ret := (some .int)) (by decide) rfl ?_
  intro p9 e9 s m9 args below meth c9 s₁ B hml hv
  obtain ⟨rfl, hg, hP, hD⟩ := hv
  have hx := B.exec
  have hb := B.bytes
  have hr := B.returns
  have hts := atoms_spec (ws := wsX5_doubt) B.pre
  have hown : s.vm.findClass RX5 = some m9.cls := findClass_of_methodNamed B.named
  have hlocks := B.notSynchronized
  have hK := hg.1
  have hS : va_S A s.heap s.heap [] := va_S.rf
  have hl := lv_entry ([.ref (b 0), .int ci, .int pi, .int mi, .int fi]) (n := 7) (Nat.le_of_ble_eq_true rfl)
  rw [lg_entry_eq]
  generalize (lg_sl ([.ref (b 0), .int ci, .int pi, .int mi, .int fi]) ++ List.replicate (7 - (lg_sl ([.ref (b 0), .int ci, .int pi, .int mi, .int fi])).length) Slot.unset).toArray = ls at hl ⊢
  have hl : lv_has ls 7 [(0, .ref (b 0)), (1, .int ci), (2, .int pi), (3, .int mi), (4, .int fi)] := hl
  refine lv_aload_n hx hb dX5_doubt_0 rfl (lv_at hl 0 rfl) ?_
  refine lv_iload_n hx hb dX5_doubt_1 rfl (lv_at hl 1 rfl) ?_
  refine lv_iload_n hx hb dX5_doubt_2 rfl (lv_at hl 2 rfl) ?_
  refine lv_iload_n hx hb dX5_doubt_3 rfl (lv_at hl 3 rfl) ?_
  refine lv_iload hx hb dX5_doubt_4 (lv_at hl 4 rfl) ?_
  refine g_csi (va_runV (As := [.int ci, .int pi, .int mi, .int fi]) (rest := []) ⟨hx, hb, hml, hown, hts⟩ (c5_isAsked l D cI cZ cO cL dt A b mC mR mL mF mpar mwt mstk mflw mc mp mm mf md mv mder mkn thr R ci pi mi fi) (cwV 4 hts gX5_doubt_X5_isAsked rfl rfl rfl (by decide +kernel) ⟨Nat.le_of_ble_eq_true rfl, Nat.le_of_ble_eq_true rfl⟩) (gP.v hg hP 4 rfl (0) (rfl) hP) rfl rfl hl.1 rfl (lv_room (Nat.le_of_ble_eq_true rfl)) dX5_doubt_6 ⟨Nat.le_of_ble_eq_true rfl, Nat.le_of_ble_eq_true rfl⟩) (fun r_1 hr_1 => ?_)
  obtain rfl : r_1 = bI (((0 ≤ ci ∧ ci ≤ nI mC - 1) ∧ (0 ≤ pi ∧ pi ≤ 9) ∧ (0 ≤ mi ∧ mi ≤ 3)) ∧ (0 ≤ fi ∧ fi ≤ nI (mL + 1) - 1)) := hr_1
  refine lv_istore (lv' := [(5, .int (bI (((0 ≤ ci ∧ ci ≤ nI mC - 1) ∧ (0 ≤ pi ∧ pi ≤ 9) ∧ (0 ≤ mi ∧ mi ≤ 3)) ∧ (0 ≤ fi ∧ fi ≤ nI (mL + 1) - 1)))), (0, .ref (b 0)), (1, .int ci), (2, .int pi), (3, .int mi), (4, .int fi)]) hx hb dX5_doubt_9 hl (by decide) rfl (fun ls hl => ?_)
  refine lv_iload hx hb dX5_doubt_11 (lv_at hl 0 rfl) ?_
  refine lv_if_eq (tgt := 28) hx hb dX5_doubt_13 (by decide) (fun c_13 => ?_) (fun c_13 => ?_)
  · skip
    have c_13 := bI_z c_13
    exact absurd hy c_13
  · skip
    have c_13 := bI_n c_13
    refine lv_aload_n hx hb dX5_doubt_16 rfl (lv_at hl 1 rfl) ?_
    refine lv_iload_n hx hb dX5_doubt_17 rfl (lv_at hl 2 rfl) ?_
    refine lv_iload_n hx hb dX5_doubt_18 rfl (lv_at hl 3 rfl) ?_
    refine lv_iload_n hx hb dX5_doubt_19 rfl (lv_at hl 4 rfl) ?_
    refine lv_iload hx hb dX5_doubt_20 (lv_at hl 5 rfl) ?_
    refine g_csi (va_runV (As := [.int ci, .int pi, .int mi, .int fi]) (rest := []) ⟨hx, hb, hml, hown, hts⟩ (c5_holds l D cI cZ cO cL dt A b mC mR mL mF mpar mwt mstk mflw mc mp mm mf md mv mder mkn thr R ci pi mi fi hF hmf hmd) (cwV 4 hts gX5_doubt_X5_holds rfl rfl rfl (by decide +kernel) ⟨Nat.le_of_ble_eq_true rfl, Nat.le_of_ble_eq_true rfl⟩) (gP.v hg hP 4 rfl (0) (rfl) hP) rfl rfl hl.1 rfl (lv_room (Nat.le_of_ble_eq_true rfl)) dX5_doubt_22 ⟨Nat.le_of_ble_eq_true rfl, Nat.le_of_ble_eq_true rfl⟩) (fun r_2 hr_2 => ?_)
    obtain rfl : r_2 = (-1) := hr_2.trans (congrArg oI hN)
    refine lv_goto (tgt := 29) hx hb dX5_doubt_25 (by decide) ?_
    refine lv_istore (lv' := [(6, .int (-1)), (5, .int (bI (((0 ≤ ci ∧ ci ≤ nI mC - 1) ∧ (0 ≤ pi ∧ pi ≤ 9) ∧ (0 ≤ mi ∧ mi ≤ 3)) ∧ (0 ≤ fi ∧ fi ≤ nI (mL + 1) - 1)))), (0, .ref (b 0)), (1, .int ci), (2, .int pi), (3, .int mi), (4, .int fi)]) hx hb dX5_doubt_29 hl (by decide) rfl (fun ls hl => ?_)
    refine lv_aload_n hx hb dX5_doubt_31 rfl (lv_at hl 2 rfl) ?_
    refine lv_iload hx hb dX5_doubt_32 (lv_at hl 1 rfl) ?_
    refine lv_if_ne (tgt := 41) hx hb dX5_doubt_34 (by decide) (fun c_34 => ?_) (fun c_34 => ?_)
    · skip
      have c_34 := bI_n c_34
      refine lv_iload hx hb dX5_doubt_41 (lv_at hl 0 rfl) ?_
      refine lv_iconst (v := (-1)) hx hb dX5_doubt_43 (by decide) ?_
      refine lv_icmp_ne (tgt := 51) hx hb dX5_doubt_44 (by decide) (fun c_44 => ?_) (fun c_44 => ?_)
      · skip
        exact absurd c_44 (by decide)
      · skip
        refine lv_iconst (v := 2) hx hb dX5_doubt_47 (by decide) ?_
        refine lv_goto (tgt := 52) hx hb dX5_doubt_48 (by decide) ?_
        refine va_calli (va_runV (As := [.int 2]) (rest := []) ⟨hx, hb, hml, hown, hts⟩ (c5_can l D cI cZ cO cL dt A b mC mR mL mF mpar mwt mstk mflw mc mp mm mf md mv mder mkn thr R 2) (cwV 1 hts gX5_doubt_X5_can rfl rfl rfl (by decide +kernel) ⟨Nat.le_of_ble_eq_true rfl, Nat.le_of_ble_eq_true rfl⟩) (gP.v hg hP 4 rfl (0) (rfl) (⟨hP, hD⟩)) rfl rfl hl.1 rfl (lv_room (Nat.le_of_ble_eq_true rfl)) dX5_doubt_52 ⟨Nat.le_of_ble_eq_true rfl, Nat.le_of_ble_eq_true rfl⟩) hS (fun q _ h => h) (fun q h => h) (fun r_3 ur_3 tr_3 H locs htr_3 hvmr_3 hwr_3 hB hzr_3 hkr_3 hS => ?_)
        rw [htr_3] at hB
        obtain ⟨hP, hD⟩ := hB
        obtain rfl : r_3 = bI (2 = 0) := hwr_3
        have hP : va_P D vwCl (WM cI cZ b mC mR mL mF mpar mwt mstk mflw mc mp mm mf md mv mder mkn 2 ++ R) H := hP
        have hD : va_D A (WM cI cZ b mC mR mL mF mpar mwt mstk mflw mc mp mm mf md mv mder mkn 2 ++ R) := hD
        refine lv_if_eq (tgt := 67) hx hb dX5_doubt_55 (by decide) (fun c_55 => ?_) (fun c_55 => ?_)
        · skip
          have c_55 := bI_z c_55
          refine lv_iconst (v := 0) hx hb dX5_doubt_67 (by decide) ?_
          exact W.iret (v := 0) hx hb hr (fun t ht hW => ⟨⟨0, (), rfl, rfl, g_PD ht hP hD⟩, hS.F ht⟩) hS.2.2 dX5_doubt_68
        · skip
          have c_55 := bI_n c_55
          exact absurd c_55 (by decide)
    · skip
      have c_34 := bI_z c_34
      exact absurd hy c_34
set_option maxHeartbeats 4000000 in
set_option maxRecDepth 100000 in
/-- one holds -/
theorem c5_doubt_0 (l : Launch) (D : va_G) (cI cZ cO cL : ClassId) (dt : Nat) (A : Nat → Prop) (b : Nat → Nat) (mC mR mL mF : Nat) (mpar mwt mstk mflw : Nat → Int32) (mc mp mm mf md : Nat → Nat) (mv mder mkn : Nat → Int32) (thr : Int32) (R : va_W) (ci pi mi fi : Int32) (j : Nat) (hF : mF ≤ 80) (hC : mC ≤ 12) (hmf : ∀ k, mf k < 2 ^ 31) (hmd : ∀ k, md k < 2 ^ 31) (hy : ((0 ≤ ci ∧ ci ≤ nI mC - 1) ∧ (0 ≤ pi ∧ pi ≤ 9) ∧ (0 ≤ mi ∧ mi ≤ 3)) ∧ (0 ≤ fi ∧ fi ≤ nI (mL + 1) - 1)) (hN : hM mc mp mm mf md mF ci pi mi fi = some j) : Met l yX5_doubt wsX5_doubt ({ frames := 4, cells := 0, slots := 0, locals := 90 } : Room) (gP D cI cZ cO cL dt A [.ref (b 0), .int ci, .int pi, .int mi, .int fi] (fun H => va_P D vwCl (WM cI cZ b mC mR mL mF mpar mwt mstk mflw mc mp mm mf md mv mder mkn thr ++ R) H ∧ va_D A (WM cI cZ b mC mR mL mF mpar mwt mstk mflw mc mp mm mf md mv mder mkn thr ++ R))) (va_Qi (fun (r : Int32) (_ : Unit) => r = nI (10 ^ md j)) (fun _ t => va_P D vwCl (WM cI cZ b mC mR mL mF mpar mwt mstk mflw mc mp mm mf md mv mder mkn 0 ++ R) t.heap ∧ va_D A (WM cI cZ b mC mR mL mF mpar mwt mstk mflw mc mp mm mf md mv mder mkn 0 ++ R)) A) 0 0 A := by
  refine Met.ofW (cc := cX5_doubt) (maxL := 7) (ret := (some .int)) (by decide) rfl ?_
  intro p9 e9 s m9 args below meth c9 s₁ B hml hv
  obtain ⟨rfl, hg, hP, hD⟩ := hv
  have hx := B.exec
  have hb := B.bytes
  have hr := B.returns
  have hts := atoms_spec (ws := wsX5_doubt) B.pre
  have hown : s.vm.findClass RX5 = some m9.cls := findClass_of_methodNamed B.named
  have hlocks := B.notSynchronized
  have hK := hg.1
  have hS : va_S A s.heap s.heap [] := va_S.rf
  have hl := lv_entry ([.ref (b 0), .int ci, .int pi, .int mi, .int fi]) (n := 7) (Nat.le_of_ble_eq_true rfl)
  rw [lg_entry_eq]
  generalize (lg_sl ([.ref (b 0), .int ci, .int pi, .int mi, .int fi]) ++ List.replicate (7 - (lg_sl ([.ref (b 0), .int ci, .int pi, .int mi, .int fi])).length) Slot.unset).toArray = ls at hl ⊢
  have hl : lv_has ls 7 [(0, .ref (b 0)), (1, .int ci), (2, .int pi), (3, .int mi), (4, .int fi)] := hl
  refine lv_aload_n hx hb dX5_doubt_0 rfl (lv_at hl 0 rfl) ?_
  refine lv_iload_n hx hb dX5_doubt_1 rfl (lv_at hl 1 rfl) ?_
  refine lv_iload_n hx hb dX5_doubt_2 rfl (lv_at hl 2 rfl) ?_
  refine lv_iload_n hx hb dX5_doubt_3 rfl (lv_at hl 3 rfl) ?_
  refine lv_iload hx hb dX5_doubt_4 (lv_at hl 4 rfl) ?_
  refine g_csi (va_runV (As := [.int ci, .int pi, .int mi, .int fi]) (rest := []) ⟨hx, hb, hml, hown, hts⟩ (c5_isAsked l D cI cZ cO cL dt A b mC mR mL mF mpar mwt mstk mflw mc mp mm mf md mv mder mkn thr R ci pi mi fi) (cwV 4 hts gX5_doubt_X5_isAsked rfl rfl rfl (by decide +kernel) ⟨Nat.le_of_ble_eq_true rfl, Nat.le_of_ble_eq_true rfl⟩) (gP.v hg hP 4 rfl (0) (rfl) hP) rfl rfl hl.1 rfl (lv_room (Nat.le_of_ble_eq_true rfl)) dX5_doubt_6 ⟨Nat.le_of_ble_eq_true rfl, Nat.le_of_ble_eq_true rfl⟩) (fun r_1 hr_1 => ?_)
  obtain rfl : r_1 = bI (((0 ≤ ci ∧ ci ≤ nI mC - 1) ∧ (0 ≤ pi ∧ pi ≤ 9) ∧ (0 ≤ mi ∧ mi ≤ 3)) ∧ (0 ≤ fi ∧ fi ≤ nI (mL + 1) - 1)) := hr_1
  refine lv_istore (lv' := [(5, .int (bI (((0 ≤ ci ∧ ci ≤ nI mC - 1) ∧ (0 ≤ pi ∧ pi ≤ 9) ∧ (0 ≤ mi ∧ mi ≤ 3)) ∧ (0 ≤ fi ∧ fi ≤ nI (mL + 1) - 1)))), (0, .ref (b 0)), (1, .int ci), (2, .int pi), (3, .int mi), (4, .int fi)]) hx hb dX5_doubt_9 hl (by decide) rfl (fun ls hl => ?_)
  refine lv_iload hx hb dX5_doubt_11 (lv_at hl 0 rfl) ?_
  refine lv_if_eq (tgt := 28) hx hb dX5_doubt_13 (by decide) (fun c_13 => ?_) (fun c_13 => ?_)
  · skip
    have c_13 := bI_z c_13
    exact absurd hy c_13
  · skip
    have c_13 := bI_n c_13
    refine lv_aload_n hx hb dX5_doubt_16 rfl (lv_at hl 1 rfl) ?_
    refine lv_iload_n hx hb dX5_doubt_17 rfl (lv_at hl 2 rfl) ?_
    refine lv_iload_n hx hb dX5_doubt_18 rfl (lv_at hl 3 rfl) ?_
    refine lv_iload_n hx hb dX5_doubt_19 rfl (lv_at hl 4 rfl) ?_
    refine lv_iload hx hb dX5_doubt_20 (lv_at hl 5 rfl) ?_
    refine g_csi (va_runV (As := [.int ci, .int pi, .int mi, .int fi]) (rest := []) ⟨hx, hb, hml, hown, hts⟩ (c5_holds l D cI cZ cO cL dt A b mC mR mL mF mpar mwt mstk mflw mc mp mm mf md mv mder mkn thr R ci pi mi fi hF hmf hmd) (cwV 4 hts gX5_doubt_X5_holds rfl rfl rfl (by decide +kernel) ⟨Nat.le_of_ble_eq_true rfl, Nat.le_of_ble_eq_true rfl⟩) (gP.v hg hP 4 rfl (0) (rfl) hP) rfl rfl hl.1 rfl (lv_room (Nat.le_of_ble_eq_true rfl)) dX5_doubt_22 ⟨Nat.le_of_ble_eq_true rfl, Nat.le_of_ble_eq_true rfl⟩) (fun r_2 hr_2 => ?_)
    obtain rfl : r_2 = nI j := hr_2.trans (congrArg oI hN)
    have hj := (sel_lt hN).1
    refine lv_goto (tgt := 29) hx hb dX5_doubt_25 (by decide) ?_
    refine lv_istore (lv' := [(6, .int (nI j)), (5, .int (bI (((0 ≤ ci ∧ ci ≤ nI mC - 1) ∧ (0 ≤ pi ∧ pi ≤ 9) ∧ (0 ≤ mi ∧ mi ≤ 3)) ∧ (0 ≤ fi ∧ fi ≤ nI (mL + 1) - 1)))), (0, .ref (b 0)), (1, .int ci), (2, .int pi), (3, .int mi), (4, .int fi)]) hx hb dX5_doubt_29 hl (by decide) rfl (fun ls hl => ?_)
    refine lv_aload_n hx hb dX5_doubt_31 rfl (lv_at hl 2 rfl) ?_
    refine lv_iload hx hb dX5_doubt_32 (lv_at hl 1 rfl) ?_
    refine lv_if_ne (tgt := 41) hx hb dX5_doubt_34 (by decide) (fun c_34 => ?_) (fun c_34 => ?_)
    · skip
      have c_34 := bI_n c_34
      refine lv_iload hx hb dX5_doubt_41 (lv_at hl 0 rfl) ?_
      refine lv_iconst (v := (-1)) hx hb dX5_doubt_43 (by decide) ?_
      refine lv_icmp_ne (tgt := 51) hx hb dX5_doubt_44 (by decide) (fun c_44 => ?_) (fun c_44 => ?_)
      · skip
        refine lv_iconst (v := 0) hx hb dX5_doubt_51 (by decide) ?_
        refine va_calli (va_runV (As := [.int 0]) (rest := []) ⟨hx, hb, hml, hown, hts⟩ (c5_can l D cI cZ cO cL dt A b mC mR mL mF mpar mwt mstk mflw mc mp mm mf md mv mder mkn thr R 0) (cwV 1 hts gX5_doubt_X5_can rfl rfl rfl (by decide +kernel) ⟨Nat.le_of_ble_eq_true rfl, Nat.le_of_ble_eq_true rfl⟩) (gP.v hg hP 4 rfl (0) (rfl) (⟨hP, hD⟩)) rfl rfl hl.1 rfl (lv_room (Nat.le_of_ble_eq_true rfl)) dX5_doubt_52 ⟨Nat.le_of_ble_eq_true rfl, Nat.le_of_ble_eq_true rfl⟩) hS (fun q _ h => h) (fun q h => h) (fun r_3 ur_3 tr_3 H locs htr_3 hvmr_3 hwr_3 hB hzr_3 hkr_3 hS => ?_)
        rw [htr_3] at hB
        obtain ⟨hP, hD⟩ := hB
        obtain rfl : r_3 = bI (0 = 0) := hwr_3
        have hP : va_P D vwCl (WM cI cZ b mC mR mL mF mpar mwt mstk mflw mc mp mm mf md mv mder mkn 0 ++ R) H := hP
        have hD : va_D A (WM cI cZ b mC mR mL mF mpar mwt mstk mflw mc mp mm mf md mv mder mkn 0 ++ R) := hD
        refine lv_if_eq (tgt := 67) hx hb dX5_doubt_55 (by decide) (fun c_55 => ?_) (fun c_55 => ?_)
        · skip
          have c_55 := bI_z c_55
          exact absurd (by decide) c_55
        · skip
          have c_55 := bI_n c_55
          refine lv_aload_n hx hb dX5_doubt_58 rfl (lv_at hl 2 rfl) ?_
          refine lv_iload hx hb dX5_doubt_59 (lv_at hl 0 rfl) ?_
          refine g_csi (va_runV (As := [.int (nI j)]) (rest := []) ⟨hx, hb, hml, hown, hts⟩ (c5_doubtOf l D cI cZ cO cL dt A b mC mR mL mF mpar mwt mstk mflw mc mp mm mf md mv mder mkn 0 R j (by omega) hmd) (cwV 1 hts gX5_doubt_X5_doubtOf rfl rfl rfl (by decide +kernel) ⟨Nat.le_of_ble_eq_true rfl, Nat.le_of_ble_eq_true rfl⟩) (gP.v (hg.on hS) hP 4 rfl (0) (rfl) hP) rfl rfl hl.1 rfl (lv_room (Nat.le_of_ble_eq_true rfl)) dX5_doubt_61 ⟨Nat.le_of_ble_eq_true rfl, Nat.le_of_ble_eq_true rfl⟩) (fun r_4 hr_4 => ?_)
          obtain rfl : r_4 = nI (10 ^ md j) := hr_4
          refine lv_goto (tgt := 68) hx hb dX5_doubt_64 (by decide) ?_
          exact W.iret (v := nI (10 ^ md j)) hx hb hr (fun t ht hW => ⟨⟨nI (10 ^ md j), (), rfl, rfl, g_PD ht hP hD⟩, hS.F ht⟩) hS.2.2 dX5_doubt_68
      · skip
        exact absurd c_44 (nI_nm1 (by omega))
    · skip
      have c_34 := bI_z c_34
      exact absurd hy c_34
set_option maxHeartbeats 4000000 in
set_option maxRecDepth 100000 in
/-- not there -/
theorem c5_sum_1 (l : Launch) (D : va_G) (cI cZ cO cL : ClassId) (dt : Nat) (A : Nat → Prop) (b : Nat → Nat) (mC mR mL mF : Nat) (mpar mwt mstk mflw : Nat → Int32) (mc mp mm mf md : Nat → Nat) (mv mder mkn : Nat → Int32) (thr : Int32) (R : va_W) (ci pi mi fi : Int32) (hno : ¬ (((0 ≤ ci ∧ ci ≤ nI mC - 1) ∧ (0 ≤ pi ∧ pi ≤ 9) ∧ (0 ≤ mi ∧ mi ≤ 3)) ∧ (0 ≤ fi ∧ fi ≤ nI (mL + 1) - 1))) : Met l yX5_sum wsX5_sum ({ frames := 4, cells := 0, slots := 0, locals := 90 } : Room) (gP D cI cZ cO cL dt A [.ref (b 0), .int ci, .int pi, .int mi, .int fi] (fun H => va_P D vwCl (WM cI cZ b mC mR mL mF mpar mwt mstk mflw mc mp mm mf md mv mder mkn thr ++ R) H ∧ va_D A (WM cI cZ b mC mR mL mF mpar mwt mstk mflw mc mp mm mf md mv mder mkn thr ++ R))) (va_Qi (fun (r : Int32) (_ : Unit) => r = 0) (fun _ t => va_P D vwCl (WM cI cZ b mC mR mL mF mpar mwt mstk mflw mc mp mm mf md mv mder mkn 1 ++ R) t.heap ∧ va_D A (WM cI cZ b mC mR mL mF mpar mwt mstk mflw mc mp mm mf md mv mder mkn 1 ++ R)) A) 0 0 A := by
  refine Met.ofW (cc := cX5_sum) (maxL := 5) (ret := (some .int)) (by decide) rfl ?_
  intro p9 e9 s m9 args below meth c9 s₁ B hml hv
  obtain ⟨rfl, hg, hP, hD⟩ := hv
  have hx := B.exec
  have hb := B.bytes
  have hr := B.returns
  have hts := atoms_spec (ws := wsX5_sum) B.pre
  have hown : s.vm.findClass RX5 = some m9.cls := findClass_of_methodNamed B.named
  have hlocks := B.notSynchronized
  have hK := hg.1
  have hS : va_S A s.heap s.heap [] := va_S.rf
  have hl := lv_entry ([.ref (b 0), .int ci, .int pi, .int mi, .int fi]) (n := 5) (Nat.le_of_ble_eq_true rfl)
  rw [lg_entry_eq]
  generalize (lg_sl ([.ref (b 0), .int ci, .int pi, .int mi, .int fi]) ++ List.replicate (5 - (lg_sl ([.ref (b 0), .int ci, .int pi, .int mi, .int fi])).length) Slot.unset).toArray = ls at hl ⊢
  have hl : lv_has ls 5 [(0, .ref (b 0)), (1, .int ci), (2, .int pi), (3, .int mi), (4, .int fi)] := hl
  refine lv_aload_n hx hb dX5_sum_0 rfl (lv_at hl 0 rfl) ?_
  refine lv_aload_n hx hb dX5_sum_1 rfl (lv_at hl 0 rfl) ?_
  refine lv_iload_n hx hb dX5_sum_2 rfl (lv_at hl 1 rfl) ?_
  refine lv_iload_n hx hb dX5_sum_3 rfl (lv_at hl 2 rfl) ?_
  refine lv_iload_n hx hb dX5_sum_4 rfl (lv_at hl 3 rfl) ?_
  refine lv_iload hx hb dX5_sum_5 (lv_at hl 4 rfl) ?_
  refine g_csi (va_runV (As := [.int ci, .int pi, .int mi, .int fi]) (rest := [.ref (b 0)]) ⟨hx, hb, hml, hown, hts⟩ (c5_isAsked l D cI cZ cO cL dt A b mC mR mL mF mpar mwt mstk mflw mc mp mm mf md mv mder mkn thr R ci pi mi fi) (cwV 4 hts gX5_sum_X5_isAsked rfl rfl rfl (by decide +kernel) ⟨Nat.le_of_ble_eq_true rfl, Nat.le_of_ble_eq_true rfl⟩) (gP.v hg hP 4 rfl (0) (rfl) hP) rfl rfl hl.1 rfl (lv_room (Nat.le_of_ble_eq_true rfl)) dX5_sum_7 ⟨Nat.le_of_ble_eq_true rfl, Nat.le_of_ble_eq_true rfl⟩) (fun r_1 hr_1 => ?_)
  obtain rfl : r_1 = bI (((0 ≤ ci ∧ ci ≤ nI mC - 1) ∧ (0 ≤ pi ∧ pi ≤ 9) ∧ (0 ≤ mi ∧ mi ≤ 3)) ∧ (0 ≤ fi ∧ fi ≤ nI (mL + 1) - 1)) := hr_1
  refine lv_if_eq (tgt := 17) hx hb dX5_sum_10 (by decide) (fun c_10 => ?_) (fun c_10 => ?_)
  · skip
    have c_10 := bI_z c_10
    refine lv_iconst (v := 1) hx hb dX5_sum_17 (by decide) ?_
    refine va_calli (va_runV (As := [.int 1]) (rest := []) ⟨hx, hb, hml, hown, hts⟩ (c5_can l D cI cZ cO cL dt A b mC mR mL mF mpar mwt mstk mflw mc mp mm mf md mv mder mkn thr R 1) (cwV 1 hts gX5_sum_X5_can rfl rfl rfl (by decide +kernel) ⟨Nat.le_of_ble_eq_true rfl, Nat.le_of_ble_eq_true rfl⟩) (gP.v hg hP 4 rfl (0) (rfl) (⟨hP, hD⟩)) rfl rfl hl.1 rfl (lv_room (Nat.le_of_ble_eq_true rfl)) dX5_sum_18 ⟨Nat.le_of_ble_eq_true rfl, Nat.le_of_ble_eq_true rfl⟩) hS (fun q _ h => h) (fun q h => h) (fun r_2 ur_2 tr_2 H locs htr_2 hvmr_2 hwr_2 hB hzr_2 hkr_2 hS => ?_)
    rw [htr_2] at hB
    obtain ⟨hP, hD⟩ := hB
    obtain rfl : r_2 = bI (1 = 0) := hwr_2
    have hP : va_P D vwCl (WM cI cZ b mC mR mL mF mpar mwt mstk mflw mc mp mm mf md mv mder mkn 1 ++ R) H := hP
    have hD : va_D A (WM cI cZ b mC mR mL mF mpar mwt mstk mflw mc mp mm mf md mv mder mkn 1 ++ R) := hD
    refine lv_if_eq (tgt := 36) hx hb dX5_sum_21 (by decide) (fun c_21 => ?_) (fun c_21 => ?_)
    · skip
      have c_21 := bI_z c_21
      refine lv_iconst (v := 0) hx hb dX5_sum_36 (by decide) ?_
      exact W.iret (v := 0) hx hb hr (fun t ht hW => ⟨⟨0, (), rfl, rfl, g_PD ht hP hD⟩, hS.F ht⟩) hS.2.2 dX5_sum_37
    · skip
      have c_21 := bI_n c_21
      exact absurd c_21 (by decide)
  · skip
    have c_10 := bI_n c_10
    exact absurd c_10 hno
set_option maxHeartbeats 4000000 in
set_option maxRecDepth 100000 in
/-- the sum -/
theorem c5_sum_0 (l : Launch) (D : va_G) (cI cZ cO cL : ClassId) (dt : Nat) (A : Nat → Prop) (b : Nat → Nat) (mC mR mL mF : Nat) (mpar mwt mstk mflw : Nat → Int32) (mc mp mm mf md : Nat → Nat) (mv mder mkn : Nat → Int32) (thr : Int32) (R : va_W) (ci pi mi fi : Int32) (hF : mF ≤ 80) (hC : mC ≤ 12) (hmf : ∀ k, mf k < 2 ^ 31) (hmd : ∀ k, md k < 2 ^ 31) (hy : ((0 ≤ ci ∧ ci ≤ nI mC - 1) ∧ (0 ≤ pi ∧ pi ≤ 9) ∧ (0 ≤ mi ∧ mi ≤ 3)) ∧ (0 ≤ fi ∧ fi ≤ nI (mL + 1) - 1)) : Met l yX5_sum wsX5_sum ({ frames := 4, cells := 0, slots := 0, locals := 90 } : Room) (gP D cI cZ cO cL dt A [.ref (b 0), .int ci, .int pi, .int mi, .int fi] (fun H => va_P D vwCl (WM cI cZ b mC mR mL mF mpar mwt mstk mflw mc mp mm mf md mv mder mkn thr ++ R) H ∧ va_D A (WM cI cZ b mC mR mL mF mpar mwt mstk mflw mc mp mm mf md mv mder mkn thr ++ R))) (va_Qi (fun (r : Int32) (_ : Unit) => r = sumN mpar mwt (fun k => hM mc mp mm mf md mF (nI k) pi mi fi) mv ci mC) (fun _ t => va_P D vwCl (WM cI cZ b mC mR mL mF mpar mwt mstk mflw mc mp mm mf md mv mder mkn 0 ++ R) t.heap ∧ va_D A (WM cI cZ b mC mR mL mF mpar mwt mstk mflw mc mp mm mf md mv mder mkn 0 ++ R)) A) 0 0 A := by
  refine Met.ofW (cc := cX5_sum) (maxL := 5) (ret := (some .int)) (by decide) rfl ?_
  intro p9 e9 s m9 args below meth c9 s₁ B hml hv
  obtain ⟨rfl, hg, hP, hD⟩ := hv
  have hx := B.exec
  have hb := B.bytes
  have hr := B.returns
  have hts := atoms_spec (ws := wsX5_sum) B.pre
  have hown : s.vm.findClass RX5 = some m9.cls := findClass_of_methodNamed B.named
  have hlocks := B.notSynchronized
  have hK := hg.1
  have hS : va_S A s.heap s.heap [] := va_S.rf
  have hl := lv_entry ([.ref (b 0), .int ci, .int pi, .int mi, .int fi]) (n := 5) (Nat.le_of_ble_eq_true rfl)
  rw [lg_entry_eq]
  generalize (lg_sl ([.ref (b 0), .int ci, .int pi, .int mi, .int fi]) ++ List.replicate (5 - (lg_sl ([.ref (b 0), .int ci, .int pi, .int mi, .int fi])).length) Slot.unset).toArray = ls at hl ⊢
  have hl : lv_has ls 5 [(0, .ref (b 0)), (1, .int ci), (2, .int pi), (3, .int mi), (4, .int fi)] := hl
  refine lv_aload_n hx hb dX5_sum_0 rfl (lv_at hl 0 rfl) ?_
  refine lv_aload_n hx hb dX5_sum_1 rfl (lv_at hl 0 rfl) ?_
  refine lv_iload_n hx hb dX5_sum_2 rfl (lv_at hl 1 rfl) ?_
  refine lv_iload_n hx hb dX5_sum_3 rfl (lv_at hl 2 rfl) ?_
  refine lv_iload_n hx hb dX5_sum_4 rfl (lv_at hl 3 rfl) ?_
  refine lv_iload hx hb dX5_sum_5 (lv_at hl 4 rfl) ?_
  refine g_csi (va_runV (As := [.int ci, .int pi, .int mi, .int fi]) (rest := [.ref (b 0)]) ⟨hx, hb, hml, hown, hts⟩ (c5_isAsked l D cI cZ cO cL dt A b mC mR mL mF mpar mwt mstk mflw mc mp mm mf md mv mder mkn thr R ci pi mi fi) (cwV 4 hts gX5_sum_X5_isAsked rfl rfl rfl (by decide +kernel) ⟨Nat.le_of_ble_eq_true rfl, Nat.le_of_ble_eq_true rfl⟩) (gP.v hg hP 4 rfl (0) (rfl) hP) rfl rfl hl.1 rfl (lv_room (Nat.le_of_ble_eq_true rfl)) dX5_sum_7 ⟨Nat.le_of_ble_eq_true rfl, Nat.le_of_ble_eq_true rfl⟩) (fun r_1 hr_1 => ?_)
  obtain rfl : r_1 = bI (((0 ≤ ci ∧ ci ≤ nI mC - 1) ∧ (0 ≤ pi ∧ pi ≤ 9) ∧ (0 ≤ mi ∧ mi ≤ 3)) ∧ (0 ≤ fi ∧ fi ≤ nI (mL + 1) - 1)) := hr_1
  refine lv_if_eq (tgt := 17) hx hb dX5_sum_10 (by decide) (fun c_10 => ?_) (fun c_10 => ?_)
  · skip
    have c_10 := bI_z c_10
    exact absurd hy c_10
  · skip
    have c_10 := bI_n c_10
    refine lv_iconst (v := 0) hx hb dX5_sum_13 (by decide) ?_
    refine lv_goto (tgt := 18) hx hb dX5_sum_14 (by decide) ?_
    refine va_calli (va_runV (As := [.int 0]) (rest := []) ⟨hx, hb, hml, hown, hts⟩ (c5_can l D cI cZ cO cL dt A b mC mR mL mF mpar mwt mstk mflw mc mp mm mf md mv mder mkn thr R 0) (cwV 1 hts gX5_sum_X5_can rfl rfl rfl (by decide +kernel) ⟨Nat.le_of_ble_eq_true rfl, Nat.le_of_ble_eq_true rfl⟩) (gP.v hg hP 4 rfl (0) (rfl) (⟨hP, hD⟩)) rfl rfl hl.1 rfl (lv_room (Nat.le_of_ble_eq_true rfl)) dX5_sum_18 ⟨Nat.le_of_ble_eq_true rfl, Nat.le_of_ble_eq_true rfl⟩) hS (fun q _ h => h) (fun q h => h) (fun r_2 ur_2 tr_2 H locs htr_2 hvmr_2 hwr_2 hB hzr_2 hkr_2 hS => ?_)
    rw [htr_2] at hB
    obtain ⟨hP, hD⟩ := hB
    obtain rfl : r_2 = bI (0 = 0) := hwr_2
    have hP : va_P D vwCl (WM cI cZ b mC mR mL mF mpar mwt mstk mflw mc mp mm mf md mv mder mkn 0 ++ R) H := hP
    have hD : va_D A (WM cI cZ b mC mR mL mF mpar mwt mstk mflw mc mp mm mf md mv mder mkn 0 ++ R) := hD
    refine lv_if_eq (tgt := 36) hx hb dX5_sum_21 (by decide) (fun c_21 => ?_) (fun c_21 => ?_)
    · skip
      have c_21 := bI_z c_21
      exact absurd (by decide) c_21
    · skip
      have c_21 := bI_n c_21
      refine lv_aload_n hx hb dX5_sum_24 rfl (lv_at hl 0 rfl) ?_
      refine lv_iload_n hx hb dX5_sum_25 rfl (lv_at hl 1 rfl) ?_
      refine lv_iload_n hx hb dX5_sum_26 rfl (lv_at hl 2 rfl) ?_
      refine lv_iload_n hx hb dX5_sum_27 rfl (lv_at hl 3 rfl) ?_
      refine lv_iload hx hb dX5_sum_28 (lv_at hl 4 rfl) ?_
      refine g_csi (va_runV (As := [.int ci, .int pi, .int mi, .int fi]) (rest := []) ⟨hx, hb, hml, hown, hts⟩ (c5_sumOf l D cI cZ cO cL dt A b mC mR mL mF mpar mwt mstk mflw mc mp mm mf md mv mder mkn 0 R ci pi mi fi hF hC hmf hmd) (cwV 4 hts gX5_sum_X5_sumOf rfl rfl rfl (by decide +kernel) ⟨Nat.le_of_ble_eq_true rfl, Nat.le_of_ble_eq_true rfl⟩) (gP.v (hg.on hS) hP 4 rfl (0) (rfl) hP) rfl rfl hl.1 rfl (lv_room (Nat.le_of_ble_eq_true rfl)) dX5_sum_30 ⟨Nat.le_of_ble_eq_true rfl, Nat.le_of_ble_eq_true rfl⟩) (fun r_3 hr_3 => ?_)
      obtain rfl : r_3 = sumN mpar mwt (fun k => hM mc mp mm mf md mF (nI k) pi mi fi) mv ci mC := hr_3
      refine lv_goto (tgt := 37) hx hb dX5_sum_33 (by decide) ?_
      exact W.iret (v := sumN mpar mwt (fun k => hM mc mp mm mf md mF (nI k) pi mi fi) mv ci mC) hx hb hr (fun t ht hW => ⟨⟨sumN mpar mwt (fun k => hM mc mp mm mf md mF (nI k) pi mi fi) mv ci mC, (), rfl, rfl, g_PD ht hP hD⟩, hS.F ht⟩) hS.2.2 dX5_sum_37
set_option maxHeartbeats 4000000 in
set_option maxRecDepth 100000 in
/-- not there -/
theorem c5_isSumOff_1 (l : Launch) (D : va_G) (cI cZ cO cL : ClassId) (dt : Nat) (A : Nat → Prop) (b : Nat → Nat) (mC mR mL mF : Nat) (mpar mwt mstk mflw : Nat → Int32) (mc mp mm mf md : Nat → Nat) (mv mder mkn : Nat → Int32) (thr : Int32) (R : va_W) (ci pi mi fi : Int32) (hno : ¬ (((0 ≤ ci ∧ ci ≤ nI mC - 1) ∧ (0 ≤ pi ∧ pi ≤ 9) ∧ (0 ≤ mi ∧ mi ≤ 3)) ∧ (0 ≤ fi ∧ fi ≤ nI (mL + 1) - 1))) : Met l yX5_isSumOff wsX5_isSumOff ({ frames := 4, cells := 0, slots := 0, locals := 90 } : Room) (gP D cI cZ cO cL dt A [.ref (b 0), .int ci, .int pi, .int mi, .int fi] (fun H => va_P D vwCl (WM cI cZ b mC mR mL mF mpar mwt mstk mflw mc mp mm mf md mv mder mkn thr ++ R) H ∧ va_D A (WM cI cZ b mC mR mL mF mpar mwt mstk mflw mc mp mm mf md mv mder mkn thr ++ R))) (va_Qi (fun (r : Int32) (_ : Unit) => r = 0) (fun _ t => va_P D vwCl (WM cI cZ b mC mR mL mF mpar mwt mstk mflw mc mp mm mf md mv mder mkn 1 ++ R) t.heap ∧ va_D A (WM cI cZ b mC mR mL mF mpar mwt mstk mflw mc mp mm mf md mv mder mkn 1 ++ R)) A) 0 0 A := by
  refine Met.ofW (cc := cX5_isSumOff) (maxL := 5) (ret := (some .boolean)) (by decide) rfl ?_
  intro p9 e9 s m9 args below meth c9 s₁ B hml hv
  obtain ⟨rfl, hg, hP, hD⟩ := hv
  have hx := B.exec
  have hb := B.bytes
  have hr := B.returns
  have hts := atoms_spec (ws := wsX5_isSumOff) B.pre
  have hown : s.vm.findClass RX5 = some m9.cls := findClass_of_methodNamed B.named
  have hlocks := B.notSynchronized
  have hK := hg.1
  have hS : va_S A s.heap s.heap [] := va_S.rf
  have hl := lv_entry ([.ref (b 0), .int ci, .int pi, .int mi, .int fi]) (n := 5) (Nat.le_of_ble_eq_true rfl)
  rw [lg_entry_eq]
  generalize (lg_sl ([.ref (b 0), .int ci, .int pi, .int mi, .int fi]) ++ List.replicate (5 - (lg_sl ([.ref (b 0), .int ci, .int pi, .int mi, .int fi])).length) Slot.unset).toArray = ls at hl ⊢
  have hl : lv_has ls 5 [(0, .ref (b 0)), (1, .int ci), (2, .int pi), (3, .int mi), (4, .int fi)] := hl
  refine lv_aload_n hx hb dX5_isSumOff_0 rfl (lv_at hl 0 rfl) ?_
  refine lv_aload_n hx hb dX5_isSumOff_1 rfl (lv_at hl 0 rfl) ?_
  refine lv_iload_n hx hb dX5_isSumOff_2 rfl (lv_at hl 1 rfl) ?_
  refine lv_iload_n hx hb dX5_isSumOff_3 rfl (lv_at hl 2 rfl) ?_
  refine lv_iload_n hx hb dX5_isSumOff_4 rfl (lv_at hl 3 rfl) ?_
  refine lv_iload hx hb dX5_isSumOff_5 (lv_at hl 4 rfl) ?_
  refine g_csi (va_runV (As := [.int ci, .int pi, .int mi, .int fi]) (rest := [.ref (b 0)]) ⟨hx, hb, hml, hown, hts⟩ (c5_isAsked l D cI cZ cO cL dt A b mC mR mL mF mpar mwt mstk mflw mc mp mm mf md mv mder mkn thr R ci pi mi fi) (cwV 4 hts gX5_isSumOff_X5_isAsked rfl rfl rfl (by decide +kernel) ⟨Nat.le_of_ble_eq_true rfl, Nat.le_of_ble_eq_true rfl⟩) (gP.v hg hP 4 rfl (0) (rfl) hP) rfl rfl hl.1 rfl (lv_room (Nat.le_of_ble_eq_true rfl)) dX5_isSumOff_7 ⟨Nat.le_of_ble_eq_true rfl, Nat.le_of_ble_eq_true rfl⟩) (fun r_1 hr_1 => ?_)
  obtain rfl : r_1 = bI (((0 ≤ ci ∧ ci ≤ nI mC - 1) ∧ (0 ≤ pi ∧ pi ≤ 9) ∧ (0 ≤ mi ∧ mi ≤ 3)) ∧ (0 ≤ fi ∧ fi ≤ nI (mL + 1) - 1)) := hr_1
  refine lv_if_eq (tgt := 17) hx hb dX5_isSumOff_10 (by decide) (fun c_10 => ?_) (fun c_10 => ?_)
  · skip
    have c_10 := bI_z c_10
    refine lv_iconst (v := 1) hx hb dX5_isSumOff_17 (by decide) ?_
    refine va_calli (va_runV (As := [.int 1]) (rest := []) ⟨hx, hb, hml, hown, hts⟩ (c5_can l D cI cZ cO cL dt A b mC mR mL mF mpar mwt mstk mflw mc mp mm mf md mv mder mkn thr R 1) (cwV 1 hts gX5_isSumOff_X5_can rfl rfl rfl (by decide +kernel) ⟨Nat.le_of_ble_eq_true rfl, Nat.le_of_ble_eq_true rfl⟩) (gP.v hg hP 4 rfl (0) (rfl) (⟨hP, hD⟩)) rfl rfl hl.1 rfl (lv_room (Nat.le_of_ble_eq_true rfl)) dX5_isSumOff_18 ⟨Nat.le_of_ble_eq_true rfl, Nat.le_of_ble_eq_true rfl⟩) hS (fun q _ h => h) (fun q h => h) (fun r_2 ur_2 tr_2 H locs htr_2 hvmr_2 hwr_2 hB hzr_2 hkr_2 hS => ?_)
    rw [htr_2] at hB
    obtain ⟨hP, hD⟩ := hB
    obtain rfl : r_2 = bI (1 = 0) := hwr_2
    have hP : va_P D vwCl (WM cI cZ b mC mR mL mF mpar mwt mstk mflw mc mp mm mf md mv mder mkn 1 ++ R) H := hP
    have hD : va_D A (WM cI cZ b mC mR mL mF mpar mwt mstk mflw mc mp mm mf md mv mder mkn 1 ++ R) := hD
    refine lv_if_eq (tgt := 40) hx hb dX5_isSumOff_21 (by decide) (fun c_21 => ?_) (fun c_21 => ?_)
    · skip
      have c_21 := bI_z c_21
      refine lv_iconst (v := 0) hx hb dX5_isSumOff_40 (by decide) ?_
      exact W.zret (v := 0) hx hb hr (rfl) (fun t ht hW => ⟨⟨0, (), rfl, rfl, g_PD ht hP hD⟩, hS.F ht⟩) hS.2.2 dX5_isSumOff_41
    · skip
      have c_21 := bI_n c_21
      exact absurd c_21 (by decide)
  · skip
    have c_10 := bI_n c_10
    exact absurd c_10 hno
set_option maxHeartbeats 4000000 in
set_option maxRecDepth 100000 in
/-- a sum off -/
theorem c5_isSumOff_0 (l : Launch) (D : va_G) (cI cZ cO cL : ClassId) (dt : Nat) (A : Nat → Prop) (b : Nat → Nat) (mC mR mL mF : Nat) (mpar mwt mstk mflw : Nat → Int32) (mc mp mm mf md : Nat → Nat) (mv mder mkn : Nat → Int32) (thr : Int32) (R : va_W) (ci pi mi fi : Int32) (hF : mF ≤ 80) (hC : mC ≤ 12) (hmf : ∀ k, mf k < 2 ^ 31) (hmd : ∀ k, md k < 2 ^ 31) (hy : ((0 ≤ ci ∧ ci ≤ nI mC - 1) ∧ (0 ≤ pi ∧ pi ≤ 9) ∧ (0 ≤ mi ∧ mi ≤ 3)) ∧ (0 ≤ fi ∧ fi ≤ nI (mL + 1) - 1)) : Met l yX5_isSumOff wsX5_isSumOff ({ frames := 4, cells := 0, slots := 0, locals := 107 } : Room) (gP D cI cZ cO cL dt A [.ref (b 0), .int ci, .int pi, .int mi, .int fi] (fun H => va_P D vwCl (WM cI cZ b mC mR mL mF mpar mwt mstk mflw mc mp mm mf md mv mder mkn thr ++ R) H ∧ va_D A (WM cI cZ b mC mR mL mF mpar mwt mstk mflw mc mp mm mf md mv mder mkn thr ++ R))) (va_Qi (fun (r : Int32) (_ : Unit) => r = bI (sumOff mC mpar mwt (fun k => hM mc mp mm mf md mF (nI k) pi mi fi) md mv ci (hM mc mp mm mf md mF ci pi mi fi) = true)) (fun _ t => va_P D vwCl (WM cI cZ b mC mR mL mF mpar mwt mstk mflw mc mp mm mf md mv mder mkn 0 ++ R) t.heap ∧ va_D A (WM cI cZ b mC mR mL mF mpar mwt mstk mflw mc mp mm mf md mv mder mkn 0 ++ R)) A) 0 0 A := by
  refine Met.ofW (cc := cX5_isSumOff) (maxL := 5) (ret := (some .boolean)) (by decide) rfl ?_
  intro p9 e9 s m9 args below meth c9 s₁ B hml hv
  obtain ⟨rfl, hg, hP, hD⟩ := hv
  have hx := B.exec
  have hb := B.bytes
  have hr := B.returns
  have hts := atoms_spec (ws := wsX5_isSumOff) B.pre
  have hown : s.vm.findClass RX5 = some m9.cls := findClass_of_methodNamed B.named
  have hlocks := B.notSynchronized
  have hK := hg.1
  have hS : va_S A s.heap s.heap [] := va_S.rf
  have hl := lv_entry ([.ref (b 0), .int ci, .int pi, .int mi, .int fi]) (n := 5) (Nat.le_of_ble_eq_true rfl)
  rw [lg_entry_eq]
  generalize (lg_sl ([.ref (b 0), .int ci, .int pi, .int mi, .int fi]) ++ List.replicate (5 - (lg_sl ([.ref (b 0), .int ci, .int pi, .int mi, .int fi])).length) Slot.unset).toArray = ls at hl ⊢
  have hl : lv_has ls 5 [(0, .ref (b 0)), (1, .int ci), (2, .int pi), (3, .int mi), (4, .int fi)] := hl
  refine lv_aload_n hx hb dX5_isSumOff_0 rfl (lv_at hl 0 rfl) ?_
  refine lv_aload_n hx hb dX5_isSumOff_1 rfl (lv_at hl 0 rfl) ?_
  refine lv_iload_n hx hb dX5_isSumOff_2 rfl (lv_at hl 1 rfl) ?_
  refine lv_iload_n hx hb dX5_isSumOff_3 rfl (lv_at hl 2 rfl) ?_
  refine lv_iload_n hx hb dX5_isSumOff_4 rfl (lv_at hl 3 rfl) ?_
  refine lv_iload hx hb dX5_isSumOff_5 (lv_at hl 4 rfl) ?_
  refine g_csi (va_runV (As := [.int ci, .int pi, .int mi, .int fi]) (rest := [.ref (b 0)]) ⟨hx, hb, hml, hown, hts⟩ (c5_isAsked l D cI cZ cO cL dt A b mC mR mL mF mpar mwt mstk mflw mc mp mm mf md mv mder mkn thr R ci pi mi fi) (cwV 4 hts gX5_isSumOff_X5_isAsked rfl rfl rfl (by decide +kernel) ⟨Nat.le_of_ble_eq_true rfl, Nat.le_of_ble_eq_true rfl⟩) (gP.v hg hP 4 rfl (0) (rfl) hP) rfl rfl hl.1 rfl (lv_room (Nat.le_of_ble_eq_true rfl)) dX5_isSumOff_7 ⟨Nat.le_of_ble_eq_true rfl, Nat.le_of_ble_eq_true rfl⟩) (fun r_1 hr_1 => ?_)
  obtain rfl : r_1 = bI (((0 ≤ ci ∧ ci ≤ nI mC - 1) ∧ (0 ≤ pi ∧ pi ≤ 9) ∧ (0 ≤ mi ∧ mi ≤ 3)) ∧ (0 ≤ fi ∧ fi ≤ nI (mL + 1) - 1)) := hr_1
  refine lv_if_eq (tgt := 17) hx hb dX5_isSumOff_10 (by decide) (fun c_10 => ?_) (fun c_10 => ?_)
  · skip
    have c_10 := bI_z c_10
    exact absurd hy c_10
  · skip
    have c_10 := bI_n c_10
    refine lv_iconst (v := 0) hx hb dX5_isSumOff_13 (by decide) ?_
    refine lv_goto (tgt := 18) hx hb dX5_isSumOff_14 (by decide) ?_
    refine va_calli (va_runV (As := [.int 0]) (rest := []) ⟨hx, hb, hml, hown, hts⟩ (c5_can l D cI cZ cO cL dt A b mC mR mL mF mpar mwt mstk mflw mc mp mm mf md mv mder mkn thr R 0) (cwV 1 hts gX5_isSumOff_X5_can rfl rfl rfl (by decide +kernel) ⟨Nat.le_of_ble_eq_true rfl, Nat.le_of_ble_eq_true rfl⟩) (gP.v hg hP 4 rfl (0) (rfl) (⟨hP, hD⟩)) rfl rfl hl.1 rfl (lv_room (Nat.le_of_ble_eq_true rfl)) dX5_isSumOff_18 ⟨Nat.le_of_ble_eq_true rfl, Nat.le_of_ble_eq_true rfl⟩) hS (fun q _ h => h) (fun q h => h) (fun r_2 ur_2 tr_2 H locs htr_2 hvmr_2 hwr_2 hB hzr_2 hkr_2 hS => ?_)
    rw [htr_2] at hB
    obtain ⟨hP, hD⟩ := hB
    obtain rfl : r_2 = bI (0 = 0) := hwr_2
    have hP : va_P D vwCl (WM cI cZ b mC mR mL mF mpar mwt mstk mflw mc mp mm mf md mv mder mkn 0 ++ R) H := hP
    have hD : va_D A (WM cI cZ b mC mR mL mF mpar mwt mstk mflw mc mp mm mf md mv mder mkn 0 ++ R) := hD
    refine lv_if_eq (tgt := 40) hx hb dX5_isSumOff_21 (by decide) (fun c_21 => ?_) (fun c_21 => ?_)
    · skip
      have c_21 := bI_z c_21
      exact absurd (by decide) c_21
    · skip
      have c_21 := bI_n c_21
      refine lv_aload_n hx hb dX5_isSumOff_24 rfl (lv_at hl 0 rfl) ?_
      refine lv_iload_n hx hb dX5_isSumOff_25 rfl (lv_at hl 1 rfl) ?_
      refine lv_iload_n hx hb dX5_isSumOff_26 rfl (lv_at hl 2 rfl) ?_
      refine lv_iload_n hx hb dX5_isSumOff_27 rfl (lv_at hl 3 rfl) ?_
      refine lv_iload hx hb dX5_isSumOff_28 (lv_at hl 4 rfl) ?_
      refine g_csi (va_runV (As := [.int ci, .int pi, .int mi, .int fi]) (rest := []) ⟨hx, hb, hml, hown, hts⟩ (c5_isOffBySum l D cI cZ cO cL dt A b mC mR mL mF mpar mwt mstk mflw mc mp mm mf md mv mder mkn 0 R ci pi mi fi hF hC hmf hmd) (cwV 4 hts gX5_isSumOff_X5_isOffBySum rfl rfl rfl (by decide +kernel) ⟨Nat.le_of_ble_eq_true rfl, Nat.le_of_ble_eq_true rfl⟩) (gP.v (hg.on hS) hP 4 rfl (0) (rfl) hP) rfl rfl hl.1 rfl (lv_room (Nat.le_of_ble_eq_true rfl)) dX5_isSumOff_30 ⟨Nat.le_of_ble_eq_true rfl, Nat.le_of_ble_eq_true rfl⟩) (fun r_3 hr_3 => ?_)
      obtain rfl : r_3 = bI (sumOff mC mpar mwt (fun k => hM mc mp mm mf md mF (nI k) pi mi fi) md mv ci (hM mc mp mm mf md mF ci pi mi fi) = true) := hr_3
      refine lv_if_eq (tgt := 40) hx hb dX5_isSumOff_33 (by decide) (fun c_33 => ?_) (fun c_33 => ?_)
      · skip
        have c_33 := bI_z c_33
        refine lv_iconst (v := 0) hx hb dX5_isSumOff_40 (by decide) ?_
        exact W.zret (v := 0) hx hb hr (rfl) (fun t ht hW => ⟨⟨0, (), rfl, (bI_f c_33), g_PD ht hP hD⟩, hS.F ht⟩) hS.2.2 dX5_isSumOff_41
      · skip
        have c_33 := bI_n c_33
        refine lv_iconst (v := 1) hx hb dX5_isSumOff_36 (by decide) ?_
        refine lv_goto (tgt := 41) hx hb dX5_isSumOff_37 (by decide) ?_
        exact W.zret (v := 1) hx hb hr (rfl) (fun t ht hW => ⟨⟨1, (), rfl, (bI_t c_33), g_PD ht hP hD⟩, hS.F ht⟩) hS.2.2 dX5_isSumOff_41
set_option maxHeartbeats 4000000 in
set_option maxRecDepth 100000 in
/-- not there -/
theorem c5_areMembersOff_1 (l : Launch) (D : va_G) (cI cZ cO cL : ClassId) (dt : Nat) (A : Nat → Prop) (b : Nat → Nat) (mC mR mL mF : Nat) (mpar mwt mstk mflw : Nat → Int32) (mc mp mm mf md : Nat → Nat) (mv mder mkn : Nat → Int32) (thr : Int32) (R : va_W) (ci pi fi : Int32) (hno : ¬ (((0 ≤ ci ∧ ci ≤ nI mC - 1) ∧ (0 ≤ pi ∧ pi ≤ 9) ∧ ((0 : Int32) ≤ 0 ∧ (0 : Int32) ≤ 3)) ∧ (0 ≤ fi ∧ fi ≤ nI (mL + 1) - 1))) : Met l yX5_areMembersOff wsX5_areMembersOff ({ frames := 4, cells := 0, slots := 0, locals := 90 } : Room) (gP D cI cZ cO cL dt A [.ref (b 0), .int ci, .int pi, .int fi] (fun H => va_P D vwCl (WM cI cZ b mC mR mL mF mpar mwt mstk mflw mc mp mm mf md mv mder mkn thr ++ R) H ∧ va_D A (WM cI cZ b mC mR mL mF mpar mwt mstk mflw mc mp mm mf md mv mder mkn thr ++ R))) (va_Qi (fun (r : Int32) (_ : Unit) => r = 0) (fun _ t => va_P D vwCl (WM cI cZ b mC mR mL mF mpar mwt mstk mflw mc mp mm mf md mv mder mkn 1 ++ R) t.heap ∧ va_D A (WM cI cZ b mC mR mL mF mpar mwt mstk mflw mc mp mm mf md mv mder mkn 1 ++ R)) A) 0 0 A := by
  refine Met.ofW (cc := cX5_areMembersOff) (maxL := 4) (ret := (some .boolean)) (by decide) rfl ?_
  intro p9 e9 s m9 args below meth c9 s₁ B hml hv
  obtain ⟨rfl, hg, hP, hD⟩ := hv
  have hx := B.exec
  have hb := B.bytes
  have hr := B.returns
  have hts := atoms_spec (ws := wsX5_areMembersOff) B.pre
  have hown : s.vm.findClass RX5 = some m9.cls := findClass_of_methodNamed B.named
  have hlocks := B.notSynchronized
  have hK := hg.1
  have hS : va_S A s.heap s.heap [] := va_S.rf
  have hl := lv_entry ([.ref (b 0), .int ci, .int pi, .int fi]) (n := 4) (Nat.le_of_ble_eq_true rfl)
  rw [lg_entry_eq]
  generalize (lg_sl ([.ref (b 0), .int ci, .int pi, .int fi]) ++ List.replicate (4 - (lg_sl ([.ref (b 0), .int ci, .int pi, .int fi])).length) Slot.unset).toArray = ls at hl ⊢
  have hl : lv_has ls 4 [(0, .ref (b 0)), (1, .int ci), (2, .int pi), (3, .int fi)] := hl
  refine lv_aload_n hx hb dX5_areMembersOff_0 rfl (lv_at hl 0 rfl) ?_
  refine lv_aload_n hx hb dX5_areMembersOff_1 rfl (lv_at hl 0 rfl) ?_
  refine lv_iload_n hx hb dX5_areMembersOff_2 rfl (lv_at hl 1 rfl) ?_
  refine lv_iload_n hx hb dX5_areMembersOff_3 rfl (lv_at hl 2 rfl) ?_
  refine lv_iconst (v := 0) hx hb dX5_areMembersOff_4 (by decide) ?_
  refine lv_iload_n hx hb dX5_areMembersOff_5 rfl (lv_at hl 3 rfl) ?_
  refine g_csi (va_runV (As := [.int ci, .int pi, .int 0, .int fi]) (rest := [.ref (b 0)]) ⟨hx, hb, hml, hown, hts⟩ (c5_isAsked l D cI cZ cO cL dt A b mC mR mL mF mpar mwt mstk mflw mc mp mm mf md mv mder mkn thr R ci pi 0 fi) (cwV 4 hts gX5_areMembersOff_X5_isAsked rfl rfl rfl (by decide +kernel) ⟨Nat.le_of_ble_eq_true rfl, Nat.le_of_ble_eq_true rfl⟩) (gP.v hg hP 4 rfl (0) (rfl) hP) rfl rfl hl.1 rfl (lv_room (Nat.le_of_ble_eq_true rfl)) dX5_areMembersOff_6 ⟨Nat.le_of_ble_eq_true rfl, Nat.le_of_ble_eq_true rfl⟩) (fun r_1 hr_1 => ?_)
  obtain rfl : r_1 = bI (((0 ≤ ci ∧ ci ≤ nI mC - 1) ∧ (0 ≤ pi ∧ pi ≤ 9) ∧ (0 ≤ 0 ∧ 0 ≤ 3)) ∧ (0 ≤ fi ∧ fi ≤ nI (mL + 1) - 1)) := hr_1
  refine lv_if_eq (tgt := 16) hx hb dX5_areMembersOff_9 (by decide) (fun c_9 => ?_) (fun c_9 => ?_)
  · skip
    have c_9 := bI_z c_9
    refine lv_iconst (v := 1) hx hb dX5_areMembersOff_16 (by decide) ?_
    refine va_calli (va_runV (As := [.int 1]) (rest := []) ⟨hx, hb, hml, hown, hts⟩ (c5_can l D cI cZ cO cL dt A b mC mR mL mF mpar mwt mstk mflw mc mp mm mf md mv mder mkn thr R 1) (cwV 1 hts gX5_areMembersOff_X5_can rfl rfl rfl (by decide +kernel) ⟨Nat.le_of_ble_eq_true rfl, Nat.le_of_ble_eq_true rfl⟩) (gP.v hg hP 4 rfl (0) (rfl) (⟨hP, hD⟩)) rfl rfl hl.1 rfl (lv_room (Nat.le_of_ble_eq_true rfl)) dX5_areMembersOff_17 ⟨Nat.le_of_ble_eq_true rfl, Nat.le_of_ble_eq_true rfl⟩) hS (fun q _ h => h) (fun q h => h) (fun r_2 ur_2 tr_2 H locs htr_2 hvmr_2 hwr_2 hB hzr_2 hkr_2 hS => ?_)
    rw [htr_2] at hB
    obtain ⟨hP, hD⟩ := hB
    obtain rfl : r_2 = bI (1 = 0) := hwr_2
    have hP : va_P D vwCl (WM cI cZ b mC mR mL mF mpar mwt mstk mflw mc mp mm mf md mv mder mkn 1 ++ R) H := hP
    have hD : va_D A (WM cI cZ b mC mR mL mF mpar mwt mstk mflw mc mp mm mf md mv mder mkn 1 ++ R) := hD
    refine lv_if_eq (tgt := 37) hx hb dX5_areMembersOff_20 (by decide) (fun c_20 => ?_) (fun c_20 => ?_)
    · skip
      have c_20 := bI_z c_20
      refine lv_iconst (v := 0) hx hb dX5_areMembersOff_37 (by decide) ?_
      exact W.zret (v := 0) hx hb hr (rfl) (fun t ht hW => ⟨⟨0, (), rfl, rfl, g_PD ht hP hD⟩, hS.F ht⟩) hS.2.2 dX5_areMembersOff_38
    · skip
      have c_20 := bI_n c_20
      exact absurd c_20 (by decide)
  · skip
    have c_9 := bI_n c_9
    exact absurd c_9 hno
set_option maxHeartbeats 4000000 in
set_option maxRecDepth 100000 in
/-- members off -/
theorem c5_areMembersOff_0 (l : Launch) (D : va_G) (cI cZ cO cL : ClassId) (dt : Nat) (A : Nat → Prop) (b : Nat → Nat) (mC mR mL mF : Nat) (mpar mwt mstk mflw : Nat → Int32) (mc mp mm mf md : Nat → Nat) (mv mder mkn : Nat → Int32) (thr : Int32) (R : va_W) (ci pi fi : Int32) (hF : mF ≤ 80) (hC : mC ≤ 12) (hmf : ∀ k, mf k < 2 ^ 31) (hmd : ∀ k, md k < 2 ^ 31) (hy : ((0 ≤ ci ∧ ci ≤ nI mC - 1) ∧ (0 ≤ pi ∧ pi ≤ 9) ∧ ((0 : Int32) ≤ 0 ∧ (0 : Int32) ≤ 3)) ∧ (0 ≤ fi ∧ fi ≤ nI (mL + 1) - 1)) : Met l yX5_areMembersOff wsX5_areMembersOff ({ frames := 4, cells := 0, slots := 0, locals := 90 } : Room) (gP D cI cZ cO cL dt A [.ref (b 0), .int ci, .int pi, .int fi] (fun H => va_P D vwCl (WM cI cZ b mC mR mL mF mpar mwt mstk mflw mc mp mm mf md mv mder mkn thr ++ R) H ∧ va_D A (WM cI cZ b mC mR mL mF mpar mwt mstk mflw mc mp mm mf md mv mder mkn thr ++ R))) (va_Qi (fun (r : Int32) (_ : Unit) => r = bI (memOff (fun m => hM mc mp mm mf md mF ci pi (nI m) fi) md mv = true)) (fun _ t => va_P D vwCl (WM cI cZ b mC mR mL mF mpar mwt mstk mflw mc mp mm mf md mv mder mkn 0 ++ R) t.heap ∧ va_D A (WM cI cZ b mC mR mL mF mpar mwt mstk mflw mc mp mm mf md mv mder mkn 0 ++ R)) A) 0 0 A := by
  refine Met.ofW (cc := cX5_areMembersOff) (maxL := 4) (ret := (some .boolean)) (by decide) rfl ?_
  intro p9 e9 s m9 args below meth c9 s₁ B hml hv
  obtain ⟨rfl, hg, hP, hD⟩ := hv
  have hx := B.exec
  have hb := B.bytes
  have hr := B.returns
  have hts := atoms_spec (ws := wsX5_areMembersOff) B.pre
  have hown : s.vm.findClass RX5 = some m9.cls := findClass_of_methodNamed B.named
  have hlocks := B.notSynchronized
  have hK := hg.1
  have hS : va_S A s.heap s.heap [] := va_S.rf
  have hl := lv_entry ([.ref (b 0), .int ci, .int pi, .int fi]) (n := 4) (Nat.le_of_ble_eq_true rfl)
  rw [lg_entry_eq]
  generalize (lg_sl ([.ref (b 0), .int ci, .int pi, .int fi]) ++ List.replicate (4 - (lg_sl ([.ref (b 0), .int ci, .int pi, .int fi])).length) Slot.unset).toArray = ls at hl ⊢
  have hl : lv_has ls 4 [(0, .ref (b 0)), (1, .int ci), (2, .int pi), (3, .int fi)] := hl
  refine lv_aload_n hx hb dX5_areMembersOff_0 rfl (lv_at hl 0 rfl) ?_
  refine lv_aload_n hx hb dX5_areMembersOff_1 rfl (lv_at hl 0 rfl) ?_
  refine lv_iload_n hx hb dX5_areMembersOff_2 rfl (lv_at hl 1 rfl) ?_
  refine lv_iload_n hx hb dX5_areMembersOff_3 rfl (lv_at hl 2 rfl) ?_
  refine lv_iconst (v := 0) hx hb dX5_areMembersOff_4 (by decide) ?_
  refine lv_iload_n hx hb dX5_areMembersOff_5 rfl (lv_at hl 3 rfl) ?_
  refine g_csi (va_runV (As := [.int ci, .int pi, .int 0, .int fi]) (rest := [.ref (b 0)]) ⟨hx, hb, hml, hown, hts⟩ (c5_isAsked l D cI cZ cO cL dt A b mC mR mL mF mpar mwt mstk mflw mc mp mm mf md mv mder mkn thr R ci pi 0 fi) (cwV 4 hts gX5_areMembersOff_X5_isAsked rfl rfl rfl (by decide +kernel) ⟨Nat.le_of_ble_eq_true rfl, Nat.le_of_ble_eq_true rfl⟩) (gP.v hg hP 4 rfl (0) (rfl) hP) rfl rfl hl.1 rfl (lv_room (Nat.le_of_ble_eq_true rfl)) dX5_areMembersOff_6 ⟨Nat.le_of_ble_eq_true rfl, Nat.le_of_ble_eq_true rfl⟩) (fun r_1 hr_1 => ?_)
  obtain rfl : r_1 = bI (((0 ≤ ci ∧ ci ≤ nI mC - 1) ∧ (0 ≤ pi ∧ pi ≤ 9) ∧ (0 ≤ 0 ∧ 0 ≤ 3)) ∧ (0 ≤ fi ∧ fi ≤ nI (mL + 1) - 1)) := hr_1
  refine lv_if_eq (tgt := 16) hx hb dX5_areMembersOff_9 (by decide) (fun c_9 => ?_) (fun c_9 => ?_)
  · skip
    have c_9 := bI_z c_9
    exact absurd hy c_9
  · skip
    have c_9 := bI_n c_9
    refine lv_iconst (v := 0) hx hb dX5_areMembersOff_12 (by decide) ?_
    refine lv_goto (tgt := 17) hx hb dX5_areMembersOff_13 (by decide) ?_
    refine va_calli (va_runV (As := [.int 0]) (rest := []) ⟨hx, hb, hml, hown, hts⟩ (c5_can l D cI cZ cO cL dt A b mC mR mL mF mpar mwt mstk mflw mc mp mm mf md mv mder mkn thr R 0) (cwV 1 hts gX5_areMembersOff_X5_can rfl rfl rfl (by decide +kernel) ⟨Nat.le_of_ble_eq_true rfl, Nat.le_of_ble_eq_true rfl⟩) (gP.v hg hP 4 rfl (0) (rfl) (⟨hP, hD⟩)) rfl rfl hl.1 rfl (lv_room (Nat.le_of_ble_eq_true rfl)) dX5_areMembersOff_17 ⟨Nat.le_of_ble_eq_true rfl, Nat.le_of_ble_eq_true rfl⟩) hS (fun q _ h => h) (fun q h => h) (fun r_2 ur_2 tr_2 H locs htr_2 hvmr_2 hwr_2 hB hzr_2 hkr_2 hS => ?_)
    rw [htr_2] at hB
    obtain ⟨hP, hD⟩ := hB
    obtain rfl : r_2 = bI (0 = 0) := hwr_2
    have hP : va_P D vwCl (WM cI cZ b mC mR mL mF mpar mwt mstk mflw mc mp mm mf md mv mder mkn 0 ++ R) H := hP
    have hD : va_D A (WM cI cZ b mC mR mL mF mpar mwt mstk mflw mc mp mm mf md mv mder mkn 0 ++ R) := hD
    refine lv_if_eq (tgt := 37) hx hb dX5_areMembersOff_20 (by decide) (fun c_20 => ?_) (fun c_20 => ?_)
    · skip
      have c_20 := bI_z c_20
      exact absurd (by decide) c_20
    · skip
      have c_20 := bI_n c_20
      refine lv_aload_n hx hb dX5_areMembersOff_23 rfl (lv_at hl 0 rfl) ?_
      refine lv_iload_n hx hb dX5_areMembersOff_24 rfl (lv_at hl 1 rfl) ?_
      refine lv_iload_n hx hb dX5_areMembersOff_25 rfl (lv_at hl 2 rfl) ?_
      refine lv_iload_n hx hb dX5_areMembersOff_26 rfl (lv_at hl 3 rfl) ?_
      refine g_csi (va_runV (As := [.int ci, .int pi, .int fi]) (rest := []) ⟨hx, hb, hml, hown, hts⟩ (c5_isOffByMembers l D cI cZ cO cL dt A b mC mR mL mF mpar mwt mstk mflw mc mp mm mf md mv mder mkn 0 R ci pi fi hF hC hmf hmd) (cwV 3 hts gX5_areMembersOff_X5_isOffByMembers rfl rfl rfl (by decide +kernel) ⟨Nat.le_of_ble_eq_true rfl, Nat.le_of_ble_eq_true rfl⟩) (gP.v (hg.on hS) hP 4 rfl (0) (rfl) hP) rfl rfl hl.1 rfl (lv_room (Nat.le_of_ble_eq_true rfl)) dX5_areMembersOff_27 ⟨Nat.le_of_ble_eq_true rfl, Nat.le_of_ble_eq_true rfl⟩) (fun r_3 hr_3 => ?_)
      obtain rfl : r_3 = bI (memOff (fun m => hM mc mp mm mf md mF ci pi (nI m) fi) md mv = true) := hr_3
      refine lv_if_eq (tgt := 37) hx hb dX5_areMembersOff_30 (by decide) (fun c_30 => ?_) (fun c_30 => ?_)
      · skip
        have c_30 := bI_z c_30
        refine lv_iconst (v := 0) hx hb dX5_areMembersOff_37 (by decide) ?_
        exact W.zret (v := 0) hx hb hr (rfl) (fun t ht hW => ⟨⟨0, (), rfl, (bI_f c_30), g_PD ht hP hD⟩, hS.F ht⟩) hS.2.2 dX5_areMembersOff_38
      · skip
        have c_30 := bI_n c_30
        refine lv_iconst (v := 1) hx hb dX5_areMembersOff_33 (by decide) ?_
        refine lv_goto (tgt := 38) hx hb dX5_areMembersOff_34 (by decide) ?_
        exact W.zret (v := 1) hx hb hr (rfl) (fun t ht hW => ⟨⟨1, (), rfl, (bI_t c_30), g_PD ht hP hD⟩, hS.F ht⟩) hS.2.2 dX5_areMembersOff_38
set_option maxHeartbeats 4000000 in
set_option maxRecDepth 100000 in
/-- not there -/
theorem c5_isRollOff_1 (l : Launch) (D : va_G) (cI cZ cO cL : ClassId) (dt : Nat) (A : Nat → Prop) (b : Nat → Nat) (mC mR mL mF : Nat) (mpar mwt mstk mflw : Nat → Int32) (mc mp mm mf md : Nat → Nat) (mv mder mkn : Nat → Int32) (thr : Int32) (R : va_W) (ri pi mi fi : Int32) (hno : ¬ ((0 ≤ ri ∧ ri ≤ nI mR - 1) ∧ (0 ≤ pi ∧ pi ≤ 9) ∧ (0 ≤ mi ∧ mi ≤ 3) ∧ (0 ≤ fi ∧ fi ≤ nI (mL + 1) - 1))) : Met l yX5_isRollOff wsX5_isRollOff ({ frames := 2, cells := 0, slots := 0, locals := 43 } : Room) (gP D cI cZ cO cL dt A [.ref (b 0), .int ri, .int pi, .int mi, .int fi] (fun H => va_P D vwCl (WM cI cZ b mC mR mL mF mpar mwt mstk mflw mc mp mm mf md mv mder mkn thr ++ R) H ∧ va_D A (WM cI cZ b mC mR mL mF mpar mwt mstk mflw mc mp mm mf md mv mder mkn thr ++ R))) (va_Qi (fun (r : Int32) (_ : Unit) => r = 0) (fun _ t => va_P D vwCl (WM cI cZ b mC mR mL mF mpar mwt mstk mflw mc mp mm mf md mv mder mkn 1 ++ R) t.heap ∧ va_D A (WM cI cZ b mC mR mL mF mpar mwt mstk mflw mc mp mm mf md mv mder mkn 1 ++ R)) A) 0 0 A := by
  refine Met.ofW (cc := cX5_isRollOff) (maxL := 6) (ret := (some .boolean)) (by decide) rfl ?_
  intro p9 e9 s m9 args below meth c9 s₁ B hml hv
  obtain ⟨rfl, hg, hP, hD⟩ := hv
  have hx := B.exec
  have hb := B.bytes
  have hr := B.returns
  have hts := atoms_spec (ws := wsX5_isRollOff) B.pre
  have hown : s.vm.findClass RX5 = some m9.cls := findClass_of_methodNamed B.named
  have hlocks := B.notSynchronized
  have hK := hg.1
  have hS : va_S A s.heap s.heap [] := va_S.rf
  have w_0 := hts (.fieldLink RX5 72 "DimfactsModel" "rolls" "I") (by decide +kernel)
  have win_X5 : ∀ w ∈ wsX50, w ∈ wsX5_isRollOff := by decide +kernel
  have hl := lv_entry ([.ref (b 0), .int ri, .int pi, .int mi, .int fi]) (n := 6) (Nat.le_of_ble_eq_true rfl)
  rw [lg_entry_eq]
  generalize (lg_sl ([.ref (b 0), .int ri, .int pi, .int mi, .int fi]) ++ List.replicate (6 - (lg_sl ([.ref (b 0), .int ri, .int pi, .int mi, .int fi])).length) Slot.unset).toArray = ls at hl ⊢
  have hl : lv_has ls 6 [(0, .ref (b 0)), (1, .int ri), (2, .int pi), (3, .int mi), (4, .int fi)] := hl
  refine lv_iload_n hx hb dX5_isRollOff_0 rfl (lv_at hl 1 rfl) ?_
  refine lv_iconst (v := 0) hx hb dX5_isRollOff_1 (by decide) ?_
  refine lv_aload_n hx hb dX5_isRollOff_2 rfl (lv_at hl 0 rfl) ?_
  refine va_get (D := D) (ci := 4) (v := .int (nI mR)) (C := RX5) (T := TX5) (N := 17) hx hb hts win_X5 hown hK hP (0) (rfl) rfl 3 (by decide) w_0 (fun _ h9 => h9) rfl dX5_isRollOff_3 ?_
  refine lv_iconst (v := 1) hx hb dX5_isRollOff_6 (by decide) ?_
  refine lv_isub hx hb dX5_isRollOff_7 ?_
  refine g_csi (va_runS (As := [.int ri, .int 0, .int ((nI mR) - 1)]) (rest := []) ⟨hx, hb, hml, hown, hts⟩ (c5_isIn l D cI cZ cO cL dt A ri 0 ((nI mR) - 1) (WM cI cZ b mC mR mL mF mpar mwt mstk mflw mc mp mm mf md mv mder mkn thr ++ R)) (va_cwS 3 hts gX5_isRollOff_X5_isIn rfl rfl rfl (by decide +kernel) ⟨Nat.le_of_ble_eq_true rfl, Nat.le_of_ble_eq_true rfl⟩) (gP.s hg hP) rfl rfl hl.1 rfl (lv_room (Nat.le_of_ble_eq_true rfl)) dX5_isRollOff_8 ⟨Nat.le_of_ble_eq_true rfl, Nat.le_of_ble_eq_true rfl⟩) (fun r_1 hr_1 => ?_)
  obtain rfl : r_1 = bI (0 ≤ ri ∧ ri ≤ (nI mR) - 1) := hr_1
  refine lv_if_eq (tgt := 46) hx hb dX5_isRollOff_11 (by decide) (fun c_11 => ?_) (fun c_11 => ?_)
  · skip
    have c_11 := bI_z c_11
    refine lv_iconst (v := 0) hx hb dX5_isRollOff_46 (by decide) ?_
    refine lv_istore (lv' := [(5, .int 0), (0, .ref (b 0)), (1, .int ri), (2, .int pi), (3, .int mi), (4, .int fi)]) hx hb dX5_isRollOff_47 hl (by decide) rfl (fun ls hl => ?_)
    refine lv_aload_n hx hb dX5_isRollOff_49 rfl (lv_at hl 1 rfl) ?_
    refine lv_iload hx hb dX5_isRollOff_50 (lv_at hl 0 rfl) ?_
    refine lv_if_eq (tgt := 59) hx hb dX5_isRollOff_52 (by decide) (fun c_52 => ?_) (fun c_52 => ?_)
    · skip
      refine lv_iconst (v := 1) hx hb dX5_isRollOff_59 (by decide) ?_
      refine va_calli (va_runV (As := [.int 1]) (rest := []) ⟨hx, hb, hml, hown, hts⟩ (c5_can l D cI cZ cO cL dt A b mC mR mL mF mpar mwt mstk mflw mc mp mm mf md mv mder mkn thr R 1) (cwV 1 hts gX5_isRollOff_X5_can rfl rfl rfl (by decide +kernel) ⟨Nat.le_of_ble_eq_true rfl, Nat.le_of_ble_eq_true rfl⟩) (gP.v hg hP 4 rfl (0) (rfl) (⟨hP, hD⟩)) rfl rfl hl.1 rfl (lv_room (Nat.le_of_ble_eq_true rfl)) dX5_isRollOff_60 ⟨Nat.le_of_ble_eq_true rfl, Nat.le_of_ble_eq_true rfl⟩) hS (fun q _ h => h) (fun q h => h) (fun r_2 ur_2 tr_2 H locs htr_2 hvmr_2 hwr_2 hB hzr_2 hkr_2 hS => ?_)
      rw [htr_2] at hB
      obtain ⟨hP, hD⟩ := hB
      obtain rfl : r_2 = bI (1 = 0) := hwr_2
      have hP : va_P D vwCl (WM cI cZ b mC mR mL mF mpar mwt mstk mflw mc mp mm mf md mv mder mkn 1 ++ R) H := hP
      have hD : va_D A (WM cI cZ b mC mR mL mF mpar mwt mstk mflw mc mp mm mf md mv mder mkn 1 ++ R) := hD
      refine lv_if_eq (tgt := 82) hx hb dX5_isRollOff_63 (by decide) (fun c_63 => ?_) (fun c_63 => ?_)
      · skip
        have c_63 := bI_z c_63
        refine lv_iconst (v := 0) hx hb dX5_isRollOff_82 (by decide) ?_
        exact W.zret (v := 0) hx hb hr (rfl) (fun t ht hW => ⟨⟨0, (), rfl, rfl, g_PD ht hP hD⟩, hS.F ht⟩) hS.2.2 dX5_isRollOff_83
      · skip
        have c_63 := bI_n c_63
        exact absurd c_63 (by decide)
    · skip
      exact absurd c_52 (by decide)
  · skip
    have c_11 := bI_n c_11
    refine lv_iload_n hx hb dX5_isRollOff_14 rfl (lv_at hl 2 rfl) ?_
    refine lv_iconst (v := 0) hx hb dX5_isRollOff_15 (by decide) ?_
    refine lv_bipush (v := 9) hx hb dX5_isRollOff_16 (by decide) ?_
    refine g_csi (va_runS (As := [.int pi, .int 0, .int 9]) (rest := []) ⟨hx, hb, hml, hown, hts⟩ (c5_isIn l D cI cZ cO cL dt A pi 0 9 (WM cI cZ b mC mR mL mF mpar mwt mstk mflw mc mp mm mf md mv mder mkn thr ++ R)) (va_cwS 3 hts gX5_isRollOff_X5_isIn rfl rfl rfl (by decide +kernel) ⟨Nat.le_of_ble_eq_true rfl, Nat.le_of_ble_eq_true rfl⟩) (gP.s hg hP) rfl rfl hl.1 rfl (lv_room (Nat.le_of_ble_eq_true rfl)) dX5_isRollOff_18 ⟨Nat.le_of_ble_eq_true rfl, Nat.le_of_ble_eq_true rfl⟩) (fun r_3 hr_3 => ?_)
    obtain rfl : r_3 = bI (0 ≤ pi ∧ pi ≤ 9) := hr_3
    refine lv_if_eq (tgt := 46) hx hb dX5_isRollOff_21 (by decide) (fun c_21 => ?_) (fun c_21 => ?_)
    · skip
      have c_21 := bI_z c_21
      refine lv_iconst (v := 0) hx hb dX5_isRollOff_46 (by decide) ?_
      refine lv_istore (lv' := [(5, .int 0), (0, .ref (b 0)), (1, .int ri), (2, .int pi), (3, .int mi), (4, .int fi)]) hx hb dX5_isRollOff_47 hl (by decide) rfl (fun ls hl => ?_)
      refine lv_aload_n hx hb dX5_isRollOff_49 rfl (lv_at hl 1 rfl) ?_
      refine lv_iload hx hb dX5_isRollOff_50 (lv_at hl 0 rfl) ?_
      refine lv_if_eq (tgt := 59) hx hb dX5_isRollOff_52 (by decide) (fun c_52 => ?_) (fun c_52 => ?_)
      · skip
        refine lv_iconst (v := 1) hx hb dX5_isRollOff_59 (by decide) ?_
        refine va_calli (va_runV (As := [.int 1]) (rest := []) ⟨hx, hb, hml, hown, hts⟩ (c5_can l D cI cZ cO cL dt A b mC mR mL mF mpar mwt mstk mflw mc mp mm mf md mv mder mkn thr R 1) (cwV 1 hts gX5_isRollOff_X5_can rfl rfl rfl (by decide +kernel) ⟨Nat.le_of_ble_eq_true rfl, Nat.le_of_ble_eq_true rfl⟩) (gP.v hg hP 4 rfl (0) (rfl) (⟨hP, hD⟩)) rfl rfl hl.1 rfl (lv_room (Nat.le_of_ble_eq_true rfl)) dX5_isRollOff_60 ⟨Nat.le_of_ble_eq_true rfl, Nat.le_of_ble_eq_true rfl⟩) hS (fun q _ h => h) (fun q h => h) (fun r_4 ur_4 tr_4 H locs htr_4 hvmr_4 hwr_4 hB hzr_4 hkr_4 hS => ?_)
        rw [htr_4] at hB
        obtain ⟨hP, hD⟩ := hB
        obtain rfl : r_4 = bI (1 = 0) := hwr_4
        have hP : va_P D vwCl (WM cI cZ b mC mR mL mF mpar mwt mstk mflw mc mp mm mf md mv mder mkn 1 ++ R) H := hP
        have hD : va_D A (WM cI cZ b mC mR mL mF mpar mwt mstk mflw mc mp mm mf md mv mder mkn 1 ++ R) := hD
        refine lv_if_eq (tgt := 82) hx hb dX5_isRollOff_63 (by decide) (fun c_63 => ?_) (fun c_63 => ?_)
        · skip
          have c_63 := bI_z c_63
          refine lv_iconst (v := 0) hx hb dX5_isRollOff_82 (by decide) ?_
          exact W.zret (v := 0) hx hb hr (rfl) (fun t ht hW => ⟨⟨0, (), rfl, rfl, g_PD ht hP hD⟩, hS.F ht⟩) hS.2.2 dX5_isRollOff_83
        · skip
          have c_63 := bI_n c_63
          exact absurd c_63 (by decide)
      · skip
        exact absurd c_52 (by decide)
    · skip
      have c_21 := bI_n c_21
      refine lv_iload_n hx hb dX5_isRollOff_24 rfl (lv_at hl 3 rfl) ?_
      refine lv_iconst (v := 0) hx hb dX5_isRollOff_25 (by decide) ?_
      refine lv_iconst (v := 3) hx hb dX5_isRollOff_26 (by decide) ?_
      refine g_csi (va_runS (As := [.int mi, .int 0, .int 3]) (rest := []) ⟨hx, hb, hml, hown, hts⟩ (c5_isIn l D cI cZ cO cL dt A mi 0 3 (WM cI cZ b mC mR mL mF mpar mwt mstk mflw mc mp mm mf md mv mder mkn thr ++ R)) (va_cwS 3 hts gX5_isRollOff_X5_isIn rfl rfl rfl (by decide +kernel) ⟨Nat.le_of_ble_eq_true rfl, Nat.le_of_ble_eq_true rfl⟩) (gP.s hg hP) rfl rfl hl.1 rfl (lv_room (Nat.le_of_ble_eq_true rfl)) dX5_isRollOff_27 ⟨Nat.le_of_ble_eq_true rfl, Nat.le_of_ble_eq_true rfl⟩) (fun r_5 hr_5 => ?_)
      obtain rfl : r_5 = bI (0 ≤ mi ∧ mi ≤ 3) := hr_5
      refine lv_if_eq (tgt := 46) hx hb dX5_isRollOff_30 (by decide) (fun c_30 => ?_) (fun c_30 => ?_)
      · skip
        have c_30 := bI_z c_30
        refine lv_iconst (v := 0) hx hb dX5_isRollOff_46 (by decide) ?_
        refine lv_istore (lv' := [(5, .int 0), (0, .ref (b 0)), (1, .int ri), (2, .int pi), (3, .int mi), (4, .int fi)]) hx hb dX5_isRollOff_47 hl (by decide) rfl (fun ls hl => ?_)
        refine lv_aload_n hx hb dX5_isRollOff_49 rfl (lv_at hl 1 rfl) ?_
        refine lv_iload hx hb dX5_isRollOff_50 (lv_at hl 0 rfl) ?_
        refine lv_if_eq (tgt := 59) hx hb dX5_isRollOff_52 (by decide) (fun c_52 => ?_) (fun c_52 => ?_)
        · skip
          refine lv_iconst (v := 1) hx hb dX5_isRollOff_59 (by decide) ?_
          refine va_calli (va_runV (As := [.int 1]) (rest := []) ⟨hx, hb, hml, hown, hts⟩ (c5_can l D cI cZ cO cL dt A b mC mR mL mF mpar mwt mstk mflw mc mp mm mf md mv mder mkn thr R 1) (cwV 1 hts gX5_isRollOff_X5_can rfl rfl rfl (by decide +kernel) ⟨Nat.le_of_ble_eq_true rfl, Nat.le_of_ble_eq_true rfl⟩) (gP.v hg hP 4 rfl (0) (rfl) (⟨hP, hD⟩)) rfl rfl hl.1 rfl (lv_room (Nat.le_of_ble_eq_true rfl)) dX5_isRollOff_60 ⟨Nat.le_of_ble_eq_true rfl, Nat.le_of_ble_eq_true rfl⟩) hS (fun q _ h => h) (fun q h => h) (fun r_6 ur_6 tr_6 H locs htr_6 hvmr_6 hwr_6 hB hzr_6 hkr_6 hS => ?_)
          rw [htr_6] at hB
          obtain ⟨hP, hD⟩ := hB
          obtain rfl : r_6 = bI (1 = 0) := hwr_6
          have hP : va_P D vwCl (WM cI cZ b mC mR mL mF mpar mwt mstk mflw mc mp mm mf md mv mder mkn 1 ++ R) H := hP
          have hD : va_D A (WM cI cZ b mC mR mL mF mpar mwt mstk mflw mc mp mm mf md mv mder mkn 1 ++ R) := hD
          refine lv_if_eq (tgt := 82) hx hb dX5_isRollOff_63 (by decide) (fun c_63 => ?_) (fun c_63 => ?_)
          · skip
            have c_63 := bI_z c_63
            refine lv_iconst (v := 0) hx hb dX5_isRollOff_82 (by decide) ?_
            exact W.zret (v := 0) hx hb hr (rfl) (fun t ht hW => ⟨⟨0, (), rfl, rfl, g_PD ht hP hD⟩, hS.F ht⟩) hS.2.2 dX5_isRollOff_83
          · skip
            have c_63 := bI_n c_63
            exact absurd c_63 (by decide)
        · skip
          exact absurd c_52 (by decide)
      · skip
        have c_30 := bI_n c_30
        refine lv_aload_n hx hb dX5_isRollOff_33 rfl (lv_at hl 0 rfl) ?_
        refine lv_iload hx hb dX5_isRollOff_34 (lv_at hl 4 rfl) ?_
        refine g_csi (va_runV (As := [.int fi]) (rest := []) ⟨hx, hb, hml, hown, hts⟩ (c5_isFiling l D cI cZ cO cL dt A b mC mR mL mF mpar mwt mstk mflw mc mp mm mf md mv mder mkn thr R fi) (cwV 1 hts gX5_isRollOff_X5_isFiling rfl rfl rfl (by decide +kernel) ⟨Nat.le_of_ble_eq_true rfl, Nat.le_of_ble_eq_true rfl⟩) (gP.v hg hP 4 rfl (0) (rfl) hP) rfl rfl hl.1 rfl (lv_room (Nat.le_of_ble_eq_true rfl)) dX5_isRollOff_36 ⟨Nat.le_of_ble_eq_true rfl, Nat.le_of_ble_eq_true rfl⟩) (fun r_7 hr_7 => ?_)
        obtain rfl : r_7 = bI (0 ≤ fi ∧ fi ≤ nI (mL + 1) - 1) := hr_7
        refine lv_if_eq (tgt := 46) hx hb dX5_isRollOff_39 (by decide) (fun c_39 => ?_) (fun c_39 => ?_)
        · skip
          have c_39 := bI_z c_39
          refine lv_iconst (v := 0) hx hb dX5_isRollOff_46 (by decide) ?_
          refine lv_istore (lv' := [(5, .int 0), (0, .ref (b 0)), (1, .int ri), (2, .int pi), (3, .int mi), (4, .int fi)]) hx hb dX5_isRollOff_47 hl (by decide) rfl (fun ls hl => ?_)
          refine lv_aload_n hx hb dX5_isRollOff_49 rfl (lv_at hl 1 rfl) ?_
          refine lv_iload hx hb dX5_isRollOff_50 (lv_at hl 0 rfl) ?_
          refine lv_if_eq (tgt := 59) hx hb dX5_isRollOff_52 (by decide) (fun c_52 => ?_) (fun c_52 => ?_)
          · skip
            refine lv_iconst (v := 1) hx hb dX5_isRollOff_59 (by decide) ?_
            refine va_calli (va_runV (As := [.int 1]) (rest := []) ⟨hx, hb, hml, hown, hts⟩ (c5_can l D cI cZ cO cL dt A b mC mR mL mF mpar mwt mstk mflw mc mp mm mf md mv mder mkn thr R 1) (cwV 1 hts gX5_isRollOff_X5_can rfl rfl rfl (by decide +kernel) ⟨Nat.le_of_ble_eq_true rfl, Nat.le_of_ble_eq_true rfl⟩) (gP.v hg hP 4 rfl (0) (rfl) (⟨hP, hD⟩)) rfl rfl hl.1 rfl (lv_room (Nat.le_of_ble_eq_true rfl)) dX5_isRollOff_60 ⟨Nat.le_of_ble_eq_true rfl, Nat.le_of_ble_eq_true rfl⟩) hS (fun q _ h => h) (fun q h => h) (fun r_8 ur_8 tr_8 H locs htr_8 hvmr_8 hwr_8 hB hzr_8 hkr_8 hS => ?_)
            rw [htr_8] at hB
            obtain ⟨hP, hD⟩ := hB
            obtain rfl : r_8 = bI (1 = 0) := hwr_8
            have hP : va_P D vwCl (WM cI cZ b mC mR mL mF mpar mwt mstk mflw mc mp mm mf md mv mder mkn 1 ++ R) H := hP
            have hD : va_D A (WM cI cZ b mC mR mL mF mpar mwt mstk mflw mc mp mm mf md mv mder mkn 1 ++ R) := hD
            refine lv_if_eq (tgt := 82) hx hb dX5_isRollOff_63 (by decide) (fun c_63 => ?_) (fun c_63 => ?_)
            · skip
              have c_63 := bI_z c_63
              refine lv_iconst (v := 0) hx hb dX5_isRollOff_82 (by decide) ?_
              exact W.zret (v := 0) hx hb hr (rfl) (fun t ht hW => ⟨⟨0, (), rfl, rfl, g_PD ht hP hD⟩, hS.F ht⟩) hS.2.2 dX5_isRollOff_83
            · skip
              have c_63 := bI_n c_63
              exact absurd c_63 (by decide)
          · skip
            exact absurd c_52 (by decide)
        · skip
          have c_39 := bI_n c_39
          exact absurd ⟨c_11, c_21, c_30, c_39⟩ hno
set_option maxHeartbeats 4000000 in
set_option maxRecDepth 100000 in
/-- a roll off -/
theorem c5_isRollOff_0 (l : Launch) (D : va_G) (cI cZ cO cL : ClassId) (dt : Nat) (A : Nat → Prop) (b : Nat → Nat) (mC mR mL mF : Nat) (mpar mwt mstk mflw : Nat → Int32) (mc mp mm mf md : Nat → Nat) (mv mder mkn : Nat → Int32) (thr : Int32) (R : va_W) (ru : Nat) (pi mi fi : Int32) (hF : mF ≤ 80) (hC : mC ≤ 12) (hmf : ∀ k, mf k < 2 ^ 31) (hmd : ∀ k, md k < 2 ^ 31) (hR : mR ≤ 5) (hrR : ru < mR) (hy : (0 ≤ (nI ru) ∧ (nI ru) ≤ nI mR - 1) ∧ (0 ≤ pi ∧ pi ≤ 9) ∧ (0 ≤ mi ∧ mi ≤ 3) ∧ (0 ≤ fi ∧ fi ≤ nI (mL + 1) - 1)) : Met l yX5_isRollOff wsX5_isRollOff ({ frames := 3, cells := 0, slots := 0, locals := 79 } : Room) (gP D cI cZ cO cL dt A [.ref (b 0), .int (nI ru), .int pi, .int mi, .int fi] (fun H => va_P D vwCl (WM cI cZ b mC mR mL mF mpar mwt mstk mflw mc mp mm mf md mv mder mkn thr ++ R) H ∧ va_D A (WM cI cZ b mC mR mL mF mpar mwt mstk mflw mc mp mm mf md mv mder mkn thr ++ R))) (va_Qi (fun (r : Int32) (_ : Unit) => r = bI (rollOff pi (hM mc mp mm mf md mF (mstk ru) pi mi fi) (hM mc mp mm mf md mF (mstk ru) (pi - 1) mi fi) (hM mc mp mm mf md mF (mflw ru) pi mi fi) md mv = true)) (fun _ t => va_P D vwCl (WM cI cZ b mC mR mL mF mpar mwt mstk mflw mc mp mm mf md mv mder mkn 0 ++ R) t.heap ∧ va_D A (WM cI cZ b mC mR mL mF mpar mwt mstk mflw mc mp mm mf md mv mder mkn 0 ++ R)) A) 0 0 A := by
  refine Met.ofW (cc := cX5_isRollOff) (maxL := 6) (ret := (some .boolean)) (by decide) rfl ?_
  intro p9 e9 s m9 args below meth c9 s₁ B hml hv
  obtain ⟨rfl, hg, hP, hD⟩ := hv
  have hx := B.exec
  have hb := B.bytes
  have hr := B.returns
  have hts := atoms_spec (ws := wsX5_isRollOff) B.pre
  have hown : s.vm.findClass RX5 = some m9.cls := findClass_of_methodNamed B.named
  have hlocks := B.notSynchronized
  have hK := hg.1
  have hS : va_S A s.heap s.heap [] := va_S.rf
  have w_0 := hts (.fieldLink RX5 72 "DimfactsModel" "rolls" "I") (by decide +kernel)
  have win_X5 : ∀ w ∈ wsX50, w ∈ wsX5_isRollOff := by decide +kernel
  have hl := lv_entry ([.ref (b 0), .int (nI ru), .int pi, .int mi, .int fi]) (n := 6) (Nat.le_of_ble_eq_true rfl)
  rw [lg_entry_eq]
  generalize (lg_sl ([.ref (b 0), .int (nI ru), .int pi, .int mi, .int fi]) ++ List.replicate (6 - (lg_sl ([.ref (b 0), .int (nI ru), .int pi, .int mi, .int fi])).length) Slot.unset).toArray = ls at hl ⊢
  have hl : lv_has ls 6 [(0, .ref (b 0)), (1, .int (nI ru)), (2, .int pi), (3, .int mi), (4, .int fi)] := hl
  refine lv_iload_n hx hb dX5_isRollOff_0 rfl (lv_at hl 1 rfl) ?_
  refine lv_iconst (v := 0) hx hb dX5_isRollOff_1 (by decide) ?_
  refine lv_aload_n hx hb dX5_isRollOff_2 rfl (lv_at hl 0 rfl) ?_
  refine va_get (D := D) (ci := 4) (v := .int (nI mR)) (C := RX5) (T := TX5) (N := 17) hx hb hts win_X5 hown hK hP (0) (rfl) rfl 3 (by decide) w_0 (fun _ h9 => h9) rfl dX5_isRollOff_3 ?_
  refine lv_iconst (v := 1) hx hb dX5_isRollOff_6 (by decide) ?_
  refine lv_isub hx hb dX5_isRollOff_7 ?_
  refine g_csi (va_runS (As := [.int (nI ru), .int 0, .int ((nI mR) - 1)]) (rest := []) ⟨hx, hb, hml, hown, hts⟩ (c5_isIn l D cI cZ cO cL dt A (nI ru) 0 ((nI mR) - 1) (WM cI cZ b mC mR mL mF mpar mwt mstk mflw mc mp mm mf md mv mder mkn thr ++ R)) (va_cwS 3 hts gX5_isRollOff_X5_isIn rfl rfl rfl (by decide +kernel) ⟨Nat.le_of_ble_eq_true rfl, Nat.le_of_ble_eq_true rfl⟩) (gP.s hg hP) rfl rfl hl.1 rfl (lv_room (Nat.le_of_ble_eq_true rfl)) dX5_isRollOff_8 ⟨Nat.le_of_ble_eq_true rfl, Nat.le_of_ble_eq_true rfl⟩) (fun r_1 hr_1 => ?_)
  obtain rfl : r_1 = bI (0 ≤ (nI ru) ∧ (nI ru) ≤ (nI mR) - 1) := hr_1
  refine lv_if_eq (tgt := 46) hx hb dX5_isRollOff_11 (by decide) (fun c_11 => ?_) (fun c_11 => ?_)
  · skip
    have c_11 := bI_z c_11
    exact absurd hy.1 c_11
  · skip
    have c_11 := bI_n c_11
    refine lv_iload_n hx hb dX5_isRollOff_14 rfl (lv_at hl 2 rfl) ?_
    refine lv_iconst (v := 0) hx hb dX5_isRollOff_15 (by decide) ?_
    refine lv_bipush (v := 9) hx hb dX5_isRollOff_16 (by decide) ?_
    refine g_csi (va_runS (As := [.int pi, .int 0, .int 9]) (rest := []) ⟨hx, hb, hml, hown, hts⟩ (c5_isIn l D cI cZ cO cL dt A pi 0 9 (WM cI cZ b mC mR mL mF mpar mwt mstk mflw mc mp mm mf md mv mder mkn thr ++ R)) (va_cwS 3 hts gX5_isRollOff_X5_isIn rfl rfl rfl (by decide +kernel) ⟨Nat.le_of_ble_eq_true rfl, Nat.le_of_ble_eq_true rfl⟩) (gP.s hg hP) rfl rfl hl.1 rfl (lv_room (Nat.le_of_ble_eq_true rfl)) dX5_isRollOff_18 ⟨Nat.le_of_ble_eq_true rfl, Nat.le_of_ble_eq_true rfl⟩) (fun r_2 hr_2 => ?_)
    obtain rfl : r_2 = bI (0 ≤ pi ∧ pi ≤ 9) := hr_2
    refine lv_if_eq (tgt := 46) hx hb dX5_isRollOff_21 (by decide) (fun c_21 => ?_) (fun c_21 => ?_)
    · skip
      have c_21 := bI_z c_21
      exact absurd hy.2.1 c_21
    · skip
      have c_21 := bI_n c_21
      refine lv_iload_n hx hb dX5_isRollOff_24 rfl (lv_at hl 3 rfl) ?_
      refine lv_iconst (v := 0) hx hb dX5_isRollOff_25 (by decide) ?_
      refine lv_iconst (v := 3) hx hb dX5_isRollOff_26 (by decide) ?_
      refine g_csi (va_runS (As := [.int mi, .int 0, .int 3]) (rest := []) ⟨hx, hb, hml, hown, hts⟩ (c5_isIn l D cI cZ cO cL dt A mi 0 3 (WM cI cZ b mC mR mL mF mpar mwt mstk mflw mc mp mm mf md mv mder mkn thr ++ R)) (va_cwS 3 hts gX5_isRollOff_X5_isIn rfl rfl rfl (by decide +kernel) ⟨Nat.le_of_ble_eq_true rfl, Nat.le_of_ble_eq_true rfl⟩) (gP.s hg hP) rfl rfl hl.1 rfl (lv_room (Nat.le_of_ble_eq_true rfl)) dX5_isRollOff_27 ⟨Nat.le_of_ble_eq_true rfl, Nat.le_of_ble_eq_true rfl⟩) (fun r_3 hr_3 => ?_)
      obtain rfl : r_3 = bI (0 ≤ mi ∧ mi ≤ 3) := hr_3
      refine lv_if_eq (tgt := 46) hx hb dX5_isRollOff_30 (by decide) (fun c_30 => ?_) (fun c_30 => ?_)
      · skip
        have c_30 := bI_z c_30
        exact absurd hy.2.2.1 c_30
      · skip
        have c_30 := bI_n c_30
        refine lv_aload_n hx hb dX5_isRollOff_33 rfl (lv_at hl 0 rfl) ?_
        refine lv_iload hx hb dX5_isRollOff_34 (lv_at hl 4 rfl) ?_
        refine g_csi (va_runV (As := [.int fi]) (rest := []) ⟨hx, hb, hml, hown, hts⟩ (c5_isFiling l D cI cZ cO cL dt A b mC mR mL mF mpar mwt mstk mflw mc mp mm mf md mv mder mkn thr R fi) (cwV 1 hts gX5_isRollOff_X5_isFiling rfl rfl rfl (by decide +kernel) ⟨Nat.le_of_ble_eq_true rfl, Nat.le_of_ble_eq_true rfl⟩) (gP.v hg hP 4 rfl (0) (rfl) hP) rfl rfl hl.1 rfl (lv_room (Nat.le_of_ble_eq_true rfl)) dX5_isRollOff_36 ⟨Nat.le_of_ble_eq_true rfl, Nat.le_of_ble_eq_true rfl⟩) (fun r_4 hr_4 => ?_)
        obtain rfl : r_4 = bI (0 ≤ fi ∧ fi ≤ nI (mL + 1) - 1) := hr_4
        refine lv_if_eq (tgt := 46) hx hb dX5_isRollOff_39 (by decide) (fun c_39 => ?_) (fun c_39 => ?_)
        · skip
          have c_39 := bI_z c_39
          exact absurd hy.2.2.2 c_39
        · skip
          have c_39 := bI_n c_39
          refine lv_iconst (v := 1) hx hb dX5_isRollOff_42 (by decide) ?_
          refine lv_goto (tgt := 47) hx hb dX5_isRollOff_43 (by decide) ?_
          refine lv_istore (lv' := [(5, .int 1), (0, .ref (b 0)), (1, .int (nI ru)), (2, .int pi), (3, .int mi), (4, .int fi)]) hx hb dX5_isRollOff_47 hl (by decide) rfl (fun ls hl => ?_)
          refine lv_aload_n hx hb dX5_isRollOff_49 rfl (lv_at hl 1 rfl) ?_
          refine lv_iload hx hb dX5_isRollOff_50 (lv_at hl 0 rfl) ?_
          refine lv_if_eq (tgt := 59) hx hb dX5_isRollOff_52 (by decide) (fun c_52 => ?_) (fun c_52 => ?_)
          · skip
            exact absurd c_52 (by decide)
          · skip
            refine lv_iconst (v := 0) hx hb dX5_isRollOff_55 (by decide) ?_
            refine lv_goto (tgt := 60) hx hb dX5_isRollOff_56 (by decide) ?_
            refine va_calli (va_runV (As := [.int 0]) (rest := []) ⟨hx, hb, hml, hown, hts⟩ (c5_can l D cI cZ cO cL dt A b mC mR mL mF mpar mwt mstk mflw mc mp mm mf md mv mder mkn thr R 0) (cwV 1 hts gX5_isRollOff_X5_can rfl rfl rfl (by decide +kernel) ⟨Nat.le_of_ble_eq_true rfl, Nat.le_of_ble_eq_true rfl⟩) (gP.v hg hP 4 rfl (0) (rfl) (⟨hP, hD⟩)) rfl rfl hl.1 rfl (lv_room (Nat.le_of_ble_eq_true rfl)) dX5_isRollOff_60 ⟨Nat.le_of_ble_eq_true rfl, Nat.le_of_ble_eq_true rfl⟩) hS (fun q _ h => h) (fun q h => h) (fun r_5 ur_5 tr_5 H locs htr_5 hvmr_5 hwr_5 hB hzr_5 hkr_5 hS => ?_)
            rw [htr_5] at hB
            obtain ⟨hP, hD⟩ := hB
            obtain rfl : r_5 = bI (0 = 0) := hwr_5
            have hP : va_P D vwCl (WM cI cZ b mC mR mL mF mpar mwt mstk mflw mc mp mm mf md mv mder mkn 0 ++ R) H := hP
            have hD : va_D A (WM cI cZ b mC mR mL mF mpar mwt mstk mflw mc mp mm mf md mv mder mkn 0 ++ R) := hD
            refine lv_if_eq (tgt := 82) hx hb dX5_isRollOff_63 (by decide) (fun c_63 => ?_) (fun c_63 => ?_)
            · skip
              have c_63 := bI_z c_63
              exact absurd (by decide) c_63
            · skip
              have c_63 := bI_n c_63
              refine lv_aload_n hx hb dX5_isRollOff_66 rfl (lv_at hl 1 rfl) ?_
              refine lv_iload_n hx hb dX5_isRollOff_67 rfl (lv_at hl 2 rfl) ?_
              refine lv_iload_n hx hb dX5_isRollOff_68 rfl (lv_at hl 3 rfl) ?_
              refine lv_iload_n hx hb dX5_isRollOff_69 rfl (lv_at hl 4 rfl) ?_
              refine lv_iload hx hb dX5_isRollOff_70 (lv_at hl 5 rfl) ?_
              refine g_csi (va_runV (As := [.int (nI ru), .int pi, .int mi, .int fi]) (rest := []) ⟨hx, hb, hml, hown, hts⟩ (c5_isOffByRoll l D cI cZ cO cL dt A b mC mR mL mF mpar mwt mstk mflw mc mp mm mf md mv mder mkn 0 R ru pi mi fi hF hC hmf hmd (by omega)) (cwV 4 hts gX5_isRollOff_X5_isOffByRoll rfl rfl rfl (by decide +kernel) ⟨Nat.le_of_ble_eq_true rfl, Nat.le_of_ble_eq_true rfl⟩) (gP.v (hg.on hS) hP 4 rfl (0) (rfl) hP) rfl rfl hl.1 rfl (lv_room (Nat.le_of_ble_eq_true rfl)) dX5_isRollOff_72 ⟨Nat.le_of_ble_eq_true rfl, Nat.le_of_ble_eq_true rfl⟩) (fun r_6 hr_6 => ?_)
              obtain rfl : r_6 = bI (rollOff pi (hM mc mp mm mf md mF (mstk ru) pi mi fi) (hM mc mp mm mf md mF (mstk ru) (pi - 1) mi fi) (hM mc mp mm mf md mF (mflw ru) pi mi fi) md mv = true) := hr_6
              refine lv_if_eq (tgt := 82) hx hb dX5_isRollOff_75 (by decide) (fun c_75 => ?_) (fun c_75 => ?_)
              · skip
                have c_75 := bI_z c_75
                refine lv_iconst (v := 0) hx hb dX5_isRollOff_82 (by decide) ?_
                exact W.zret (v := 0) hx hb hr (rfl) (fun t ht hW => ⟨⟨0, (), rfl, (bI_f c_75), g_PD ht hP hD⟩, hS.F ht⟩) hS.2.2 dX5_isRollOff_83
              · skip
                have c_75 := bI_n c_75
                refine lv_iconst (v := 1) hx hb dX5_isRollOff_78 (by decide) ?_
                refine lv_goto (tgt := 83) hx hb dX5_isRollOff_79 (by decide) ?_
                exact W.zret (v := 1) hx hb hr (rfl) (fun t ht hW => ⟨⟨1, (), rfl, (bI_t c_75), g_PD ht hP hD⟩, hS.F ht⟩) hS.2.2 dX5_isRollOff_83
set_option maxHeartbeats 4000000 in
set_option maxRecDepth 100000 in
/-- no such filing -/
theorem c5_disagreements_1 (l : Launch) (D : va_G) (cI cZ cO cL : ClassId) (dt : Nat) (A : Nat → Prop) (b : Nat → Nat) (mC mR mL mF : Nat) (mpar mwt mstk mflw : Nat → Int32) (mc mp mm mf md : Nat → Nat) (mv mder mkn : Nat → Int32) (thr : Int32) (R : va_W) (fi : Int32) (hno : ¬ (0 ≤ fi ∧ fi ≤ nI (mL + 1) - 1)) : Met l yX5_disagreements wsX5_disagreements ({ frames := 2, cells := 0, slots := 0, locals := 43 } : Room) (gP D cI cZ cO cL dt A [.ref (b 0), .int fi] (fun H => va_P D vwCl (WM cI cZ b mC mR mL mF mpar mwt mstk mflw mc mp mm mf md mv mder mkn thr ++ R) H ∧ va_D A (WM cI cZ b mC mR mL mF mpar mwt mstk mflw mc mp mm mf md mv mder mkn thr ++ R))) (va_Qi (fun (r : Int32) (_ : Unit) => r = 0) (fun _ t => va_P D vwCl (WM cI cZ b mC mR mL mF mpar mwt mstk mflw mc mp mm mf md mv mder mkn 1 ++ R) t.heap ∧ va_D A (WM cI cZ b mC mR mL mF mpar mwt mstk mflw mc mp mm mf md mv mder mkn 1 ++ R)) A) 0 0 A := by
  refine Met.ofW (cc := cX5_disagreements) (maxL := 6) (ret := (some .int)) (by decide) rfl ?_
  intro p9 e9 s m9 args below meth c9 s₁ B hml hv
  obtain ⟨rfl, hg, hP, hD⟩ := hv
  have hx := B.exec
  have hb := B.bytes
  have hr := B.returns
  have hts := atoms_spec (ws := wsX5_disagreements) B.pre
  have hown : s.vm.findClass RX5 = some m9.cls := findClass_of_methodNamed B.named
  have hlocks := B.notSynchronized
  have hK := hg.1
  have hS : va_S A s.heap s.heap [] := va_S.rf
  have hl := lv_entry ([.ref (b 0), .int fi]) (n := 6) (Nat.le_of_ble_eq_true rfl)
  rw [lg_entry_eq]
  generalize (lg_sl ([.ref (b 0), .int fi]) ++ List.replicate (6 - (lg_sl ([.ref (b 0), .int fi])).length) Slot.unset).toArray = ls at hl ⊢
  have hl : lv_has ls 6 [(0, .ref (b 0)), (1, .int fi)] := hl
  refine lv_aload_n hx hb dX5_disagreements_0 rfl (lv_at hl 0 rfl) ?_
  refine lv_aload_n hx hb dX5_disagreements_1 rfl (lv_at hl 0 rfl) ?_
  refine lv_iload_n hx hb dX5_disagreements_2 rfl (lv_at hl 1 rfl) ?_
  refine g_csi (va_runV (As := [.int fi]) (rest := [.ref (b 0)]) ⟨hx, hb, hml, hown, hts⟩ (c5_isFiling l D cI cZ cO cL dt A b mC mR mL mF mpar mwt mstk mflw mc mp mm mf md mv mder mkn thr R fi) (cwV 1 hts gX5_disagreements_X5_isFiling rfl rfl rfl (by decide +kernel) ⟨Nat.le_of_ble_eq_true rfl, Nat.le_of_ble_eq_true rfl⟩) (gP.v hg hP 4 rfl (0) (rfl) hP) rfl rfl hl.1 rfl (lv_room (Nat.le_of_ble_eq_true rfl)) dX5_disagreements_3 ⟨Nat.le_of_ble_eq_true rfl, Nat.le_of_ble_eq_true rfl⟩) (fun r_1 hr_1 => ?_)
  obtain rfl : r_1 = bI (0 ≤ fi ∧ fi ≤ nI (mL + 1) - 1) := hr_1
  refine lv_if_eq (tgt := 13) hx hb dX5_disagreements_6 (by decide) (fun c_6 => ?_) (fun c_6 => ?_)
  · skip
    have c_6 := bI_z c_6
    refine lv_iconst (v := 1) hx hb dX5_disagreements_13 (by decide) ?_
    refine va_calli (va_runV (As := [.int 1]) (rest := []) ⟨hx, hb, hml, hown, hts⟩ (c5_can l D cI cZ cO cL dt A b mC mR mL mF mpar mwt mstk mflw mc mp mm mf md mv mder mkn thr R 1) (cwV 1 hts gX5_disagreements_X5_can rfl rfl rfl (by decide +kernel) ⟨Nat.le_of_ble_eq_true rfl, Nat.le_of_ble_eq_true rfl⟩) (gP.v hg hP 4 rfl (0) (rfl) (⟨hP, hD⟩)) rfl rfl hl.1 rfl (lv_room (Nat.le_of_ble_eq_true rfl)) dX5_disagreements_14 ⟨Nat.le_of_ble_eq_true rfl, Nat.le_of_ble_eq_true rfl⟩) hS (fun q _ h => h) (fun q h => h) (fun r_2 ur_2 tr_2 H locs htr_2 hvmr_2 hwr_2 hB hzr_2 hkr_2 hS => ?_)
    rw [htr_2] at hB
    obtain ⟨hP, hD⟩ := hB
    obtain rfl : r_2 = bI (1 = 0) := hwr_2
    have hP : va_P D vwCl (WM cI cZ b mC mR mL mF mpar mwt mstk mflw mc mp mm mf md mv mder mkn 1 ++ R) H := hP
    have hD : va_D A (WM cI cZ b mC mR mL mF mpar mwt mstk mflw mc mp mm mf md mv mder mkn 1 ++ R) := hD
    refine lv_if_ne (tgt := 22) hx hb dX5_disagreements_17 (by decide) (fun c_17 => ?_) (fun c_17 => ?_)
    · skip
      have c_17 := bI_n c_17
      exact absurd c_17 (by decide)
    · skip
      have c_17 := bI_z c_17
      refine lv_iconst (v := 0) hx hb dX5_disagreements_20 (by decide) ?_
      exact W.iret (v := 0) hx hb hr (fun t ht hW => ⟨⟨0, (), rfl, rfl, g_PD ht hP hD⟩, hS.F ht⟩) hS.2.2 dX5_disagreements_21
  · skip
    have c_6 := bI_n c_6
    exact absurd c_6 hno
set_option maxHeartbeats 4000000 in
set_option maxRecDepth 100000 in
/-- no such filing -/
theorem c5_restated_1 (l : Launch) (D : va_G) (cI cZ cO cL : ClassId) (dt : Nat) (A : Nat → Prop) (b : Nat → Nat) (mC mR mL mF : Nat) (mpar mwt mstk mflw : Nat → Int32) (mc mp mm mf md : Nat → Nat) (mv mder mkn : Nat → Int32) (thr : Int32) (R : va_W) (fi : Int32) (hno : ¬ (0 ≤ fi ∧ fi ≤ nI (mL + 1) - 1)) : Met l yX5_restated wsX5_restated ({ frames := 2, cells := 0, slots := 0, locals := 43 } : Room) (gP D cI cZ cO cL dt A [.ref (b 0), .int fi] (fun H => va_P D vwCl (WM cI cZ b mC mR mL mF mpar mwt mstk mflw mc mp mm mf md mv mder mkn thr ++ R) H ∧ va_D A (WM cI cZ b mC mR mL mF mpar mwt mstk mflw mc mp mm mf md mv mder mkn thr ++ R))) (va_Qi (fun (r : Int32) (_ : Unit) => r = 0) (fun _ t => va_P D vwCl (WM cI cZ b mC mR mL mF mpar mwt mstk mflw mc mp mm mf md mv mder mkn 1 ++ R) t.heap ∧ va_D A (WM cI cZ b mC mR mL mF mpar mwt mstk mflw mc mp mm mf md mv mder mkn 1 ++ R)) A) 0 0 A := by
  refine Met.ofW (cc := cX5_restated) (maxL := 6) (ret := (some .int)) (by decide) rfl ?_
  intro p9 e9 s m9 args below meth c9 s₁ B hml hv
  obtain ⟨rfl, hg, hP, hD⟩ := hv
  have hx := B.exec
  have hb := B.bytes
  have hr := B.returns
  have hts := atoms_spec (ws := wsX5_restated) B.pre
  have hown : s.vm.findClass RX5 = some m9.cls := findClass_of_methodNamed B.named
  have hlocks := B.notSynchronized
  have hK := hg.1
  have hS : va_S A s.heap s.heap [] := va_S.rf
  have hl := lv_entry ([.ref (b 0), .int fi]) (n := 6) (Nat.le_of_ble_eq_true rfl)
  rw [lg_entry_eq]
  generalize (lg_sl ([.ref (b 0), .int fi]) ++ List.replicate (6 - (lg_sl ([.ref (b 0), .int fi])).length) Slot.unset).toArray = ls at hl ⊢
  have hl : lv_has ls 6 [(0, .ref (b 0)), (1, .int fi)] := hl
  refine lv_aload_n hx hb dX5_restated_0 rfl (lv_at hl 0 rfl) ?_
  refine lv_aload_n hx hb dX5_restated_1 rfl (lv_at hl 0 rfl) ?_
  refine lv_iload_n hx hb dX5_restated_2 rfl (lv_at hl 1 rfl) ?_
  refine g_csi (va_runV (As := [.int fi]) (rest := [.ref (b 0)]) ⟨hx, hb, hml, hown, hts⟩ (c5_isFiling l D cI cZ cO cL dt A b mC mR mL mF mpar mwt mstk mflw mc mp mm mf md mv mder mkn thr R fi) (cwV 1 hts gX5_restated_X5_isFiling rfl rfl rfl (by decide +kernel) ⟨Nat.le_of_ble_eq_true rfl, Nat.le_of_ble_eq_true rfl⟩) (gP.v hg hP 4 rfl (0) (rfl) hP) rfl rfl hl.1 rfl (lv_room (Nat.le_of_ble_eq_true rfl)) dX5_restated_3 ⟨Nat.le_of_ble_eq_true rfl, Nat.le_of_ble_eq_true rfl⟩) (fun r_1 hr_1 => ?_)
  obtain rfl : r_1 = bI (0 ≤ fi ∧ fi ≤ nI (mL + 1) - 1) := hr_1
  refine lv_if_eq (tgt := 13) hx hb dX5_restated_6 (by decide) (fun c_6 => ?_) (fun c_6 => ?_)
  · skip
    have c_6 := bI_z c_6
    refine lv_iconst (v := 1) hx hb dX5_restated_13 (by decide) ?_
    refine va_calli (va_runV (As := [.int 1]) (rest := []) ⟨hx, hb, hml, hown, hts⟩ (c5_can l D cI cZ cO cL dt A b mC mR mL mF mpar mwt mstk mflw mc mp mm mf md mv mder mkn thr R 1) (cwV 1 hts gX5_restated_X5_can rfl rfl rfl (by decide +kernel) ⟨Nat.le_of_ble_eq_true rfl, Nat.le_of_ble_eq_true rfl⟩) (gP.v hg hP 4 rfl (0) (rfl) (⟨hP, hD⟩)) rfl rfl hl.1 rfl (lv_room (Nat.le_of_ble_eq_true rfl)) dX5_restated_14 ⟨Nat.le_of_ble_eq_true rfl, Nat.le_of_ble_eq_true rfl⟩) hS (fun q _ h => h) (fun q h => h) (fun r_2 ur_2 tr_2 H locs htr_2 hvmr_2 hwr_2 hB hzr_2 hkr_2 hS => ?_)
    rw [htr_2] at hB
    obtain ⟨hP, hD⟩ := hB
    obtain rfl : r_2 = bI (1 = 0) := hwr_2
    have hP : va_P D vwCl (WM cI cZ b mC mR mL mF mpar mwt mstk mflw mc mp mm mf md mv mder mkn 1 ++ R) H := hP
    have hD : va_D A (WM cI cZ b mC mR mL mF mpar mwt mstk mflw mc mp mm mf md mv mder mkn 1 ++ R) := hD
    refine lv_if_ne (tgt := 22) hx hb dX5_restated_17 (by decide) (fun c_17 => ?_) (fun c_17 => ?_)
    · skip
      have c_17 := bI_n c_17
      exact absurd c_17 (by decide)
    · skip
      have c_17 := bI_z c_17
      refine lv_iconst (v := 0) hx hb dX5_restated_20 (by decide) ?_
      exact W.iret (v := 0) hx hb hr (fun t ht hW => ⟨⟨0, (), rfl, rfl, g_PD ht hP hD⟩, hS.F ht⟩) hS.2.2 dX5_restated_21
  · skip
    have c_6 := bI_n c_6
    exact absurd c_6 hno
set_option maxHeartbeats 4000000 in
set_option maxRecDepth 100000 in
/-- no such filing -/
theorem c5_faults_1 (l : Launch) (D : va_G) (cI cZ cO cL : ClassId) (dt : Nat) (A : Nat → Prop) (b : Nat → Nat) (mC mR mL mF : Nat) (mpar mwt mstk mflw : Nat → Int32) (mc mp mm mf md : Nat → Nat) (mv mder mkn : Nat → Int32) (thr : Int32) (R : va_W) (fi : Int32) (hno : ¬ (0 ≤ fi ∧ fi ≤ nI (mL + 1) - 1)) : Met l yX5_faults wsX5_faults ({ frames := 2, cells := 0, slots := 0, locals := 43 } : Room) (gP D cI cZ cO cL dt A [.ref (b 0), .int fi] (fun H => va_P D vwCl (WM cI cZ b mC mR mL mF mpar mwt mstk mflw mc mp mm mf md mv mder mkn thr ++ R) H ∧ va_D A (WM cI cZ b mC mR mL mF mpar mwt mstk mflw mc mp mm mf md mv mder mkn thr ++ R))) (va_Qi (fun (r : Int32) (_ : Unit) => r = 0) (fun _ t => va_P D vwCl (WM cI cZ b mC mR mL mF mpar mwt mstk mflw mc mp mm mf md mv mder mkn 1 ++ R) t.heap ∧ va_D A (WM cI cZ b mC mR mL mF mpar mwt mstk mflw mc mp mm mf md mv mder mkn 1 ++ R)) A) 0 0 A := by
  refine Met.ofW (cc := cX5_faults) (maxL := 2) (ret := (some .int)) (by decide) rfl ?_
  intro p9 e9 s m9 args below meth c9 s₁ B hml hv
  obtain ⟨rfl, hg, hP, hD⟩ := hv
  have hx := B.exec
  have hb := B.bytes
  have hr := B.returns
  have hts := atoms_spec (ws := wsX5_faults) B.pre
  have hown : s.vm.findClass RX5 = some m9.cls := findClass_of_methodNamed B.named
  have hlocks := B.notSynchronized
  have hK := hg.1
  have hS : va_S A s.heap s.heap [] := va_S.rf
  have hl := lv_entry ([.ref (b 0), .int fi]) (n := 2) (Nat.le_of_ble_eq_true rfl)
  rw [lg_entry_eq]
  generalize (lg_sl ([.ref (b 0), .int fi]) ++ List.replicate (2 - (lg_sl ([.ref (b 0), .int fi])).length) Slot.unset).toArray = ls at hl ⊢
  have hl : lv_has ls 2 [(0, .ref (b 0)), (1, .int fi)] := hl
  refine lv_aload_n hx hb dX5_faults_0 rfl (lv_at hl 0 rfl) ?_
  refine lv_aload_n hx hb dX5_faults_1 rfl (lv_at hl 0 rfl) ?_
  refine lv_iload_n hx hb dX5_faults_2 rfl (lv_at hl 1 rfl) ?_
  refine g_csi (va_runV (As := [.int fi]) (rest := [.ref (b 0)]) ⟨hx, hb, hml, hown, hts⟩ (c5_isFiling l D cI cZ cO cL dt A b mC mR mL mF mpar mwt mstk mflw mc mp mm mf md mv mder mkn thr R fi) (cwV 1 hts gX5_faults_X5_isFiling rfl rfl rfl (by decide +kernel) ⟨Nat.le_of_ble_eq_true rfl, Nat.le_of_ble_eq_true rfl⟩) (gP.v hg hP 4 rfl (0) (rfl) hP) rfl rfl hl.1 rfl (lv_room (Nat.le_of_ble_eq_true rfl)) dX5_faults_3 ⟨Nat.le_of_ble_eq_true rfl, Nat.le_of_ble_eq_true rfl⟩) (fun r_1 hr_1 => ?_)
  obtain rfl : r_1 = bI (0 ≤ fi ∧ fi ≤ nI (mL + 1) - 1) := hr_1
  refine lv_if_eq (tgt := 13) hx hb dX5_faults_6 (by decide) (fun c_6 => ?_) (fun c_6 => ?_)
  · skip
    have c_6 := bI_z c_6
    refine lv_iconst (v := 1) hx hb dX5_faults_13 (by decide) ?_
    refine va_calli (va_runV (As := [.int 1]) (rest := []) ⟨hx, hb, hml, hown, hts⟩ (c5_can l D cI cZ cO cL dt A b mC mR mL mF mpar mwt mstk mflw mc mp mm mf md mv mder mkn thr R 1) (cwV 1 hts gX5_faults_X5_can rfl rfl rfl (by decide +kernel) ⟨Nat.le_of_ble_eq_true rfl, Nat.le_of_ble_eq_true rfl⟩) (gP.v hg hP 4 rfl (0) (rfl) (⟨hP, hD⟩)) rfl rfl hl.1 rfl (lv_room (Nat.le_of_ble_eq_true rfl)) dX5_faults_14 ⟨Nat.le_of_ble_eq_true rfl, Nat.le_of_ble_eq_true rfl⟩) hS (fun q _ h => h) (fun q h => h) (fun r_2 ur_2 tr_2 H locs htr_2 hvmr_2 hwr_2 hB hzr_2 hkr_2 hS => ?_)
    rw [htr_2] at hB
    obtain ⟨hP, hD⟩ := hB
    obtain rfl : r_2 = bI (1 = 0) := hwr_2
    have hP : va_P D vwCl (WM cI cZ b mC mR mL mF mpar mwt mstk mflw mc mp mm mf md mv mder mkn 1 ++ R) H := hP
    have hD : va_D A (WM cI cZ b mC mR mL mF mpar mwt mstk mflw mc mp mm mf md mv mder mkn 1 ++ R) := hD
    refine lv_if_eq (tgt := 28) hx hb dX5_faults_17 (by decide) (fun c_17 => ?_) (fun c_17 => ?_)
    · skip
      have c_17 := bI_z c_17
      refine lv_iconst (v := 0) hx hb dX5_faults_28 (by decide) ?_
      exact W.iret (v := 0) hx hb hr (fun t ht hW => ⟨⟨0, (), rfl, rfl, g_PD ht hP hD⟩, hS.F ht⟩) hS.2.2 dX5_faults_29
    · skip
      have c_17 := bI_n c_17
      exact absurd c_17 (by decide)
  · skip
    have c_6 := bI_n c_6
    exact absurd c_6 hno
set_option maxHeartbeats 4000000 in
set_option maxRecDepth 100000 in
/-- no such filing -/
theorem c5_faultsByList_1 (l : Launch) (D : va_G) (cI cZ cO cL : ClassId) (dt : Nat) (A : Nat → Prop) (b : Nat → Nat) (mC mR mL mF : Nat) (mpar mwt mstk mflw : Nat → Int32) (mc mp mm mf md : Nat → Nat) (mv mder mkn : Nat → Int32) (thr : Int32) (R : va_W) (fi : Int32) (hno : ¬ (0 ≤ fi ∧ fi ≤ nI (mL + 1) - 1)) : Met l yX5_faultsByList wsX5_faultsByList ({ frames := 2, cells := 0, slots := 0, locals := 43 } : Room) (gP D cI cZ cO cL dt A [.ref (b 0), .int fi] (fun H => va_P D vwCl (WM cI cZ b mC mR mL mF mpar mwt mstk mflw mc mp mm mf md mv mder mkn thr ++ R) H ∧ va_D A (WM cI cZ b mC mR mL mF mpar mwt mstk mflw mc mp mm mf md mv mder mkn thr ++ R))) (va_Qi (fun (r : Int32) (_ : Unit) => r = 0) (fun _ t => va_P D vwCl (WM cI cZ b mC mR mL mF mpar mwt mstk mflw mc mp mm mf md mv mder mkn 1 ++ R) t.heap ∧ va_D A (WM cI cZ b mC mR mL mF mpar mwt mstk mflw mc mp mm mf md mv mder mkn 1 ++ R)) A) 0 0 A := by
  refine Met.ofW (cc := cX5_faultsByList) (maxL := 2) (ret := (some .int)) (by decide) rfl ?_
  intro p9 e9 s m9 args below meth c9 s₁ B hml hv
  obtain ⟨rfl, hg, hP, hD⟩ := hv
  have hx := B.exec
  have hb := B.bytes
  have hr := B.returns
  have hts := atoms_spec (ws := wsX5_faultsByList) B.pre
  have hown : s.vm.findClass RX5 = some m9.cls := findClass_of_methodNamed B.named
  have hlocks := B.notSynchronized
  have hK := hg.1
  have hS : va_S A s.heap s.heap [] := va_S.rf
  have hl := lv_entry ([.ref (b 0), .int fi]) (n := 2) (Nat.le_of_ble_eq_true rfl)
  rw [lg_entry_eq]
  generalize (lg_sl ([.ref (b 0), .int fi]) ++ List.replicate (2 - (lg_sl ([.ref (b 0), .int fi])).length) Slot.unset).toArray = ls at hl ⊢
  have hl : lv_has ls 2 [(0, .ref (b 0)), (1, .int fi)] := hl
  refine lv_aload_n hx hb dX5_faultsByList_0 rfl (lv_at hl 0 rfl) ?_
  refine lv_aload_n hx hb dX5_faultsByList_1 rfl (lv_at hl 0 rfl) ?_
  refine lv_iload_n hx hb dX5_faultsByList_2 rfl (lv_at hl 1 rfl) ?_
  refine g_csi (va_runV (As := [.int fi]) (rest := [.ref (b 0)]) ⟨hx, hb, hml, hown, hts⟩ (c5_isFiling l D cI cZ cO cL dt A b mC mR mL mF mpar mwt mstk mflw mc mp mm mf md mv mder mkn thr R fi) (cwV 1 hts gX5_faultsByList_X5_isFiling rfl rfl rfl (by decide +kernel) ⟨Nat.le_of_ble_eq_true rfl, Nat.le_of_ble_eq_true rfl⟩) (gP.v hg hP 4 rfl (0) (rfl) hP) rfl rfl hl.1 rfl (lv_room (Nat.le_of_ble_eq_true rfl)) dX5_faultsByList_3 ⟨Nat.le_of_ble_eq_true rfl, Nat.le_of_ble_eq_true rfl⟩) (fun r_1 hr_1 => ?_)
  obtain rfl : r_1 = bI (0 ≤ fi ∧ fi ≤ nI (mL + 1) - 1) := hr_1
  refine lv_if_eq (tgt := 13) hx hb dX5_faultsByList_6 (by decide) (fun c_6 => ?_) (fun c_6 => ?_)
  · skip
    have c_6 := bI_z c_6
    refine lv_iconst (v := 1) hx hb dX5_faultsByList_13 (by decide) ?_
    refine va_calli (va_runV (As := [.int 1]) (rest := []) ⟨hx, hb, hml, hown, hts⟩ (c5_can l D cI cZ cO cL dt A b mC mR mL mF mpar mwt mstk mflw mc mp mm mf md mv mder mkn thr R 1) (cwV 1 hts gX5_faultsByList_X5_can rfl rfl rfl (by decide +kernel) ⟨Nat.le_of_ble_eq_true rfl, Nat.le_of_ble_eq_true rfl⟩) (gP.v hg hP 4 rfl (0) (rfl) (⟨hP, hD⟩)) rfl rfl hl.1 rfl (lv_room (Nat.le_of_ble_eq_true rfl)) dX5_faultsByList_14 ⟨Nat.le_of_ble_eq_true rfl, Nat.le_of_ble_eq_true rfl⟩) hS (fun q _ h => h) (fun q h => h) (fun r_2 ur_2 tr_2 H locs htr_2 hvmr_2 hwr_2 hB hzr_2 hkr_2 hS => ?_)
    rw [htr_2] at hB
    obtain ⟨hP, hD⟩ := hB
    obtain rfl : r_2 = bI (1 = 0) := hwr_2
    have hP : va_P D vwCl (WM cI cZ b mC mR mL mF mpar mwt mstk mflw mc mp mm mf md mv mder mkn 1 ++ R) H := hP
    have hD : va_D A (WM cI cZ b mC mR mL mF mpar mwt mstk mflw mc mp mm mf md mv mder mkn 1 ++ R) := hD
    refine lv_if_eq (tgt := 28) hx hb dX5_faultsByList_17 (by decide) (fun c_17 => ?_) (fun c_17 => ?_)
    · skip
      have c_17 := bI_z c_17
      refine lv_iconst (v := 0) hx hb dX5_faultsByList_28 (by decide) ?_
      exact W.iret (v := 0) hx hb hr (fun t ht hW => ⟨⟨0, (), rfl, rfl, g_PD ht hP hD⟩, hS.F ht⟩) hS.2.2 dX5_faultsByList_29
    · skip
      have c_17 := bI_n c_17
      exact absurd c_17 (by decide)
  · skip
    have c_6 := bI_n c_6
    exact absurd c_6 hno
set_option maxHeartbeats 4000000 in
set_option maxRecDepth 100000 in
/-- all faults -/
theorem c5_faults_0 (l : Launch) (D : va_G) (cI cZ cO cL : ClassId) (dt : Nat) (A : Nat → Prop) (b : Nat → Nat) (mC mR mL mF : Nat) (mpar mwt mstk mflw : Nat → Int32) (mc mp mm mf md : Nat → Nat) (mv mder mkn : Nat → Int32) (thr : Int32) (R : va_W) (fi : Int32) (hF : mF ≤ 80) (hC : mC ≤ 12) (hmf : ∀ k, mf k < 2 ^ 31) (hmd : ∀ k, md k < 2 ^ 31) (hR : mR ≤ 5) (hy : 0 ≤ fi ∧ fi ≤ nI (mL + 1) - 1) : Met l yX5_faults wsX5_faults ({ frames := 5, cells := 0, slots := 0, locals := 132 } : Room) (gP D cI cZ cO cL dt A [.ref (b 0), .int fi] (fun H => va_P D vwCl (WM cI cZ b mC mR mL mF mpar mwt mstk mflw mc mp mm mf md mv mder mkn thr ++ R) H ∧ va_D A (WM cI cZ b mC mR mL mF mpar mwt mstk mflw mc mp mm mf md mv mder mkn thr ++ R))) (va_Qi (fun (r : Int32) (_ : Unit) => r = mFlt mC mR mpar mwt mstk mflw (fun c p m => hM mc mp mm mf md mF c p m fi) md mv) (fun _ t => va_P D vwCl (WM cI cZ b mC mR mL mF mpar mwt mstk mflw mc mp mm mf md mv mder mkn 0 ++ R) t.heap ∧ va_D A (WM cI cZ b mC mR mL mF mpar mwt mstk mflw mc mp mm mf md mv mder mkn 0 ++ R)) A) 0 0 A := by
  refine Met.ofW (cc := cX5_faults) (maxL := 2) (ret := (some .int)) (by decide) rfl ?_
  intro p9 e9 s m9 args below meth c9 s₁ B hml hv
  obtain ⟨rfl, hg, hP, hD⟩ := hv
  have hx := B.exec
  have hb := B.bytes
  have hr := B.returns
  have hts := atoms_spec (ws := wsX5_faults) B.pre
  have hown : s.vm.findClass RX5 = some m9.cls := findClass_of_methodNamed B.named
  have hlocks := B.notSynchronized
  have hK := hg.1
  have hS : va_S A s.heap s.heap [] := va_S.rf
  have hl := lv_entry ([.ref (b 0), .int fi]) (n := 2) (Nat.le_of_ble_eq_true rfl)
  rw [lg_entry_eq]
  generalize (lg_sl ([.ref (b 0), .int fi]) ++ List.replicate (2 - (lg_sl ([.ref (b 0), .int fi])).length) Slot.unset).toArray = ls at hl ⊢
  have hl : lv_has ls 2 [(0, .ref (b 0)), (1, .int fi)] := hl
  refine lv_aload_n hx hb dX5_faults_0 rfl (lv_at hl 0 rfl) ?_
  refine lv_aload_n hx hb dX5_faults_1 rfl (lv_at hl 0 rfl) ?_
  refine lv_iload_n hx hb dX5_faults_2 rfl (lv_at hl 1 rfl) ?_
  refine g_csi (va_runV (As := [.int fi]) (rest := [.ref (b 0)]) ⟨hx, hb, hml, hown, hts⟩ (c5_isFiling l D cI cZ cO cL dt A b mC mR mL mF mpar mwt mstk mflw mc mp mm mf md mv mder mkn thr R fi) (cwV 1 hts gX5_faults_X5_isFiling rfl rfl rfl (by decide +kernel) ⟨Nat.le_of_ble_eq_true rfl, Nat.le_of_ble_eq_true rfl⟩) (gP.v hg hP 4 rfl (0) (rfl) hP) rfl rfl hl.1 rfl (lv_room (Nat.le_of_ble_eq_true rfl)) dX5_faults_3 ⟨Nat.le_of_ble_eq_true rfl, Nat.le_of_ble_eq_true rfl⟩) (fun r_1 hr_1 => ?_)
  obtain rfl : r_1 = bI (0 ≤ fi ∧ fi ≤ nI (mL + 1) - 1) := hr_1
  refine lv_if_eq (tgt := 13) hx hb dX5_faults_6 (by decide) (fun c_6 => ?_) (fun c_6 => ?_)
  · skip
    have c_6 := bI_z c_6
    exact absurd hy c_6
  · skip
    have c_6 := bI_n c_6
    refine lv_iconst (v := 0) hx hb dX5_faults_9 (by decide) ?_
    refine lv_goto (tgt := 14) hx hb dX5_faults_10 (by decide) ?_
    refine va_calli (va_runV (As := [.int 0]) (rest := []) ⟨hx, hb, hml, hown, hts⟩ (c5_can l D cI cZ cO cL dt A b mC mR mL mF mpar mwt mstk mflw mc mp mm mf md mv mder mkn thr R 0) (cwV 1 hts gX5_faults_X5_can rfl rfl rfl (by decide +kernel) ⟨Nat.le_of_ble_eq_true rfl, Nat.le_of_ble_eq_true rfl⟩) (gP.v hg hP 4 rfl (0) (rfl) (⟨hP, hD⟩)) rfl rfl hl.1 rfl (lv_room (Nat.le_of_ble_eq_true rfl)) dX5_faults_14 ⟨Nat.le_of_ble_eq_true rfl, Nat.le_of_ble_eq_true rfl⟩) hS (fun q _ h => h) (fun q h => h) (fun r_2 ur_2 tr_2 H locs htr_2 hvmr_2 hwr_2 hB hzr_2 hkr_2 hS => ?_)
    rw [htr_2] at hB
    obtain ⟨hP, hD⟩ := hB
    obtain rfl : r_2 = bI (0 = 0) := hwr_2
    have hP : va_P D vwCl (WM cI cZ b mC mR mL mF mpar mwt mstk mflw mc mp mm mf md mv mder mkn 0 ++ R) H := hP
    have hD : va_D A (WM cI cZ b mC mR mL mF mpar mwt mstk mflw mc mp mm mf md mv mder mkn 0 ++ R) := hD
    refine lv_if_eq (tgt := 28) hx hb dX5_faults_17 (by decide) (fun c_17 => ?_) (fun c_17 => ?_)
    · skip
      have c_17 := bI_z c_17
      exact absurd (by decide) c_17
    · skip
      have c_17 := bI_n c_17
      refine lv_aload_n hx hb dX5_faults_20 rfl (lv_at hl 0 rfl) ?_
      refine lv_iload_n hx hb dX5_faults_21 rfl (lv_at hl 1 rfl) ?_
      refine g_csi (va_runV (As := [.int fi]) (rest := []) ⟨hx, hb, hml, hown, hts⟩ (c5_allFaults l D cI cZ cO cL dt A b mC mR mL mF mpar mwt mstk mflw mc mp mm mf md mv mder mkn 0 R fi hF hC hmf hmd hR) (cwV 1 hts gX5_faults_X5_allFaults rfl rfl rfl (by decide +kernel) ⟨Nat.le_of_ble_eq_true rfl, Nat.le_of_ble_eq_true rfl⟩) (gP.v (hg.on hS) hP 4 rfl (0) (rfl) hP) rfl rfl hl.1 rfl (lv_room (Nat.le_of_ble_eq_true rfl)) dX5_faults_22 ⟨Nat.le_of_ble_eq_true rfl, Nat.le_of_ble_eq_true rfl⟩) (fun r_3 hr_3 => ?_)
      obtain rfl : r_3 = mFlt mC mR mpar mwt mstk mflw (fun c p m => hM mc mp mm mf md mF c p m fi) md mv := hr_3
      refine lv_goto (tgt := 29) hx hb dX5_faults_25 (by decide) ?_
      exact W.iret (v := mFlt mC mR mpar mwt mstk mflw (fun c p m => hM mc mp mm mf md mF c p m fi) md mv) hx hb hr (fun t ht hW => ⟨⟨mFlt mC mR mpar mwt mstk mflw (fun c p m => hM mc mp mm mf md mF c p m fi) md mv, (), rfl, rfl, g_PD ht hP hD⟩, hS.F ht⟩) hS.2.2 dX5_faults_29
set_option maxHeartbeats 4000000 in
set_option maxRecDepth 100000 in
/-- all faults -/
theorem c5_faultsByList_0 (l : Launch) (D : va_G) (cI cZ cO cL : ClassId) (dt : Nat) (A : Nat → Prop) (b : Nat → Nat) (mC mR mL mF : Nat) (mpar mwt mstk mflw : Nat → Int32) (mc mp mm mf md : Nat → Nat) (mv mder mkn : Nat → Int32) (thr : Int32) (R : va_W) (fi : Int32) (hF : mF ≤ 80) (hC : mC ≤ 12) (hmf : ∀ k, mf k < 2 ^ 31) (hmd : ∀ k, md k < 2 ^ 31) (hR : mR ≤ 5) (hy : 0 ≤ fi ∧ fi ≤ nI (mL + 1) - 1) : Met l yX5_faultsByList wsX5_faultsByList ({ frames := 5, cells := 0, slots := 0, locals := 132 } : Room) (gP D cI cZ cO cL dt A [.ref (b 0), .int fi] (fun H => va_P D vwCl (WM cI cZ b mC mR mL mF mpar mwt mstk mflw mc mp mm mf md mv mder mkn thr ++ R) H ∧ va_D A (WM cI cZ b mC mR mL mF mpar mwt mstk mflw mc mp mm mf md mv mder mkn thr ++ R))) (va_Qi (fun (r : Int32) (_ : Unit) => r = mFlt mC mR mpar mwt mstk mflw (fun c p m => hM mc mp mm mf md mF c p m fi) md mv) (fun _ t => va_P D vwCl (WM cI cZ b mC mR mL mF mpar mwt mstk mflw mc mp mm mf md mv mder mkn 0 ++ R) t.heap ∧ va_D A (WM cI cZ b mC mR mL mF mpar mwt mstk mflw mc mp mm mf md mv mder mkn 0 ++ R)) A) 0 0 A := by
  refine Met.ofW (cc := cX5_faultsByList) (maxL := 2) (ret := (some .int)) (by decide) rfl ?_
  intro p9 e9 s m9 args below meth c9 s₁ B hml hv
  obtain ⟨rfl, hg, hP, hD⟩ := hv
  have hx := B.exec
  have hb := B.bytes
  have hr := B.returns
  have hts := atoms_spec (ws := wsX5_faultsByList) B.pre
  have hown : s.vm.findClass RX5 = some m9.cls := findClass_of_methodNamed B.named
  have hlocks := B.notSynchronized
  have hK := hg.1
  have hS : va_S A s.heap s.heap [] := va_S.rf
  have hl := lv_entry ([.ref (b 0), .int fi]) (n := 2) (Nat.le_of_ble_eq_true rfl)
  rw [lg_entry_eq]
  generalize (lg_sl ([.ref (b 0), .int fi]) ++ List.replicate (2 - (lg_sl ([.ref (b 0), .int fi])).length) Slot.unset).toArray = ls at hl ⊢
  have hl : lv_has ls 2 [(0, .ref (b 0)), (1, .int fi)] := hl
  refine lv_aload_n hx hb dX5_faultsByList_0 rfl (lv_at hl 0 rfl) ?_
  refine lv_aload_n hx hb dX5_faultsByList_1 rfl (lv_at hl 0 rfl) ?_
  refine lv_iload_n hx hb dX5_faultsByList_2 rfl (lv_at hl 1 rfl) ?_
  refine g_csi (va_runV (As := [.int fi]) (rest := [.ref (b 0)]) ⟨hx, hb, hml, hown, hts⟩ (c5_isFiling l D cI cZ cO cL dt A b mC mR mL mF mpar mwt mstk mflw mc mp mm mf md mv mder mkn thr R fi) (cwV 1 hts gX5_faultsByList_X5_isFiling rfl rfl rfl (by decide +kernel) ⟨Nat.le_of_ble_eq_true rfl, Nat.le_of_ble_eq_true rfl⟩) (gP.v hg hP 4 rfl (0) (rfl) hP) rfl rfl hl.1 rfl (lv_room (Nat.le_of_ble_eq_true rfl)) dX5_faultsByList_3 ⟨Nat.le_of_ble_eq_true rfl, Nat.le_of_ble_eq_true rfl⟩) (fun r_1 hr_1 => ?_)
  obtain rfl : r_1 = bI (0 ≤ fi ∧ fi ≤ nI (mL + 1) - 1) := hr_1
  refine lv_if_eq (tgt := 13) hx hb dX5_faultsByList_6 (by decide) (fun c_6 => ?_) (fun c_6 => ?_)
  · skip
    have c_6 := bI_z c_6
    exact absurd hy c_6
  · skip
    have c_6 := bI_n c_6
    refine lv_iconst (v := 0) hx hb dX5_faultsByList_9 (by decide) ?_
    refine lv_goto (tgt := 14) hx hb dX5_faultsByList_10 (by decide) ?_
    refine va_calli (va_runV (As := [.int 0]) (rest := []) ⟨hx, hb, hml, hown, hts⟩ (c5_can l D cI cZ cO cL dt A b mC mR mL mF mpar mwt mstk mflw mc mp mm mf md mv mder mkn thr R 0) (cwV 1 hts gX5_faultsByList_X5_can rfl rfl rfl (by decide +kernel) ⟨Nat.le_of_ble_eq_true rfl, Nat.le_of_ble_eq_true rfl⟩) (gP.v hg hP 4 rfl (0) (rfl) (⟨hP, hD⟩)) rfl rfl hl.1 rfl (lv_room (Nat.le_of_ble_eq_true rfl)) dX5_faultsByList_14 ⟨Nat.le_of_ble_eq_true rfl, Nat.le_of_ble_eq_true rfl⟩) hS (fun q _ h => h) (fun q h => h) (fun r_2 ur_2 tr_2 H locs htr_2 hvmr_2 hwr_2 hB hzr_2 hkr_2 hS => ?_)
    rw [htr_2] at hB
    obtain ⟨hP, hD⟩ := hB
    obtain rfl : r_2 = bI (0 = 0) := hwr_2
    have hP : va_P D vwCl (WM cI cZ b mC mR mL mF mpar mwt mstk mflw mc mp mm mf md mv mder mkn 0 ++ R) H := hP
    have hD : va_D A (WM cI cZ b mC mR mL mF mpar mwt mstk mflw mc mp mm mf md mv mder mkn 0 ++ R) := hD
    refine lv_if_eq (tgt := 28) hx hb dX5_faultsByList_17 (by decide) (fun c_17 => ?_) (fun c_17 => ?_)
    · skip
      have c_17 := bI_z c_17
      exact absurd (by decide) c_17
    · skip
      have c_17 := bI_n c_17
      refine lv_aload_n hx hb dX5_faultsByList_20 rfl (lv_at hl 0 rfl) ?_
      refine lv_iload_n hx hb dX5_faultsByList_21 rfl (lv_at hl 1 rfl) ?_
      refine g_csi (va_runV (As := [.int fi]) (rest := []) ⟨hx, hb, hml, hown, hts⟩ (c5_allFaults l D cI cZ cO cL dt A b mC mR mL mF mpar mwt mstk mflw mc mp mm mf md mv mder mkn 0 R fi hF hC hmf hmd hR) (cwV 1 hts gX5_faultsByList_X5_allFaults rfl rfl rfl (by decide +kernel) ⟨Nat.le_of_ble_eq_true rfl, Nat.le_of_ble_eq_true rfl⟩) (gP.v (hg.on hS) hP 4 rfl (0) (rfl) hP) rfl rfl hl.1 rfl (lv_room (Nat.le_of_ble_eq_true rfl)) dX5_faultsByList_22 ⟨Nat.le_of_ble_eq_true rfl, Nat.le_of_ble_eq_true rfl⟩) (fun r_3 hr_3 => ?_)
      obtain rfl : r_3 = mFlt mC mR mpar mwt mstk mflw (fun c p m => hM mc mp mm mf md mF c p m fi) md mv := hr_3
      refine lv_goto (tgt := 29) hx hb dX5_faultsByList_25 (by decide) ?_
      exact W.iret (v := mFlt mC mR mpar mwt mstk mflw (fun c p m => hM mc mp mm mf md mF c p m fi) md mv) hx hb hr (fun t ht hW => ⟨⟨mFlt mC mR mpar mwt mstk mflw (fun c p m => hM mc mp mm mf md mF c p m fi) md mv, (), rfl, rfl, g_PD ht hP hD⟩, hS.F ht⟩) hS.2.2 dX5_faultsByList_29
set_option maxHeartbeats 4000000 in
set_option maxRecDepth 100000 in
/-- disagreements -/
theorem c5_disagreements_0 (l : Launch) (D : va_G) (cI cZ cO cL : ClassId) (dt : Nat) (A : Nat → Prop) (b : Nat → Nat) (mC mR mL mF : Nat) (mpar mwt mstk mflw : Nat → Int32) (mc mp mm mf md : Nat → Nat) (mv mder mkn : Nat → Int32) (thr : Int32) (R : va_W) (fi : Int32) (hF : mF ≤ 80) (hC : mC ≤ 12) (hmf : ∀ k, mf k < 2 ^ 31) (hmd : ∀ k, md k < 2 ^ 31) (hy : 0 ≤ fi ∧ fi ≤ nI (mL + 1) - 1) : Met l yX5_disagreements wsX5_disagreements ({ frames := 2, cells := 0, slots := 0, locals := 43 } : Room) (gP D cI cZ cO cL dt A [.ref (b 0), .int fi] (fun H => va_P D vwCl (WM cI cZ b mC mR mL mF mpar mwt mstk mflw mc mp mm mf md mv mder mkn thr ++ R) H ∧ va_D A (WM cI cZ b mC mR mL mF mpar mwt mstk mflw mc mp mm mf md mv mder mkn thr ++ R))) (va_Qi (fun (r : Int32) (_ : Unit) => r = sT (fun k => sT (fun j => bI (nI (mf k) = fi ∧ nI (mf j) = fi ∧ (nI (mc j) = nI (mc k) ∧ nI (mp j) = nI (mp k) ∧ nI (mm j) = nI (mm k)) ∧ nI (10 ^ md k) + nI (10 ^ md j) < 2 * farI (mv k) (mv j))) k) mF) (fun _ t => va_P D vwCl (WM cI cZ b mC mR mL mF mpar mwt mstk mflw mc mp mm mf md mv mder mkn 0 ++ R) t.heap ∧ va_D A (WM cI cZ b mC mR mL mF mpar mwt mstk mflw mc mp mm mf md mv mder mkn 0 ++ R)) A) 0 0 A := by
  refine Met.ofW (cc := cX5_disagreements) (maxL := 6) (ret := (some .int)) (by decide) rfl ?_
  intro p9 e9 s m9 args below meth c9 s₁ B hml hv
  obtain ⟨rfl, hg, hP, hD⟩ := hv
  have hx := B.exec
  have hb := B.bytes
  have hr := B.returns
  have hts := atoms_spec (ws := wsX5_disagreements) B.pre
  have hown : s.vm.findClass RX5 = some m9.cls := findClass_of_methodNamed B.named
  have hlocks := B.notSynchronized
  have hK := hg.1
  have hS : va_S A s.heap s.heap [] := va_S.rf
  have w_0 := hts (.fieldLink RX5 80 "DimfactsModel" "facts" "I") (by decide +kernel)
  have win_X5 : ∀ w ∈ wsX50, w ∈ wsX5_disagreements := by decide +kernel
  have w_2 := hts (.fieldLink RX5 35 "DimfactsModel" "filed" "[I") (by decide +kernel)
  have w_3 := hts (.fieldLink RX5 26 "DimfactsModel" "concept" "[I") (by decide +kernel)
  have w_4 := hts (.fieldLink RX5 29 "DimfactsModel" "period" "[I") (by decide +kernel)
  have w_5 := hts (.fieldLink RX5 32 "DimfactsModel" "member" "[I") (by decide +kernel)
  have w_6 := hts (.fieldLink RX5 38 "DimfactsModel" "value" "[I") (by decide +kernel)
  have hl := lv_entry ([.ref (b 0), .int fi]) (n := 6) (Nat.le_of_ble_eq_true rfl)
  rw [lg_entry_eq]
  generalize (lg_sl ([.ref (b 0), .int fi]) ++ List.replicate (6 - (lg_sl ([.ref (b 0), .int fi])).length) Slot.unset).toArray = ls at hl ⊢
  have hl : lv_has ls 6 [(0, .ref (b 0)), (1, .int fi)] := hl
  refine lv_aload_n hx hb dX5_disagreements_0 rfl (lv_at hl 0 rfl) ?_
  refine lv_aload_n hx hb dX5_disagreements_1 rfl (lv_at hl 0 rfl) ?_
  refine lv_iload_n hx hb dX5_disagreements_2 rfl (lv_at hl 1 rfl) ?_
  refine g_csi (va_runV (As := [.int fi]) (rest := [.ref (b 0)]) ⟨hx, hb, hml, hown, hts⟩ (c5_isFiling l D cI cZ cO cL dt A b mC mR mL mF mpar mwt mstk mflw mc mp mm mf md mv mder mkn thr R fi) (cwV 1 hts gX5_disagreements_X5_isFiling rfl rfl rfl (by decide +kernel) ⟨Nat.le_of_ble_eq_true rfl, Nat.le_of_ble_eq_true rfl⟩) (gP.v hg hP 4 rfl (0) (rfl) hP) rfl rfl hl.1 rfl (lv_room (Nat.le_of_ble_eq_true rfl)) dX5_disagreements_3 ⟨Nat.le_of_ble_eq_true rfl, Nat.le_of_ble_eq_true rfl⟩) (fun r_1 hr_1 => ?_)
  obtain rfl : r_1 = bI (0 ≤ fi ∧ fi ≤ nI (mL + 1) - 1) := hr_1
  refine lv_if_eq (tgt := 13) hx hb dX5_disagreements_6 (by decide) (fun c_6 => ?_) (fun c_6 => ?_)
  · skip
    have c_6 := bI_z c_6
    exact absurd hy c_6
  · skip
    have c_6 := bI_n c_6
    refine lv_iconst (v := 0) hx hb dX5_disagreements_9 (by decide) ?_
    refine lv_goto (tgt := 14) hx hb dX5_disagreements_10 (by decide) ?_
    refine va_calli (va_runV (As := [.int 0]) (rest := []) ⟨hx, hb, hml, hown, hts⟩ (c5_can l D cI cZ cO cL dt A b mC mR mL mF mpar mwt mstk mflw mc mp mm mf md mv mder mkn thr R 0) (cwV 1 hts gX5_disagreements_X5_can rfl rfl rfl (by decide +kernel) ⟨Nat.le_of_ble_eq_true rfl, Nat.le_of_ble_eq_true rfl⟩) (gP.v hg hP 4 rfl (0) (rfl) (⟨hP, hD⟩)) rfl rfl hl.1 rfl (lv_room (Nat.le_of_ble_eq_true rfl)) dX5_disagreements_14 ⟨Nat.le_of_ble_eq_true rfl, Nat.le_of_ble_eq_true rfl⟩) hS (fun q _ h => h) (fun q h => h) (fun r_2 ur_2 tr_2 H locs htr_2 hvmr_2 hwr_2 hB hzr_2 hkr_2 hS => ?_)
    rw [htr_2] at hB
    obtain ⟨hP, hD⟩ := hB
    obtain rfl : r_2 = bI (0 = 0) := hwr_2
    have hP : va_P D vwCl (WM cI cZ b mC mR mL mF mpar mwt mstk mflw mc mp mm mf md mv mder mkn 0 ++ R) H := hP
    have hD : va_D A (WM cI cZ b mC mR mL mF mpar mwt mstk mflw mc mp mm mf md mv mder mkn 0 ++ R) := hD
    refine lv_if_ne (tgt := 22) hx hb dX5_disagreements_17 (by decide) (fun c_17 => ?_) (fun c_17 => ?_)
    · skip
      have c_17 := bI_n c_17
      refine lv_iconst (v := 0) hx hb dX5_disagreements_22 (by decide) ?_
      refine lv_istore_n (lv' := [(2, .int 0), (0, .ref (b 0)), (1, .int fi)]) hx hb dX5_disagreements_23 rfl hl (by decide) rfl (fun ls hl => ?_)
      refine lv_iconst (v := 0) hx hb dX5_disagreements_24 (by decide) ?_
      refine lv_istore_n (lv' := [(3, .int 0), (2, .int 0), (0, .ref (b 0)), (1, .int fi)]) hx hb dX5_disagreements_25 rfl hl (by decide) rfl (fun ls hl => ?_)
      have lp26 : ∀ (n26 k : Nat)  (x2 : Int32), mF < k + n26 → k ≤ mF → x2 = sT (fun k => sT (fun j => bI (nI (mf k) = fi ∧ nI (mf j) = fi ∧ (nI (mc j) = nI (mc k) ∧ nI (mp j) = nI (mp k) ∧ nI (mm j) = nI (mm k)) ∧ nI (10 ^ md k) + nI (10 ^ md j) < 2 * farI (mv k) (mv j))) k) k → ∀ ls : Array Slot, lv_has ls 6 [(3, .int (nI k)), (2, .int x2), (1, .int fi), (0, .ref (b 0))] → W p9 l e9 (headSpec wsX5_disagreements ({ frames := 2, cells := 0, slots := 0, locals := 43 } : Room)).room s m9 ([.ref (b 0), .int fi] : List Value).toArray below meth c9 H locs 0 0 (MQ below (va_Qi (fun (r : Int32) (_ : Unit) => r = sT (fun k => sT (fun j => bI (nI (mf k) = fi ∧ nI (mf j) = fi ∧ (nI (mc j) = nI (mc k) ∧ nI (mp j) = nI (mp k) ∧ nI (mm j) = nI (mm k)) ∧ nI (10 ^ md k) + nI (10 ^ md j) < 2 * farI (mv k) (mv j))) k) mF) (fun _ t => va_P D vwCl (WM cI cZ b mC mR mL mF mpar mwt mstk mflw mc mp mm mf md mv mder mkn 0 ++ R) t.heap ∧ va_D A (WM cI cZ b mC mR mL mF mpar mwt mstk mflw mc mp mm mf md mv mder mkn 0 ++ R)) A) ([.ref (b 0), .int fi] : List Value).toArray s 0 0 A) (F0 m9 26 ls []) := by
        intro n26
        induction n26 with
        | zero => intro k  x2 h1 h2; exact absurd h1 (by omega)
        | succ n26 ih26 =>
          intro k  x2 hn26 hk26 e26_2  ls hl
          refine lv_iload_n hx hb dX5_disagreements_26 rfl (lv_at hl 0 rfl) ?_
          refine lv_aload_n hx hb dX5_disagreements_27 rfl (lv_at hl 3 rfl) ?_
          refine va_get (D := D) (ci := 4) (v := .int (nI mF)) (C := RX5) (T := TX5) (N := 17) hx hb hts win_X5 hown hK hP (0) (rfl) rfl 7 (by decide) w_0 (fun _ h9 => h9) rfl dX5_disagreements_28 ?_
          refine lv_icmp_ge (tgt := 154) hx hb dX5_disagreements_31 (by decide) (fun c_31 => ?_) (fun c_31 => ?_)
          · skip
            have hkF : k = mF := by have := (nI_leI (a := mF) (b := k) (by omega) (by omega)).mp c_31; omega
            rw [hkF] at e26_2
            refine lv_iload_n hx hb dX5_disagreements_154 rfl (lv_at hl 1 rfl) ?_
            exact W.iret (v := x2) hx hb hr (fun t ht hW => ⟨⟨x2, (), rfl, e26_2, g_PD ht hP hD⟩, hS.F ht⟩) hS.2.2 dX5_disagreements_155
          · skip
            have hkF : k < mF := by have := mt (nI_leI (a := mF) (b := k) (by omega) (by omega)).mpr c_31; omega
            refine lv_iconst (v := 0) hx hb dX5_disagreements_34 (by decide) ?_
            refine lv_istore (lv' := [(4, .int 0), (3, .int (nI k)), (2, .int x2), (1, .int fi), (0, .ref (b 0))]) hx hb dX5_disagreements_35 hl (by decide) rfl (fun ls hl => ?_)
            have lp37 : ∀ (n37 j : Nat)  (y2 : Int32), k < j + n37 → j ≤ k → y2 = x2 + sT (fun j => bI (nI (mf k) = fi ∧ nI (mf j) = fi ∧ (nI (mc j) = nI (mc k) ∧ nI (mp j) = nI (mp k) ∧ nI (mm j) = nI (mm k)) ∧ nI (10 ^ md k) + nI (10 ^ md j) < 2 * farI (mv k) (mv j))) j → ∀ ls : Array Slot, lv_has ls 6 [(4, .int (nI j)), (2, .int y2), (3, .int (nI k)), (1, .int fi), (0, .ref (b 0))] → W p9 l e9 (headSpec wsX5_disagreements ({ frames := 2, cells := 0, slots := 0, locals := 43 } : Room)).room s m9 ([.ref (b 0), .int fi] : List Value).toArray below meth c9 H locs 0 0 (MQ below (va_Qi (fun (r : Int32) (_ : Unit) => r = sT (fun k => sT (fun j => bI (nI (mf k) = fi ∧ nI (mf j) = fi ∧ (nI (mc j) = nI (mc k) ∧ nI (mp j) = nI (mp k) ∧ nI (mm j) = nI (mm k)) ∧ nI (10 ^ md k) + nI (10 ^ md j) < 2 * farI (mv k) (mv j))) k) mF) (fun _ t => va_P D vwCl (WM cI cZ b mC mR mL mF mpar mwt mstk mflw mc mp mm mf md mv mder mkn 0 ++ R) t.heap ∧ va_D A (WM cI cZ b mC mR mL mF mpar mwt mstk mflw mc mp mm mf md mv mder mkn 0 ++ R)) A) ([.ref (b 0), .int fi] : List Value).toArray s 0 0 A) (F0 m9 37 ls []) := by
              intro n37
              induction n37 with
              | zero => intro j  y2 h1 h2; exact absurd h1 (by omega)
              | succ n37 ih37 =>
                intro j  y2 hn37 hk37 e37_2  ls hl
                refine lv_iload hx hb dX5_disagreements_37 (lv_at hl 0 rfl) ?_
                refine lv_iload_n hx hb dX5_disagreements_39 rfl (lv_at hl 2 rfl) ?_
                refine lv_icmp_ge (tgt := 148) hx hb dX5_disagreements_40 (by decide) (fun c_40 => ?_) (fun c_40 => ?_)
                · skip
                  have hkF : j = k := by have := (nI_leI (a := k) (b := j) (by omega) (by omega)).mp c_40; omega
                  rw [hkF] at e37_2
                  refine lv_iinc (v := nI (k + 1)) (lv' := [(3, .int (nI (k + 1))), (4, .int (nI j)), (2, .int y2), (1, .int fi), (0, .ref (b 0))]) hx hb dX5_disagreements_148 hl (k := 2) rfl (nI_1 k) (by decide) rfl (fun ls hl => ?_)
                  refine lv_goto (tgt := 26) hx hb dX5_disagreements_151 (by decide) ?_
                  exact ih26 (k + 1)  y2 (by omega) (by omega) (by rw [e37_2, e26_2]; rfl)  _ (lv_sub hl [0, 2, 3, 4] rfl)
                · skip
                  have hkF : j < k := by have := mt (nI_leI (a := k) (b := j) (by omega) (by omega)).mpr c_40; omega
                  refine lv_aload_n hx hb dX5_disagreements_43 rfl (lv_at hl 4 rfl) ?_
                  refine va_get (D := D) (ci := 4) (v := .ref (b 8)) (C := RX5) (T := TX5) (N := 17) hx hb hts win_X5 hown hK hP (0) (rfl) rfl 11 (by decide) w_2 (fun _ h9 => h9) rfl dX5_disagreements_44 ?_
                  refine lv_iload_n hx hb dX5_disagreements_47 rfl (lv_at hl 2 rfl) ?_
                  refine g_iald hx hb hK hP (8) 0 (n := 80) (f := (fun k => nI (mf k))) (rfl) rfl k rfl (by omega) (by decide) dX5_disagreements_48 ?_
                  refine lv_iload_n hx hb dX5_disagreements_49 rfl (lv_at hl 3 rfl) ?_
                  refine lv_icmp_ne (tgt := 95) hx hb dX5_disagreements_50 (by decide) (fun c_50 => ?_) (fun c_50 => ?_)
                  · skip
                    have hst : ¬ (nI (mf k) = fi ∧ nI (mf j) = fi ∧ (nI (mc j) = nI (mc k) ∧ nI (mp j) = nI (mp k) ∧ nI (mm j) = nI (mm k)) ∧ nI (10 ^ md k) + nI (10 ^ md j) < 2 * farI (mv k) (mv j)) := fun q => c_50 q.1
                    refine lv_iconst (v := 0) hx hb dX5_disagreements_95 (by decide) ?_
                    refine lv_istore (lv' := [(5, .int 0), (4, .int (nI j)), (2, .int y2), (3, .int (nI k)), (1, .int fi), (0, .ref (b 0))]) hx hb dX5_disagreements_96 hl (by decide) rfl (fun ls hl => ?_)
                    refine lv_iload_n hx hb dX5_disagreements_98 rfl (lv_at hl 2 rfl) ?_
                    refine lv_iload hx hb dX5_disagreements_99 (lv_at hl 0 rfl) ?_
                    refine lv_if_eq (tgt := 139) hx hb dX5_disagreements_101 (by decide) (fun c_101 => ?_) (fun c_101 => ?_)
                    · skip
                      refine lv_iconst (v := 0) hx hb dX5_disagreements_139 (by decide) ?_
                      refine lv_iadd hx hb dX5_disagreements_140 ?_
                      refine lv_istore_n (lv' := [(2, .int (y2 + 0)), (5, .int 0), (4, .int (nI j)), (3, .int (nI k)), (1, .int fi), (0, .ref (b 0))]) hx hb dX5_disagreements_141 rfl hl (by decide) rfl (fun ls hl => ?_)
                      refine lv_iinc (v := nI (j + 1)) (lv' := [(4, .int (nI (j + 1))), (2, .int (y2 + 0)), (5, .int 0), (3, .int (nI k)), (1, .int fi), (0, .ref (b 0))]) hx hb dX5_disagreements_142 hl (k := 2) rfl (nI_1 j) (by decide) rfl (fun ls hl => ?_)
                      refine lv_goto (tgt := 37) hx hb dX5_disagreements_145 (by decide) ?_
                      exact ih37 (j + 1)  (y2 + 0) (by omega) (by omega) (by rw [e37_2]; show _ = x2 + (sT (fun j => bI (nI (mf k) = fi ∧ nI (mf j) = fi ∧ (nI (mc j) = nI (mc k) ∧ nI (mp j) = nI (mp k) ∧ nI (mm j) = nI (mm k)) ∧ nI (10 ^ md k) + nI (10 ^ md j) < 2 * farI (mv k) (mv j))) j + bI (nI (mf k) = fi ∧ nI (mf j) = fi ∧ (nI (mc j) = nI (mc k) ∧ nI (mp j) = nI (mp k) ∧ nI (mm j) = nI (mm k)) ∧ nI (10 ^ md k) + nI (10 ^ md j) < 2 * farI (mv k) (mv j))); first | rw [← bI_t hst, Int32.add_assoc] | rw [← bI_f hst, Int32.add_assoc])  _ (lv_sub hl [0, 1, 3, 4, 5] rfl)
                    · skip
                      exact absurd c_101 (by decide)
                  · skip
                    refine lv_aload_n hx hb dX5_disagreements_53 rfl (lv_at hl 4 rfl) ?_
                    refine va_get (D := D) (ci := 4) (v := .ref (b 8)) (C := RX5) (T := TX5) (N := 17) hx hb hts win_X5 hown hK hP (0) (rfl) rfl 11 (by decide) w_2 (fun _ h9 => h9) rfl dX5_disagreements_54 ?_
                    refine lv_iload hx hb dX5_disagreements_57 (lv_at hl 0 rfl) ?_
                    refine g_iald hx hb hK hP (8) 0 (n := 80) (f := (fun k => nI (mf k))) (rfl) rfl j rfl (by omega) (by decide) dX5_disagreements_59 ?_
                    refine lv_iload_n hx hb dX5_disagreements_60 rfl (lv_at hl 3 rfl) ?_
                    refine lv_icmp_ne (tgt := 95) hx hb dX5_disagreements_61 (by decide) (fun c_61 => ?_) (fun c_61 => ?_)
                    · skip
                      have hst : ¬ (nI (mf k) = fi ∧ nI (mf j) = fi ∧ (nI (mc j) = nI (mc k) ∧ nI (mp j) = nI (mp k) ∧ nI (mm j) = nI (mm k)) ∧ nI (10 ^ md k) + nI (10 ^ md j) < 2 * farI (mv k) (mv j)) := fun q => c_61 q.2.1
                      refine lv_iconst (v := 0) hx hb dX5_disagreements_95 (by decide) ?_
                      refine lv_istore (lv' := [(5, .int 0), (4, .int (nI j)), (2, .int y2), (3, .int (nI k)), (1, .int fi), (0, .ref (b 0))]) hx hb dX5_disagreements_96 hl (by decide) rfl (fun ls hl => ?_)
                      refine lv_iload_n hx hb dX5_disagreements_98 rfl (lv_at hl 2 rfl) ?_
                      refine lv_iload hx hb dX5_disagreements_99 (lv_at hl 0 rfl) ?_
                      refine lv_if_eq (tgt := 139) hx hb dX5_disagreements_101 (by decide) (fun c_101 => ?_) (fun c_101 => ?_)
                      · skip
                        refine lv_iconst (v := 0) hx hb dX5_disagreements_139 (by decide) ?_
                        refine lv_iadd hx hb dX5_disagreements_140 ?_
                        refine lv_istore_n (lv' := [(2, .int (y2 + 0)), (5, .int 0), (4, .int (nI j)), (3, .int (nI k)), (1, .int fi), (0, .ref (b 0))]) hx hb dX5_disagreements_141 rfl hl (by decide) rfl (fun ls hl => ?_)
                        refine lv_iinc (v := nI (j + 1)) (lv' := [(4, .int (nI (j + 1))), (2, .int (y2 + 0)), (5, .int 0), (3, .int (nI k)), (1, .int fi), (0, .ref (b 0))]) hx hb dX5_disagreements_142 hl (k := 2) rfl (nI_1 j) (by decide) rfl (fun ls hl => ?_)
                        refine lv_goto (tgt := 37) hx hb dX5_disagreements_145 (by decide) ?_
                        exact ih37 (j + 1)  (y2 + 0) (by omega) (by omega) (by rw [e37_2]; show _ = x2 + (sT (fun j => bI (nI (mf k) = fi ∧ nI (mf j) = fi ∧ (nI (mc j) = nI (mc k) ∧ nI (mp j) = nI (mp k) ∧ nI (mm j) = nI (mm k)) ∧ nI (10 ^ md k) + nI (10 ^ md j) < 2 * farI (mv k) (mv j))) j + bI (nI (mf k) = fi ∧ nI (mf j) = fi ∧ (nI (mc j) = nI (mc k) ∧ nI (mp j) = nI (mp k) ∧ nI (mm j) = nI (mm k)) ∧ nI (10 ^ md k) + nI (10 ^ md j) < 2 * farI (mv k) (mv j))); first | rw [← bI_t hst, Int32.add_assoc] | rw [← bI_f hst, Int32.add_assoc])  _ (lv_sub hl [0, 1, 3, 4, 5] rfl)
                      · skip
                        exact absurd c_101 (by decide)
                    · skip
                      refine lv_aload_n hx hb dX5_disagreements_64 rfl (lv_at hl 4 rfl) ?_
                      refine lv_iload hx hb dX5_disagreements_65 (lv_at hl 0 rfl) ?_
                      refine lv_aload_n hx hb dX5_disagreements_67 rfl (lv_at hl 4 rfl) ?_
                      refine va_get (D := D) (ci := 4) (v := .ref (b 5)) (C := RX5) (T := TX5) (N := 17) hx hb hts win_X5 hown hK hP (0) (rfl) rfl 8 (by decide) w_3 (fun _ h9 => h9) rfl dX5_disagreements_68 ?_
                      refine lv_iload_n hx hb dX5_disagreements_71 rfl (lv_at hl 2 rfl) ?_
                      refine g_iald hx hb hK hP (5) 0 (n := 80) (f := (fun k => nI (mc k))) (rfl) rfl k rfl (by omega) (by decide) dX5_disagreements_72 ?_
                      refine lv_aload_n hx hb dX5_disagreements_73 rfl (lv_at hl 4 rfl) ?_
                      refine va_get (D := D) (ci := 4) (v := .ref (b 6)) (C := RX5) (T := TX5) (N := 17) hx hb hts win_X5 hown hK hP (0) (rfl) rfl 9 (by decide) w_4 (fun _ h9 => h9) rfl dX5_disagreements_74 ?_
                      refine lv_iload_n hx hb dX5_disagreements_77 rfl (lv_at hl 2 rfl) ?_
                      refine g_iald hx hb hK hP (6) 0 (n := 80) (f := (fun k => nI (mp k))) (rfl) rfl k rfl (by omega) (by decide) dX5_disagreements_78 ?_
                      refine lv_aload_n hx hb dX5_disagreements_79 rfl (lv_at hl 4 rfl) ?_
                      refine va_get (D := D) (ci := 4) (v := .ref (b 7)) (C := RX5) (T := TX5) (N := 17) hx hb hts win_X5 hown hK hP (0) (rfl) rfl 10 (by decide) w_5 (fun _ h9 => h9) rfl dX5_disagreements_80 ?_
                      refine lv_iload_n hx hb dX5_disagreements_83 rfl (lv_at hl 2 rfl) ?_
                      refine g_iald hx hb hK hP (7) 0 (n := 80) (f := (fun k => nI (mm k))) (rfl) rfl k rfl (by omega) (by decide) dX5_disagreements_84 ?_
                      refine g_csi (va_runV (As := [.int (nI j), .int (nI (mc k)), .int (nI (mp k)), .int (nI (mm k))]) (rest := []) ⟨hx, hb, hml, hown, hts⟩ (c5_isOf l D cI cZ cO cL dt A b mC mR mL mF mpar mwt mstk mflw mc mp mm mf md mv mder mkn 0 R j (nI (mc k)) (nI (mp k)) (nI (mm k)) (by omega)) (cwV 4 hts gX5_disagreements_X5_isOf rfl rfl rfl (by decide +kernel) ⟨Nat.le_of_ble_eq_true rfl, Nat.le_of_ble_eq_true rfl⟩) (gP.v (hg.on hS) hP 4 rfl (0) (rfl) hP) rfl rfl hl.1 rfl (lv_room (Nat.le_of_ble_eq_true rfl)) dX5_disagreements_85 ⟨Nat.le_of_ble_eq_true rfl, Nat.le_of_ble_eq_true rfl⟩) (fun r_3 hr_3 => ?_)
                      obtain rfl : r_3 = bI (nI (mc j) = nI (mc k) ∧ nI (mp j) = nI (mp k) ∧ nI (mm j) = nI (mm k)) := hr_3
                      refine lv_if_eq (tgt := 95) hx hb dX5_disagreements_88 (by decide) (fun c_88 => ?_) (fun c_88 => ?_)
                      · skip
                        have c_88 := bI_z c_88
                        have hst : ¬ (nI (mf k) = fi ∧ nI (mf j) = fi ∧ (nI (mc j) = nI (mc k) ∧ nI (mp j) = nI (mp k) ∧ nI (mm j) = nI (mm k)) ∧ nI (10 ^ md k) + nI (10 ^ md j) < 2 * farI (mv k) (mv j)) := fun q => c_88 q.2.2.1
                        refine lv_iconst (v := 0) hx hb dX5_disagreements_95 (by decide) ?_
                        refine lv_istore (lv' := [(5, .int 0), (4, .int (nI j)), (2, .int y2), (3, .int (nI k)), (1, .int fi), (0, .ref (b 0))]) hx hb dX5_disagreements_96 hl (by decide) rfl (fun ls hl => ?_)
                        refine lv_iload_n hx hb dX5_disagreements_98 rfl (lv_at hl 2 rfl) ?_
                        refine lv_iload hx hb dX5_disagreements_99 (lv_at hl 0 rfl) ?_
                        refine lv_if_eq (tgt := 139) hx hb dX5_disagreements_101 (by decide) (fun c_101 => ?_) (fun c_101 => ?_)
                        · skip
                          refine lv_iconst (v := 0) hx hb dX5_disagreements_139 (by decide) ?_
                          refine lv_iadd hx hb dX5_disagreements_140 ?_
                          refine lv_istore_n (lv' := [(2, .int (y2 + 0)), (5, .int 0), (4, .int (nI j)), (3, .int (nI k)), (1, .int fi), (0, .ref (b 0))]) hx hb dX5_disagreements_141 rfl hl (by decide) rfl (fun ls hl => ?_)
                          refine lv_iinc (v := nI (j + 1)) (lv' := [(4, .int (nI (j + 1))), (2, .int (y2 + 0)), (5, .int 0), (3, .int (nI k)), (1, .int fi), (0, .ref (b 0))]) hx hb dX5_disagreements_142 hl (k := 2) rfl (nI_1 j) (by decide) rfl (fun ls hl => ?_)
                          refine lv_goto (tgt := 37) hx hb dX5_disagreements_145 (by decide) ?_
                          exact ih37 (j + 1)  (y2 + 0) (by omega) (by omega) (by rw [e37_2]; show _ = x2 + (sT (fun j => bI (nI (mf k) = fi ∧ nI (mf j) = fi ∧ (nI (mc j) = nI (mc k) ∧ nI (mp j) = nI (mp k) ∧ nI (mm j) = nI (mm k)) ∧ nI (10 ^ md k) + nI (10 ^ md j) < 2 * farI (mv k) (mv j))) j + bI (nI (mf k) = fi ∧ nI (mf j) = fi ∧ (nI (mc j) = nI (mc k) ∧ nI (mp j) = nI (mp k) ∧ nI (mm j) = nI (mm k)) ∧ nI (10 ^ md k) + nI (10 ^ md j) < 2 * farI (mv k) (mv j))); first | rw [← bI_t hst, Int32.add_assoc] | rw [← bI_f hst, Int32.add_assoc])  _ (lv_sub hl [0, 1, 3, 4, 5] rfl)
                        · skip
                          exact absurd c_101 (by decide)
                      · skip
                        have c_88 := bI_n c_88
                        refine lv_iconst (v := 1) hx hb dX5_disagreements_91 (by decide) ?_
                        refine lv_goto (tgt := 96) hx hb dX5_disagreements_92 (by decide) ?_
                        refine lv_istore (lv' := [(5, .int 1), (4, .int (nI j)), (2, .int y2), (3, .int (nI k)), (1, .int fi), (0, .ref (b 0))]) hx hb dX5_disagreements_96 hl (by decide) rfl (fun ls hl => ?_)
                        refine lv_iload_n hx hb dX5_disagreements_98 rfl (lv_at hl 2 rfl) ?_
                        refine lv_iload hx hb dX5_disagreements_99 (lv_at hl 0 rfl) ?_
                        refine lv_if_eq (tgt := 139) hx hb dX5_disagreements_101 (by decide) (fun c_101 => ?_) (fun c_101 => ?_)
                        · skip
                          exact absurd c_101 (by decide)
                        · skip
                          refine lv_aload_n hx hb dX5_disagreements_104 rfl (lv_at hl 5 rfl) ?_
                          refine va_get (D := D) (ci := 4) (v := .ref (b 9)) (C := RX5) (T := TX5) (N := 17) hx hb hts win_X5 hown hK hP (0) (rfl) rfl 12 (by decide) w_6 (fun _ h9 => h9) rfl dX5_disagreements_105 ?_
                          refine lv_iload_n hx hb dX5_disagreements_108 rfl (lv_at hl 3 rfl) ?_
                          refine g_iald hx hb hK hP (9) 0 (n := 80) (f := mv) (rfl) rfl k rfl (by omega) (by decide) dX5_disagreements_109 ?_
                          refine lv_aload_n hx hb dX5_disagreements_110 rfl (lv_at hl 5 rfl) ?_
                          refine va_get (D := D) (ci := 4) (v := .ref (b 9)) (C := RX5) (T := TX5) (N := 17) hx hb hts win_X5 hown hK hP (0) (rfl) rfl 12 (by decide) w_6 (fun _ h9 => h9) rfl dX5_disagreements_111 ?_
                          refine lv_iload hx hb dX5_disagreements_114 (lv_at hl 1 rfl) ?_
                          refine g_iald hx hb hK hP (9) 0 (n := 80) (f := mv) (rfl) rfl j rfl (by omega) (by decide) dX5_disagreements_116 ?_
                          refine lv_aload_n hx hb dX5_disagreements_117 rfl (lv_at hl 5 rfl) ?_
                          refine lv_iload_n hx hb dX5_disagreements_118 rfl (lv_at hl 3 rfl) ?_
                          refine g_csi (va_runV (As := [.int (nI k)]) (rest := [.int (mv j), .int (mv k), .int y2]) ⟨hx, hb, hml, hown, hts⟩ (c5_doubtOf l D cI cZ cO cL dt A b mC mR mL mF mpar mwt mstk mflw mc mp mm mf md mv mder mkn 0 R k (by omega) hmd) (cwV 1 hts gX5_disagreements_X5_doubtOf rfl rfl rfl (by decide +kernel) ⟨Nat.le_of_ble_eq_true rfl, Nat.le_of_ble_eq_true rfl⟩) (gP.v (hg.on hS) hP 4 rfl (0) (rfl) hP) rfl rfl hl.1 rfl (lv_room (Nat.le_of_ble_eq_true rfl)) dX5_disagreements_119 ⟨Nat.le_of_ble_eq_true rfl, Nat.le_of_ble_eq_true rfl⟩) (fun r_4 hr_4 => ?_)
                          obtain rfl : r_4 = nI (10 ^ md k) := hr_4
                          refine lv_aload_n hx hb dX5_disagreements_122 rfl (lv_at hl 5 rfl) ?_
                          refine lv_iload hx hb dX5_disagreements_123 (lv_at hl 1 rfl) ?_
                          refine g_csi (va_runV (As := [.int (nI j)]) (rest := [.int (nI (10 ^ md k)), .int (mv j), .int (mv k), .int y2]) ⟨hx, hb, hml, hown, hts⟩ (c5_doubtOf l D cI cZ cO cL dt A b mC mR mL mF mpar mwt mstk mflw mc mp mm mf md mv mder mkn 0 R j (by omega) hmd) (cwV 1 hts gX5_disagreements_X5_doubtOf rfl rfl rfl (by decide +kernel) ⟨Nat.le_of_ble_eq_true rfl, Nat.le_of_ble_eq_true rfl⟩) (gP.v (hg.on hS) hP 4 rfl (0) (rfl) hP) rfl rfl hl.1 rfl (lv_room (Nat.le_of_ble_eq_true rfl)) dX5_disagreements_125 ⟨Nat.le_of_ble_eq_true rfl, Nat.le_of_ble_eq_true rfl⟩) (fun r_5 hr_5 => ?_)
                          obtain rfl : r_5 = nI (10 ^ md j) := hr_5
                          refine lv_iadd hx hb dX5_disagreements_128 ?_
                          refine g_csi (va_runS (As := [.int (mv k), .int (mv j), .int ((nI (10 ^ md k)) + (nI (10 ^ md j)))]) (rest := [.int y2]) ⟨hx, hb, hml, hown, hts⟩ (c5_isFar l D cI cZ cO cL dt A (mv k) (mv j) (nI (10 ^ md k) + nI (10 ^ md j)) (WM cI cZ b mC mR mL mF mpar mwt mstk mflw mc mp mm mf md mv mder mkn 0 ++ R)) (va_cwS 3 hts gX5_disagreements_X5_isFar rfl rfl rfl (by decide +kernel) ⟨Nat.le_of_ble_eq_true rfl, Nat.le_of_ble_eq_true rfl⟩) (gP.s (hg.on hS) hP) rfl rfl hl.1 rfl (lv_room (Nat.le_of_ble_eq_true rfl)) dX5_disagreements_129 ⟨Nat.le_of_ble_eq_true rfl, Nat.le_of_ble_eq_true rfl⟩) (fun r_6 hr_6 => ?_)
                          obtain rfl : r_6 = bI (nI (10 ^ md k) + nI (10 ^ md j) < 2 * farI (mv k) (mv j)) := hr_6
                          refine lv_if_eq (tgt := 139) hx hb dX5_disagreements_132 (by decide) (fun c_132 => ?_) (fun c_132 => ?_)
                          · skip
                            have c_132 := bI_z c_132
                            have hst : ¬ (nI (mf k) = fi ∧ nI (mf j) = fi ∧ (nI (mc j) = nI (mc k) ∧ nI (mp j) = nI (mp k) ∧ nI (mm j) = nI (mm k)) ∧ nI (10 ^ md k) + nI (10 ^ md j) < 2 * farI (mv k) (mv j)) := fun q => c_132 q.2.2.2
                            refine lv_iconst (v := 0) hx hb dX5_disagreements_139 (by decide) ?_
                            refine lv_iadd hx hb dX5_disagreements_140 ?_
                            refine lv_istore_n (lv' := [(2, .int (y2 + 0)), (5, .int 1), (4, .int (nI j)), (3, .int (nI k)), (1, .int fi), (0, .ref (b 0))]) hx hb dX5_disagreements_141 rfl hl (by decide) rfl (fun ls hl => ?_)
                            refine lv_iinc (v := nI (j + 1)) (lv' := [(4, .int (nI (j + 1))), (2, .int (y2 + 0)), (5, .int 1), (3, .int (nI k)), (1, .int fi), (0, .ref (b 0))]) hx hb dX5_disagreements_142 hl (k := 2) rfl (nI_1 j) (by decide) rfl (fun ls hl => ?_)
                            refine lv_goto (tgt := 37) hx hb dX5_disagreements_145 (by decide) ?_
                            exact ih37 (j + 1)  (y2 + 0) (by omega) (by omega) (by rw [e37_2]; show _ = x2 + (sT (fun j => bI (nI (mf k) = fi ∧ nI (mf j) = fi ∧ (nI (mc j) = nI (mc k) ∧ nI (mp j) = nI (mp k) ∧ nI (mm j) = nI (mm k)) ∧ nI (10 ^ md k) + nI (10 ^ md j) < 2 * farI (mv k) (mv j))) j + bI (nI (mf k) = fi ∧ nI (mf j) = fi ∧ (nI (mc j) = nI (mc k) ∧ nI (mp j) = nI (mp k) ∧ nI (mm j) = nI (mm k)) ∧ nI (10 ^ md k) + nI (10 ^ md j) < 2 * farI (mv k) (mv j))); first | rw [← bI_t hst, Int32.add_assoc] | rw [← bI_f hst, Int32.add_assoc])  _ (lv_sub hl [0, 1, 3, 4, 5] rfl)
                          · skip
                            have c_132 := bI_n c_132
                            have hst : nI (mf k) = fi ∧ nI (mf j) = fi ∧ (nI (mc j) = nI (mc k) ∧ nI (mp j) = nI (mp k) ∧ nI (mm j) = nI (mm k)) ∧ nI (10 ^ md k) + nI (10 ^ md j) < 2 * farI (mv k) (mv j) := ⟨c_50, c_61, c_88, c_132⟩
                            refine lv_iconst (v := 1) hx hb dX5_disagreements_135 (by decide) ?_
                            refine lv_goto (tgt := 140) hx hb dX5_disagreements_136 (by decide) ?_
                            refine lv_iadd hx hb dX5_disagreements_140 ?_
                            refine lv_istore_n (lv' := [(2, .int (y2 + 1)), (5, .int 1), (4, .int (nI j)), (3, .int (nI k)), (1, .int fi), (0, .ref (b 0))]) hx hb dX5_disagreements_141 rfl hl (by decide) rfl (fun ls hl => ?_)
                            refine lv_iinc (v := nI (j + 1)) (lv' := [(4, .int (nI (j + 1))), (2, .int (y2 + 1)), (5, .int 1), (3, .int (nI k)), (1, .int fi), (0, .ref (b 0))]) hx hb dX5_disagreements_142 hl (k := 2) rfl (nI_1 j) (by decide) rfl (fun ls hl => ?_)
                            refine lv_goto (tgt := 37) hx hb dX5_disagreements_145 (by decide) ?_
                            exact ih37 (j + 1)  (y2 + 1) (by omega) (by omega) (by rw [e37_2]; show _ = x2 + (sT (fun j => bI (nI (mf k) = fi ∧ nI (mf j) = fi ∧ (nI (mc j) = nI (mc k) ∧ nI (mp j) = nI (mp k) ∧ nI (mm j) = nI (mm k)) ∧ nI (10 ^ md k) + nI (10 ^ md j) < 2 * farI (mv k) (mv j))) j + bI (nI (mf k) = fi ∧ nI (mf j) = fi ∧ (nI (mc j) = nI (mc k) ∧ nI (mp j) = nI (mp k) ∧ nI (mm j) = nI (mm k)) ∧ nI (10 ^ md k) + nI (10 ^ md j) < 2 * farI (mv k) (mv j))); first | rw [← bI_t hst, Int32.add_assoc] | rw [← bI_f hst, Int32.add_assoc])  _ (lv_sub hl [0, 1, 3, 4, 5] rfl)
            exact lp37 (k + 1) 0  x2 (by omega) (by omega) (Int32.add_zero _).symm  _ (lv_sub hl [0, 2, 1, 3, 4] rfl)
      exact lp26 (mF + 1) 0  0 (by omega) (by omega) rfl  _ (lv_sub hl [0, 1, 3, 2] rfl)
    · skip
      have c_17 := bI_z c_17
      exact absurd (by decide) c_17
set_option maxHeartbeats 4000000 in
set_option maxRecDepth 100000 in
/-- restated -/
theorem c5_restated_0 (l : Launch) (D : va_G) (cI cZ cO cL : ClassId) (dt : Nat) (A : Nat → Prop) (b : Nat → Nat) (mC mR mL mF : Nat) (mpar mwt mstk mflw : Nat → Int32) (mc mp mm mf md : Nat → Nat) (mv mder mkn : Nat → Int32) (thr : Int32) (R : va_W) (fi : Int32) (hF : mF ≤ 80) (hC : mC ≤ 12) (hmf : ∀ k, mf k < 2 ^ 31) (hmd : ∀ k, md k < 2 ^ 31) (hy : 0 ≤ fi ∧ fi ≤ nI (mL + 1) - 1) : Met l yX5_restated wsX5_restated ({ frames := 2, cells := 0, slots := 0, locals := 51 } : Room) (gP D cI cZ cO cL dt A [.ref (b 0), .int fi] (fun H => va_P D vwCl (WM cI cZ b mC mR mL mF mpar mwt mstk mflw mc mp mm mf md mv mder mkn thr ++ R) H ∧ va_D A (WM cI cZ b mC mR mL mF mpar mwt mstk mflw mc mp mm mf md mv mder mkn thr ++ R))) (va_Qi (fun (r : Int32) (_ : Unit) => r = sT (fun k => bI (((decide (nI (mf k) = fi) && decide (hM mc mp mm mf md mF (nI (mc k)) (nI (mp k)) (nI (mm k)) fi = some k)) && (match hM mc mp mm mf md mF (nI (mc k)) (nI (mp k)) (nI (mm k)) (fi - 1) with | none => false | some b => decide (mv b ≠ mv k))) = true)) mF) (fun _ t => va_P D vwCl (WM cI cZ b mC mR mL mF mpar mwt mstk mflw mc mp mm mf md mv mder mkn 0 ++ R) t.heap ∧ va_D A (WM cI cZ b mC mR mL mF mpar mwt mstk mflw mc mp mm mf md mv mder mkn 0 ++ R)) A) 0 0 A := by
  refine Met.ofW (cc := cX5_restated) (maxL := 6) (ret := (some .int)) (by decide) rfl ?_
  intro p9 e9 s m9 args below meth c9 s₁ B hml hv
  obtain ⟨rfl, hg, hP, hD⟩ := hv
  have hx := B.exec
  have hb := B.bytes
  have hr := B.returns
  have hts := atoms_spec (ws := wsX5_restated) B.pre
  have hown : s.vm.findClass RX5 = some m9.cls := findClass_of_methodNamed B.named
  have hlocks := B.notSynchronized
  have hK := hg.1
  have hS : va_S A s.heap s.heap [] := va_S.rf
  have w_0 := hts (.fieldLink RX5 80 "DimfactsModel" "facts" "I") (by decide +kernel)
  have win_X5 : ∀ w ∈ wsX50, w ∈ wsX5_restated := by decide +kernel
  have w_2 := hts (.fieldLink RX5 35 "DimfactsModel" "filed" "[I") (by decide +kernel)
  have w_3 := hts (.fieldLink RX5 26 "DimfactsModel" "concept" "[I") (by decide +kernel)
  have w_4 := hts (.fieldLink RX5 29 "DimfactsModel" "period" "[I") (by decide +kernel)
  have w_5 := hts (.fieldLink RX5 32 "DimfactsModel" "member" "[I") (by decide +kernel)
  have w_6 := hts (.fieldLink RX5 38 "DimfactsModel" "value" "[I") (by decide +kernel)
  have hl := lv_entry ([.ref (b 0), .int fi]) (n := 6) (Nat.le_of_ble_eq_true rfl)
  rw [lg_entry_eq]
  generalize (lg_sl ([.ref (b 0), .int fi]) ++ List.replicate (6 - (lg_sl ([.ref (b 0), .int fi])).length) Slot.unset).toArray = ls at hl ⊢
  have hl : lv_has ls 6 [(0, .ref (b 0)), (1, .int fi)] := hl
  refine lv_aload_n hx hb dX5_restated_0 rfl (lv_at hl 0 rfl) ?_
  refine lv_aload_n hx hb dX5_restated_1 rfl (lv_at hl 0 rfl) ?_
  refine lv_iload_n hx hb dX5_restated_2 rfl (lv_at hl 1 rfl) ?_
  refine g_csi (va_runV (As := [.int fi]) (rest := [.ref (b 0)]) ⟨hx, hb, hml, hown, hts⟩ (c5_isFiling l D cI cZ cO cL dt A b mC mR mL mF mpar mwt mstk mflw mc mp mm mf md mv mder mkn thr R fi) (cwV 1 hts gX5_restated_X5_isFiling rfl rfl rfl (by decide +kernel) ⟨Nat.le_of_ble_eq_true rfl, Nat.le_of_ble_eq_true rfl⟩) (gP.v hg hP 4 rfl (0) (rfl) hP) rfl rfl hl.1 rfl (lv_room (Nat.le_of_ble_eq_true rfl)) dX5_restated_3 ⟨Nat.le_of_ble_eq_true rfl, Nat.le_of_ble_eq_true rfl⟩) (fun r_1 hr_1 => ?_)
  obtain rfl : r_1 = bI (0 ≤ fi ∧ fi ≤ nI (mL + 1) - 1) := hr_1
  refine lv_if_eq (tgt := 13) hx hb dX5_restated_6 (by decide) (fun c_6 => ?_) (fun c_6 => ?_)
  · skip
    have c_6 := bI_z c_6
    exact absurd hy c_6
  · skip
    have c_6 := bI_n c_6
    refine lv_iconst (v := 0) hx hb dX5_restated_9 (by decide) ?_
    refine lv_goto (tgt := 14) hx hb dX5_restated_10 (by decide) ?_
    refine va_calli (va_runV (As := [.int 0]) (rest := []) ⟨hx, hb, hml, hown, hts⟩ (c5_can l D cI cZ cO cL dt A b mC mR mL mF mpar mwt mstk mflw mc mp mm mf md mv mder mkn thr R 0) (cwV 1 hts gX5_restated_X5_can rfl rfl rfl (by decide +kernel) ⟨Nat.le_of_ble_eq_true rfl, Nat.le_of_ble_eq_true rfl⟩) (gP.v hg hP 4 rfl (0) (rfl) (⟨hP, hD⟩)) rfl rfl hl.1 rfl (lv_room (Nat.le_of_ble_eq_true rfl)) dX5_restated_14 ⟨Nat.le_of_ble_eq_true rfl, Nat.le_of_ble_eq_true rfl⟩) hS (fun q _ h => h) (fun q h => h) (fun r_2 ur_2 tr_2 H locs htr_2 hvmr_2 hwr_2 hB hzr_2 hkr_2 hS => ?_)
    rw [htr_2] at hB
    obtain ⟨hP, hD⟩ := hB
    obtain rfl : r_2 = bI (0 = 0) := hwr_2
    have hP : va_P D vwCl (WM cI cZ b mC mR mL mF mpar mwt mstk mflw mc mp mm mf md mv mder mkn 0 ++ R) H := hP
    have hD : va_D A (WM cI cZ b mC mR mL mF mpar mwt mstk mflw mc mp mm mf md mv mder mkn 0 ++ R) := hD
    refine lv_if_ne (tgt := 22) hx hb dX5_restated_17 (by decide) (fun c_17 => ?_) (fun c_17 => ?_)
    · skip
      have c_17 := bI_n c_17
      refine lv_iconst (v := 0) hx hb dX5_restated_22 (by decide) ?_
      refine lv_istore_n (lv' := [(2, .int 0), (0, .ref (b 0)), (1, .int fi)]) hx hb dX5_restated_23 rfl hl (by decide) rfl (fun ls hl => ?_)
      refine lv_iconst (v := 0) hx hb dX5_restated_24 (by decide) ?_
      refine lv_istore_n (lv' := [(3, .int 0), (2, .int 0), (0, .ref (b 0)), (1, .int fi)]) hx hb dX5_restated_25 rfl hl (by decide) rfl (fun ls hl => ?_)
      have lp26 : ∀ (n26 k : Nat)  (x2 : Int32), mF < k + n26 → k ≤ mF → x2 = sT (fun k => bI (((decide (nI (mf k) = fi) && decide (hM mc mp mm mf md mF (nI (mc k)) (nI (mp k)) (nI (mm k)) fi = some k)) && (match hM mc mp mm mf md mF (nI (mc k)) (nI (mp k)) (nI (mm k)) (fi - 1) with | none => false | some b => decide (mv b ≠ mv k))) = true)) k → ∀ ls : Array Slot, lv_has ls 6 [(3, .int (nI k)), (2, .int x2), (1, .int fi), (0, .ref (b 0))] → W p9 l e9 (headSpec wsX5_restated ({ frames := 2, cells := 0, slots := 0, locals := 51 } : Room)).room s m9 ([.ref (b 0), .int fi] : List Value).toArray below meth c9 H locs 0 0 (MQ below (va_Qi (fun (r : Int32) (_ : Unit) => r = sT (fun k => bI (((decide (nI (mf k) = fi) && decide (hM mc mp mm mf md mF (nI (mc k)) (nI (mp k)) (nI (mm k)) fi = some k)) && (match hM mc mp mm mf md mF (nI (mc k)) (nI (mp k)) (nI (mm k)) (fi - 1) with | none => false | some b => decide (mv b ≠ mv k))) = true)) mF) (fun _ t => va_P D vwCl (WM cI cZ b mC mR mL mF mpar mwt mstk mflw mc mp mm mf md mv mder mkn 0 ++ R) t.heap ∧ va_D A (WM cI cZ b mC mR mL mF mpar mwt mstk mflw mc mp mm mf md mv mder mkn 0 ++ R)) A) ([.ref (b 0), .int fi] : List Value).toArray s 0 0 A) (F0 m9 26 ls []) := by
        intro n26
        induction n26 with
        | zero => intro k  x2 h1 h2; exact absurd h1 (by omega)
        | succ n26 ih26 =>
          intro k  x2 hn26 hk26 e26_2  ls hl
          refine lv_iload_n hx hb dX5_restated_26 rfl (lv_at hl 0 rfl) ?_
          refine lv_aload_n hx hb dX5_restated_27 rfl (lv_at hl 3 rfl) ?_
          refine va_get (D := D) (ci := 4) (v := .int (nI mF)) (C := RX5) (T := TX5) (N := 17) hx hb hts win_X5 hown hK hP (0) (rfl) rfl 7 (by decide) w_0 (fun _ h9 => h9) rfl dX5_restated_28 ?_
          refine lv_icmp_ge (tgt := 146) hx hb dX5_restated_31 (by decide) (fun c_31 => ?_) (fun c_31 => ?_)
          · skip
            have hkF : k = mF := by have := (nI_leI (a := mF) (b := k) (by omega) (by omega)).mp c_31; omega
            rw [hkF] at e26_2
            refine lv_iload_n hx hb dX5_restated_146 rfl (lv_at hl 1 rfl) ?_
            exact W.iret (v := x2) hx hb hr (fun t ht hW => ⟨⟨x2, (), rfl, e26_2, g_PD ht hP hD⟩, hS.F ht⟩) hS.2.2 dX5_restated_147
          · skip
            have hkF : k < mF := by have := mt (nI_leI (a := mF) (b := k) (by omega) (by omega)).mpr c_31; omega
            refine lv_aload_n hx hb dX5_restated_34 rfl (lv_at hl 3 rfl) ?_
            refine va_get (D := D) (ci := 4) (v := .ref (b 8)) (C := RX5) (T := TX5) (N := 17) hx hb hts win_X5 hown hK hP (0) (rfl) rfl 11 (by decide) w_2 (fun _ h9 => h9) rfl dX5_restated_35 ?_
            refine lv_iload_n hx hb dX5_restated_38 rfl (lv_at hl 0 rfl) ?_
            refine g_iald hx hb hK hP (8) 0 (n := 80) (f := (fun k => nI (mf k))) (rfl) rfl k rfl (by omega) (by decide) dX5_restated_39 ?_
            refine lv_iload_n hx hb dX5_restated_40 rfl (lv_at hl 2 rfl) ?_
            refine lv_icmp_ne (tgt := 75) hx hb dX5_restated_41 (by decide) (fun c_41 => ?_) (fun c_41 => ?_)
            · skip
              have hst : ¬ (((decide (nI (mf k) = fi) && decide (hM mc mp mm mf md mF (nI (mc k)) (nI (mp k)) (nI (mm k)) fi = some k)) && (match hM mc mp mm mf md mF (nI (mc k)) (nI (mp k)) (nI (mm k)) (fi - 1) with | none => false | some b => decide (mv b ≠ mv k))) = true) := by simp [c_41]
              refine lv_iconst (v := 0) hx hb dX5_restated_75 (by decide) ?_
              refine lv_istore (lv' := [(4, .int 0), (3, .int (nI k)), (2, .int x2), (1, .int fi), (0, .ref (b 0))]) hx hb dX5_restated_76 hl (by decide) rfl (fun ls hl => ?_)
              refine lv_aload_n hx hb dX5_restated_78 rfl (lv_at hl 4 rfl) ?_
              refine lv_aload_n hx hb dX5_restated_79 rfl (lv_at hl 4 rfl) ?_
              refine va_get (D := D) (ci := 4) (v := .ref (b 5)) (C := RX5) (T := TX5) (N := 17) hx hb hts win_X5 hown hK hP (0) (rfl) rfl 8 (by decide) w_3 (fun _ h9 => h9) rfl dX5_restated_80 ?_
              refine lv_iload_n hx hb dX5_restated_83 rfl (lv_at hl 1 rfl) ?_
              refine g_iald hx hb hK hP (5) 0 (n := 80) (f := (fun k => nI (mc k))) (rfl) rfl k rfl (by omega) (by decide) dX5_restated_84 ?_
              refine lv_aload_n hx hb dX5_restated_85 rfl (lv_at hl 4 rfl) ?_
              refine va_get (D := D) (ci := 4) (v := .ref (b 6)) (C := RX5) (T := TX5) (N := 17) hx hb hts win_X5 hown hK hP (0) (rfl) rfl 9 (by decide) w_4 (fun _ h9 => h9) rfl dX5_restated_86 ?_
              refine lv_iload_n hx hb dX5_restated_89 rfl (lv_at hl 1 rfl) ?_
              refine g_iald hx hb hK hP (6) 0 (n := 80) (f := (fun k => nI (mp k))) (rfl) rfl k rfl (by omega) (by decide) dX5_restated_90 ?_
              refine lv_aload_n hx hb dX5_restated_91 rfl (lv_at hl 4 rfl) ?_
              refine va_get (D := D) (ci := 4) (v := .ref (b 7)) (C := RX5) (T := TX5) (N := 17) hx hb hts win_X5 hown hK hP (0) (rfl) rfl 10 (by decide) w_5 (fun _ h9 => h9) rfl dX5_restated_92 ?_
              refine lv_iload_n hx hb dX5_restated_95 rfl (lv_at hl 1 rfl) ?_
              refine g_iald hx hb hK hP (7) 0 (n := 80) (f := (fun k => nI (mm k))) (rfl) rfl k rfl (by omega) (by decide) dX5_restated_96 ?_
              refine lv_iload_n hx hb dX5_restated_97 rfl (lv_at hl 3 rfl) ?_
              refine lv_iconst (v := 1) hx hb dX5_restated_98 (by decide) ?_
              refine lv_isub hx hb dX5_restated_99 ?_
              refine g_csi (va_runV (As := [.int (nI (mc k)), .int (nI (mp k)), .int (nI (mm k)), .int (fi - 1)]) (rest := []) ⟨hx, hb, hml, hown, hts⟩ (c5_holds l D cI cZ cO cL dt A b mC mR mL mF mpar mwt mstk mflw mc mp mm mf md mv mder mkn 0 R (nI (mc k)) (nI (mp k)) (nI (mm k)) (fi - 1) hF hmf hmd) (cwV 4 hts gX5_restated_X5_holds rfl rfl rfl (by decide +kernel) ⟨Nat.le_of_ble_eq_true rfl, Nat.le_of_ble_eq_true rfl⟩) (gP.v (hg.on hS) hP 4 rfl (0) (rfl) hP) rfl rfl hl.1 rfl (lv_room (Nat.le_of_ble_eq_true rfl)) dX5_restated_100 ⟨Nat.le_of_ble_eq_true rfl, Nat.le_of_ble_eq_true rfl⟩) (fun r_3 hr_3 => ?_)
              obtain ⟨o_r_3, hB⟩ : ∃ z, hM mc mp mm mf md mF (nI (mc k)) (nI (mp k)) (nI (mm k)) (fi - 1) = z := ⟨_, rfl⟩
              rcases o_r_3 with _ | jb
              · skip
                obtain rfl : r_3 = (-1) := hr_3.trans (congrArg oI hB)
                have hstB : ¬ (((decide (nI (mf k) = fi) && decide (hM mc mp mm mf md mF (nI (mc k)) (nI (mp k)) (nI (mm k)) fi = some k)) && (match hM mc mp mm mf md mF (nI (mc k)) (nI (mp k)) (nI (mm k)) (fi - 1) with | none => false | some b => decide (mv b ≠ mv k))) = true) := by rw [hB]; simp
                refine lv_istore (lv' := [(5, .int (-1)), (4, .int 0), (3, .int (nI k)), (2, .int x2), (1, .int fi), (0, .ref (b 0))]) hx hb dX5_restated_103 hl (by decide) rfl (fun ls hl => ?_)
                refine lv_iload_n hx hb dX5_restated_105 rfl (lv_at hl 3 rfl) ?_
                refine lv_iload hx hb dX5_restated_106 (lv_at hl 1 rfl) ?_
                refine lv_if_eq (tgt := 137) hx hb dX5_restated_108 (by decide) (fun c_108 => ?_) (fun c_108 => ?_)
                · skip
                  refine lv_iconst (v := 0) hx hb dX5_restated_137 (by decide) ?_
                  refine lv_iadd hx hb dX5_restated_138 ?_
                  refine lv_istore_n (lv' := [(2, .int (x2 + 0)), (5, .int (-1)), (4, .int 0), (3, .int (nI k)), (1, .int fi), (0, .ref (b 0))]) hx hb dX5_restated_139 rfl hl (by decide) rfl (fun ls hl => ?_)
                  refine lv_iinc (v := nI (k + 1)) (lv' := [(3, .int (nI (k + 1))), (2, .int (x2 + 0)), (5, .int (-1)), (4, .int 0), (1, .int fi), (0, .ref (b 0))]) hx hb dX5_restated_140 hl (k := 3) rfl (nI_1 k) (by decide) rfl (fun ls hl => ?_)
                  refine lv_goto (tgt := 26) hx hb dX5_restated_143 (by decide) ?_
                  exact ih26 (k + 1)  (x2 + 0) (by omega) (by omega) (by rw [e26_2]; show _ = sT (fun k => bI (((decide (nI (mf k) = fi) && decide (hM mc mp mm mf md mF (nI (mc k)) (nI (mp k)) (nI (mm k)) fi = some k)) && (match hM mc mp mm mf md mF (nI (mc k)) (nI (mp k)) (nI (mm k)) (fi - 1) with | none => false | some b => decide (mv b ≠ mv k))) = true)) k + bI _; first | rw [← bI_t hst] | rw [← bI_f hst] | rw [← bI_f hstB])  _ (lv_sub hl [0, 1, 4, 5] rfl)
                · skip
                  exact absurd c_108 (by decide)
              · skip
                obtain rfl : r_3 = nI jb := hr_3.trans (congrArg oI hB)
                have hjb := (sel_lt hB).1
                refine lv_istore (lv' := [(5, .int (nI jb)), (4, .int 0), (3, .int (nI k)), (2, .int x2), (1, .int fi), (0, .ref (b 0))]) hx hb dX5_restated_103 hl (by decide) rfl (fun ls hl => ?_)
                refine lv_iload_n hx hb dX5_restated_105 rfl (lv_at hl 3 rfl) ?_
                refine lv_iload hx hb dX5_restated_106 (lv_at hl 1 rfl) ?_
                refine lv_if_eq (tgt := 137) hx hb dX5_restated_108 (by decide) (fun c_108 => ?_) (fun c_108 => ?_)
                · skip
                  refine lv_iconst (v := 0) hx hb dX5_restated_137 (by decide) ?_
                  refine lv_iadd hx hb dX5_restated_138 ?_
                  refine lv_istore_n (lv' := [(2, .int (x2 + 0)), (5, .int (nI jb)), (4, .int 0), (3, .int (nI k)), (1, .int fi), (0, .ref (b 0))]) hx hb dX5_restated_139 rfl hl (by decide) rfl (fun ls hl => ?_)
                  refine lv_iinc (v := nI (k + 1)) (lv' := [(3, .int (nI (k + 1))), (2, .int (x2 + 0)), (5, .int (nI jb)), (4, .int 0), (1, .int fi), (0, .ref (b 0))]) hx hb dX5_restated_140 hl (k := 3) rfl (nI_1 k) (by decide) rfl (fun ls hl => ?_)
                  refine lv_goto (tgt := 26) hx hb dX5_restated_143 (by decide) ?_
                  exact ih26 (k + 1)  (x2 + 0) (by omega) (by omega) (by rw [e26_2]; show _ = sT (fun k => bI (((decide (nI (mf k) = fi) && decide (hM mc mp mm mf md mF (nI (mc k)) (nI (mp k)) (nI (mm k)) fi = some k)) && (match hM mc mp mm mf md mF (nI (mc k)) (nI (mp k)) (nI (mm k)) (fi - 1) with | none => false | some b => decide (mv b ≠ mv k))) = true)) k + bI _; first | rw [← bI_t hst] | rw [← bI_f hst] | rw [← bI_f hstB])  _ (lv_sub hl [0, 1, 4, 5] rfl)
                · skip
                  exact absurd c_108 (by decide)
            · skip
              refine lv_aload_n hx hb dX5_restated_44 rfl (lv_at hl 3 rfl) ?_
              refine lv_aload_n hx hb dX5_restated_45 rfl (lv_at hl 3 rfl) ?_
              refine va_get (D := D) (ci := 4) (v := .ref (b 5)) (C := RX5) (T := TX5) (N := 17) hx hb hts win_X5 hown hK hP (0) (rfl) rfl 8 (by decide) w_3 (fun _ h9 => h9) rfl dX5_restated_46 ?_
              refine lv_iload_n hx hb dX5_restated_49 rfl (lv_at hl 0 rfl) ?_
              refine g_iald hx hb hK hP (5) 0 (n := 80) (f := (fun k => nI (mc k))) (rfl) rfl k rfl (by omega) (by decide) dX5_restated_50 ?_
              refine lv_aload_n hx hb dX5_restated_51 rfl (lv_at hl 3 rfl) ?_
              refine va_get (D := D) (ci := 4) (v := .ref (b 6)) (C := RX5) (T := TX5) (N := 17) hx hb hts win_X5 hown hK hP (0) (rfl) rfl 9 (by decide) w_4 (fun _ h9 => h9) rfl dX5_restated_52 ?_
              refine lv_iload_n hx hb dX5_restated_55 rfl (lv_at hl 0 rfl) ?_
              refine g_iald hx hb hK hP (6) 0 (n := 80) (f := (fun k => nI (mp k))) (rfl) rfl k rfl (by omega) (by decide) dX5_restated_56 ?_
              refine lv_aload_n hx hb dX5_restated_57 rfl (lv_at hl 3 rfl) ?_
              refine va_get (D := D) (ci := 4) (v := .ref (b 7)) (C := RX5) (T := TX5) (N := 17) hx hb hts win_X5 hown hK hP (0) (rfl) rfl 10 (by decide) w_5 (fun _ h9 => h9) rfl dX5_restated_58 ?_
              refine lv_iload_n hx hb dX5_restated_61 rfl (lv_at hl 0 rfl) ?_
              refine g_iald hx hb hK hP (7) 0 (n := 80) (f := (fun k => nI (mm k))) (rfl) rfl k rfl (by omega) (by decide) dX5_restated_62 ?_
              refine lv_iload_n hx hb dX5_restated_63 rfl (lv_at hl 2 rfl) ?_
              refine g_csi (va_runV (As := [.int (nI (mc k)), .int (nI (mp k)), .int (nI (mm k)), .int fi]) (rest := []) ⟨hx, hb, hml, hown, hts⟩ (c5_holds l D cI cZ cO cL dt A b mC mR mL mF mpar mwt mstk mflw mc mp mm mf md mv mder mkn 0 R (nI (mc k)) (nI (mp k)) (nI (mm k)) fi hF hmf hmd) (cwV 4 hts gX5_restated_X5_holds rfl rfl rfl (by decide +kernel) ⟨Nat.le_of_ble_eq_true rfl, Nat.le_of_ble_eq_true rfl⟩) (gP.v (hg.on hS) hP 4 rfl (0) (rfl) hP) rfl rfl hl.1 rfl (lv_room (Nat.le_of_ble_eq_true rfl)) dX5_restated_64 ⟨Nat.le_of_ble_eq_true rfl, Nat.le_of_ble_eq_true rfl⟩) (fun r_4 hr_4 => ?_)
              obtain ⟨o_r_4, hA⟩ : ∃ z, hM mc mp mm mf md mF (nI (mc k)) (nI (mp k)) (nI (mm k)) fi = z := ⟨_, rfl⟩
              rcases o_r_4 with _ | ja
              · skip
                obtain rfl : r_4 = (-1) := hr_4.trans (congrArg oI hA)
                refine lv_iload_n hx hb dX5_restated_67 rfl (lv_at hl 0 rfl) ?_
                refine lv_icmp_ne (tgt := 75) hx hb dX5_restated_68 (by decide) (fun c_68 => ?_) (fun c_68 => ?_)
                · skip
                  have hA1 : ¬ hM mc mp mm mf md mF (nI (mc k)) (nI (mp k)) (nI (mm k)) fi = some k := by rw [hA]; exact fun q => by first | exact c_68 (congrArg nI (Option.some.inj q)) | exact nomatch q
                  have hst : ¬ (((decide (nI (mf k) = fi) && decide (hM mc mp mm mf md mF (nI (mc k)) (nI (mp k)) (nI (mm k)) fi = some k)) && (match hM mc mp mm mf md mF (nI (mc k)) (nI (mp k)) (nI (mm k)) (fi - 1) with | none => false | some b => decide (mv b ≠ mv k))) = true) := by simp [hA1]
                  refine lv_iconst (v := 0) hx hb dX5_restated_75 (by decide) ?_
                  refine lv_istore (lv' := [(4, .int 0), (3, .int (nI k)), (2, .int x2), (1, .int fi), (0, .ref (b 0))]) hx hb dX5_restated_76 hl (by decide) rfl (fun ls hl => ?_)
                  refine lv_aload_n hx hb dX5_restated_78 rfl (lv_at hl 4 rfl) ?_
                  refine lv_aload_n hx hb dX5_restated_79 rfl (lv_at hl 4 rfl) ?_
                  refine va_get (D := D) (ci := 4) (v := .ref (b 5)) (C := RX5) (T := TX5) (N := 17) hx hb hts win_X5 hown hK hP (0) (rfl) rfl 8 (by decide) w_3 (fun _ h9 => h9) rfl dX5_restated_80 ?_
                  refine lv_iload_n hx hb dX5_restated_83 rfl (lv_at hl 1 rfl) ?_
                  refine g_iald hx hb hK hP (5) 0 (n := 80) (f := (fun k => nI (mc k))) (rfl) rfl k rfl (by omega) (by decide) dX5_restated_84 ?_
                  refine lv_aload_n hx hb dX5_restated_85 rfl (lv_at hl 4 rfl) ?_
                  refine va_get (D := D) (ci := 4) (v := .ref (b 6)) (C := RX5) (T := TX5) (N := 17) hx hb hts win_X5 hown hK hP (0) (rfl) rfl 9 (by decide) w_4 (fun _ h9 => h9) rfl dX5_restated_86 ?_
                  refine lv_iload_n hx hb dX5_restated_89 rfl (lv_at hl 1 rfl) ?_
                  refine g_iald hx hb hK hP (6) 0 (n := 80) (f := (fun k => nI (mp k))) (rfl) rfl k rfl (by omega) (by decide) dX5_restated_90 ?_
                  refine lv_aload_n hx hb dX5_restated_91 rfl (lv_at hl 4 rfl) ?_
                  refine va_get (D := D) (ci := 4) (v := .ref (b 7)) (C := RX5) (T := TX5) (N := 17) hx hb hts win_X5 hown hK hP (0) (rfl) rfl 10 (by decide) w_5 (fun _ h9 => h9) rfl dX5_restated_92 ?_
                  refine lv_iload_n hx hb dX5_restated_95 rfl (lv_at hl 1 rfl) ?_
                  refine g_iald hx hb hK hP (7) 0 (n := 80) (f := (fun k => nI (mm k))) (rfl) rfl k rfl (by omega) (by decide) dX5_restated_96 ?_
                  refine lv_iload_n hx hb dX5_restated_97 rfl (lv_at hl 3 rfl) ?_
                  refine lv_iconst (v := 1) hx hb dX5_restated_98 (by decide) ?_
                  refine lv_isub hx hb dX5_restated_99 ?_
                  refine g_csi (va_runV (As := [.int (nI (mc k)), .int (nI (mp k)), .int (nI (mm k)), .int (fi - 1)]) (rest := []) ⟨hx, hb, hml, hown, hts⟩ (c5_holds l D cI cZ cO cL dt A b mC mR mL mF mpar mwt mstk mflw mc mp mm mf md mv mder mkn 0 R (nI (mc k)) (nI (mp k)) (nI (mm k)) (fi - 1) hF hmf hmd) (cwV 4 hts gX5_restated_X5_holds rfl rfl rfl (by decide +kernel) ⟨Nat.le_of_ble_eq_true rfl, Nat.le_of_ble_eq_true rfl⟩) (gP.v (hg.on hS) hP 4 rfl (0) (rfl) hP) rfl rfl hl.1 rfl (lv_room (Nat.le_of_ble_eq_true rfl)) dX5_restated_100 ⟨Nat.le_of_ble_eq_true rfl, Nat.le_of_ble_eq_true rfl⟩) (fun r_5 hr_5 => ?_)
                  obtain ⟨o_r_5, hB⟩ : ∃ z, hM mc mp mm mf md mF (nI (mc k)) (nI (mp k)) (nI (mm k)) (fi - 1) = z := ⟨_, rfl⟩
                  rcases o_r_5 with _ | jb
                  · skip
                    obtain rfl : r_5 = (-1) := hr_5.trans (congrArg oI hB)
                    have hstB : ¬ (((decide (nI (mf k) = fi) && decide (hM mc mp mm mf md mF (nI (mc k)) (nI (mp k)) (nI (mm k)) fi = some k)) && (match hM mc mp mm mf md mF (nI (mc k)) (nI (mp k)) (nI (mm k)) (fi - 1) with | none => false | some b => decide (mv b ≠ mv k))) = true) := by rw [hB]; simp
                    refine lv_istore (lv' := [(5, .int (-1)), (4, .int 0), (3, .int (nI k)), (2, .int x2), (1, .int fi), (0, .ref (b 0))]) hx hb dX5_restated_103 hl (by decide) rfl (fun ls hl => ?_)
                    refine lv_iload_n hx hb dX5_restated_105 rfl (lv_at hl 3 rfl) ?_
                    refine lv_iload hx hb dX5_restated_106 (lv_at hl 1 rfl) ?_
                    refine lv_if_eq (tgt := 137) hx hb dX5_restated_108 (by decide) (fun c_108 => ?_) (fun c_108 => ?_)
                    · skip
                      refine lv_iconst (v := 0) hx hb dX5_restated_137 (by decide) ?_
                      refine lv_iadd hx hb dX5_restated_138 ?_
                      refine lv_istore_n (lv' := [(2, .int (x2 + 0)), (5, .int (-1)), (4, .int 0), (3, .int (nI k)), (1, .int fi), (0, .ref (b 0))]) hx hb dX5_restated_139 rfl hl (by decide) rfl (fun ls hl => ?_)
                      refine lv_iinc (v := nI (k + 1)) (lv' := [(3, .int (nI (k + 1))), (2, .int (x2 + 0)), (5, .int (-1)), (4, .int 0), (1, .int fi), (0, .ref (b 0))]) hx hb dX5_restated_140 hl (k := 3) rfl (nI_1 k) (by decide) rfl (fun ls hl => ?_)
                      refine lv_goto (tgt := 26) hx hb dX5_restated_143 (by decide) ?_
                      exact ih26 (k + 1)  (x2 + 0) (by omega) (by omega) (by rw [e26_2]; show _ = sT (fun k => bI (((decide (nI (mf k) = fi) && decide (hM mc mp mm mf md mF (nI (mc k)) (nI (mp k)) (nI (mm k)) fi = some k)) && (match hM mc mp mm mf md mF (nI (mc k)) (nI (mp k)) (nI (mm k)) (fi - 1) with | none => false | some b => decide (mv b ≠ mv k))) = true)) k + bI _; first | rw [← bI_t hst] | rw [← bI_f hst] | rw [← bI_f hstB])  _ (lv_sub hl [0, 1, 4, 5] rfl)
                    · skip
                      exact absurd c_108 (by decide)
                  · skip
                    obtain rfl : r_5 = nI jb := hr_5.trans (congrArg oI hB)
                    have hjb := (sel_lt hB).1
                    refine lv_istore (lv' := [(5, .int (nI jb)), (4, .int 0), (3, .int (nI k)), (2, .int x2), (1, .int fi), (0, .ref (b 0))]) hx hb dX5_restated_103 hl (by decide) rfl (fun ls hl => ?_)
                    refine lv_iload_n hx hb dX5_restated_105 rfl (lv_at hl 3 rfl) ?_
                    refine lv_iload hx hb dX5_restated_106 (lv_at hl 1 rfl) ?_
                    refine lv_if_eq (tgt := 137) hx hb dX5_restated_108 (by decide) (fun c_108 => ?_) (fun c_108 => ?_)
                    · skip
                      refine lv_iconst (v := 0) hx hb dX5_restated_137 (by decide) ?_
                      refine lv_iadd hx hb dX5_restated_138 ?_
                      refine lv_istore_n (lv' := [(2, .int (x2 + 0)), (5, .int (nI jb)), (4, .int 0), (3, .int (nI k)), (1, .int fi), (0, .ref (b 0))]) hx hb dX5_restated_139 rfl hl (by decide) rfl (fun ls hl => ?_)
                      refine lv_iinc (v := nI (k + 1)) (lv' := [(3, .int (nI (k + 1))), (2, .int (x2 + 0)), (5, .int (nI jb)), (4, .int 0), (1, .int fi), (0, .ref (b 0))]) hx hb dX5_restated_140 hl (k := 3) rfl (nI_1 k) (by decide) rfl (fun ls hl => ?_)
                      refine lv_goto (tgt := 26) hx hb dX5_restated_143 (by decide) ?_
                      exact ih26 (k + 1)  (x2 + 0) (by omega) (by omega) (by rw [e26_2]; show _ = sT (fun k => bI (((decide (nI (mf k) = fi) && decide (hM mc mp mm mf md mF (nI (mc k)) (nI (mp k)) (nI (mm k)) fi = some k)) && (match hM mc mp mm mf md mF (nI (mc k)) (nI (mp k)) (nI (mm k)) (fi - 1) with | none => false | some b => decide (mv b ≠ mv k))) = true)) k + bI _; first | rw [← bI_t hst] | rw [← bI_f hst] | rw [← bI_f hstB])  _ (lv_sub hl [0, 1, 4, 5] rfl)
                    · skip
                      exact absurd c_108 (by decide)
                · skip
                  exact absurd c_68.symm (nI_nm1 (by omega))
              · skip
                obtain rfl : r_4 = nI ja := hr_4.trans (congrArg oI hA)
                have hja := (sel_lt hA).1
                refine lv_iload_n hx hb dX5_restated_67 rfl (lv_at hl 0 rfl) ?_
                refine lv_icmp_ne (tgt := 75) hx hb dX5_restated_68 (by decide) (fun c_68 => ?_) (fun c_68 => ?_)
                · skip
                  have hA1 : ¬ hM mc mp mm mf md mF (nI (mc k)) (nI (mp k)) (nI (mm k)) fi = some k := by rw [hA]; exact fun q => by first | exact c_68 (congrArg nI (Option.some.inj q)) | exact nomatch q
                  have hst : ¬ (((decide (nI (mf k) = fi) && decide (hM mc mp mm mf md mF (nI (mc k)) (nI (mp k)) (nI (mm k)) fi = some k)) && (match hM mc mp mm mf md mF (nI (mc k)) (nI (mp k)) (nI (mm k)) (fi - 1) with | none => false | some b => decide (mv b ≠ mv k))) = true) := by simp [hA1]
                  refine lv_iconst (v := 0) hx hb dX5_restated_75 (by decide) ?_
                  refine lv_istore (lv' := [(4, .int 0), (3, .int (nI k)), (2, .int x2), (1, .int fi), (0, .ref (b 0))]) hx hb dX5_restated_76 hl (by decide) rfl (fun ls hl => ?_)
                  refine lv_aload_n hx hb dX5_restated_78 rfl (lv_at hl 4 rfl) ?_
                  refine lv_aload_n hx hb dX5_restated_79 rfl (lv_at hl 4 rfl) ?_
                  refine va_get (D := D) (ci := 4) (v := .ref (b 5)) (C := RX5) (T := TX5) (N := 17) hx hb hts win_X5 hown hK hP (0) (rfl) rfl 8 (by decide) w_3 (fun _ h9 => h9) rfl dX5_restated_80 ?_
                  refine lv_iload_n hx hb dX5_restated_83 rfl (lv_at hl 1 rfl) ?_
                  refine g_iald hx hb hK hP (5) 0 (n := 80) (f := (fun k => nI (mc k))) (rfl) rfl k rfl (by omega) (by decide) dX5_restated_84 ?_
                  refine lv_aload_n hx hb dX5_restated_85 rfl (lv_at hl 4 rfl) ?_
                  refine va_get (D := D) (ci := 4) (v := .ref (b 6)) (C := RX5) (T := TX5) (N := 17) hx hb hts win_X5 hown hK hP (0) (rfl) rfl 9 (by decide) w_4 (fun _ h9 => h9) rfl dX5_restated_86 ?_
                  refine lv_iload_n hx hb dX5_restated_89 rfl (lv_at hl 1 rfl) ?_
                  refine g_iald hx hb hK hP (6) 0 (n := 80) (f := (fun k => nI (mp k))) (rfl) rfl k rfl (by omega) (by decide) dX5_restated_90 ?_
                  refine lv_aload_n hx hb dX5_restated_91 rfl (lv_at hl 4 rfl) ?_
                  refine va_get (D := D) (ci := 4) (v := .ref (b 7)) (C := RX5) (T := TX5) (N := 17) hx hb hts win_X5 hown hK hP (0) (rfl) rfl 10 (by decide) w_5 (fun _ h9 => h9) rfl dX5_restated_92 ?_
                  refine lv_iload_n hx hb dX5_restated_95 rfl (lv_at hl 1 rfl) ?_
                  refine g_iald hx hb hK hP (7) 0 (n := 80) (f := (fun k => nI (mm k))) (rfl) rfl k rfl (by omega) (by decide) dX5_restated_96 ?_
                  refine lv_iload_n hx hb dX5_restated_97 rfl (lv_at hl 3 rfl) ?_
                  refine lv_iconst (v := 1) hx hb dX5_restated_98 (by decide) ?_
                  refine lv_isub hx hb dX5_restated_99 ?_
                  refine g_csi (va_runV (As := [.int (nI (mc k)), .int (nI (mp k)), .int (nI (mm k)), .int (fi - 1)]) (rest := []) ⟨hx, hb, hml, hown, hts⟩ (c5_holds l D cI cZ cO cL dt A b mC mR mL mF mpar mwt mstk mflw mc mp mm mf md mv mder mkn 0 R (nI (mc k)) (nI (mp k)) (nI (mm k)) (fi - 1) hF hmf hmd) (cwV 4 hts gX5_restated_X5_holds rfl rfl rfl (by decide +kernel) ⟨Nat.le_of_ble_eq_true rfl, Nat.le_of_ble_eq_true rfl⟩) (gP.v (hg.on hS) hP 4 rfl (0) (rfl) hP) rfl rfl hl.1 rfl (lv_room (Nat.le_of_ble_eq_true rfl)) dX5_restated_100 ⟨Nat.le_of_ble_eq_true rfl, Nat.le_of_ble_eq_true rfl⟩) (fun r_6 hr_6 => ?_)
                  obtain ⟨o_r_6, hB⟩ : ∃ z, hM mc mp mm mf md mF (nI (mc k)) (nI (mp k)) (nI (mm k)) (fi - 1) = z := ⟨_, rfl⟩
                  rcases o_r_6 with _ | jb
                  · skip
                    obtain rfl : r_6 = (-1) := hr_6.trans (congrArg oI hB)
                    have hstB : ¬ (((decide (nI (mf k) = fi) && decide (hM mc mp mm mf md mF (nI (mc k)) (nI (mp k)) (nI (mm k)) fi = some k)) && (match hM mc mp mm mf md mF (nI (mc k)) (nI (mp k)) (nI (mm k)) (fi - 1) with | none => false | some b => decide (mv b ≠ mv k))) = true) := by rw [hB]; simp
                    refine lv_istore (lv' := [(5, .int (-1)), (4, .int 0), (3, .int (nI k)), (2, .int x2), (1, .int fi), (0, .ref (b 0))]) hx hb dX5_restated_103 hl (by decide) rfl (fun ls hl => ?_)
                    refine lv_iload_n hx hb dX5_restated_105 rfl (lv_at hl 3 rfl) ?_
                    refine lv_iload hx hb dX5_restated_106 (lv_at hl 1 rfl) ?_
                    refine lv_if_eq (tgt := 137) hx hb dX5_restated_108 (by decide) (fun c_108 => ?_) (fun c_108 => ?_)
                    · skip
                      refine lv_iconst (v := 0) hx hb dX5_restated_137 (by decide) ?_
                      refine lv_iadd hx hb dX5_restated_138 ?_
                      refine lv_istore_n (lv' := [(2, .int (x2 + 0)), (5, .int (-1)), (4, .int 0), (3, .int (nI k)), (1, .int fi), (0, .ref (b 0))]) hx hb dX5_restated_139 rfl hl (by decide) rfl (fun ls hl => ?_)
                      refine lv_iinc (v := nI (k + 1)) (lv' := [(3, .int (nI (k + 1))), (2, .int (x2 + 0)), (5, .int (-1)), (4, .int 0), (1, .int fi), (0, .ref (b 0))]) hx hb dX5_restated_140 hl (k := 3) rfl (nI_1 k) (by decide) rfl (fun ls hl => ?_)
                      refine lv_goto (tgt := 26) hx hb dX5_restated_143 (by decide) ?_
                      exact ih26 (k + 1)  (x2 + 0) (by omega) (by omega) (by rw [e26_2]; show _ = sT (fun k => bI (((decide (nI (mf k) = fi) && decide (hM mc mp mm mf md mF (nI (mc k)) (nI (mp k)) (nI (mm k)) fi = some k)) && (match hM mc mp mm mf md mF (nI (mc k)) (nI (mp k)) (nI (mm k)) (fi - 1) with | none => false | some b => decide (mv b ≠ mv k))) = true)) k + bI _; first | rw [← bI_t hst] | rw [← bI_f hst] | rw [← bI_f hstB])  _ (lv_sub hl [0, 1, 4, 5] rfl)
                    · skip
                      exact absurd c_108 (by decide)
                  · skip
                    obtain rfl : r_6 = nI jb := hr_6.trans (congrArg oI hB)
                    have hjb := (sel_lt hB).1
                    refine lv_istore (lv' := [(5, .int (nI jb)), (4, .int 0), (3, .int (nI k)), (2, .int x2), (1, .int fi), (0, .ref (b 0))]) hx hb dX5_restated_103 hl (by decide) rfl (fun ls hl => ?_)
                    refine lv_iload_n hx hb dX5_restated_105 rfl (lv_at hl 3 rfl) ?_
                    refine lv_iload hx hb dX5_restated_106 (lv_at hl 1 rfl) ?_
                    refine lv_if_eq (tgt := 137) hx hb dX5_restated_108 (by decide) (fun c_108 => ?_) (fun c_108 => ?_)
                    · skip
                      refine lv_iconst (v := 0) hx hb dX5_restated_137 (by decide) ?_
                      refine lv_iadd hx hb dX5_restated_138 ?_
                      refine lv_istore_n (lv' := [(2, .int (x2 + 0)), (5, .int (nI jb)), (4, .int 0), (3, .int (nI k)), (1, .int fi), (0, .ref (b 0))]) hx hb dX5_restated_139 rfl hl (by decide) rfl (fun ls hl => ?_)
                      refine lv_iinc (v := nI (k + 1)) (lv' := [(3, .int (nI (k + 1))), (2, .int (x2 + 0)), (5, .int (nI jb)), (4, .int 0), (1, .int fi), (0, .ref (b 0))]) hx hb dX5_restated_140 hl (k := 3) rfl (nI_1 k) (by decide) rfl (fun ls hl => ?_)
                      refine lv_goto (tgt := 26) hx hb dX5_restated_143 (by decide) ?_
                      exact ih26 (k + 1)  (x2 + 0) (by omega) (by omega) (by rw [e26_2]; show _ = sT (fun k => bI (((decide (nI (mf k) = fi) && decide (hM mc mp mm mf md mF (nI (mc k)) (nI (mp k)) (nI (mm k)) fi = some k)) && (match hM mc mp mm mf md mF (nI (mc k)) (nI (mp k)) (nI (mm k)) (fi - 1) with | none => false | some b => decide (mv b ≠ mv k))) = true)) k + bI _; first | rw [← bI_t hst] | rw [← bI_f hst] | rw [← bI_f hstB])  _ (lv_sub hl [0, 1, 4, 5] rfl)
                    · skip
                      exact absurd c_108 (by decide)
                · skip
                  have hA1 : hM mc mp mm mf md mF (nI (mc k)) (nI (mp k)) (nI (mm k)) fi = some k := by rw [hA]; exact congrArg some ((nI_eq (by omega) (by omega)).mp c_68)
                  refine lv_iconst (v := 1) hx hb dX5_restated_71 (by decide) ?_
                  refine lv_goto (tgt := 76) hx hb dX5_restated_72 (by decide) ?_
                  refine lv_istore (lv' := [(4, .int 1), (3, .int (nI k)), (2, .int x2), (1, .int fi), (0, .ref (b 0))]) hx hb dX5_restated_76 hl (by decide) rfl (fun ls hl => ?_)
                  refine lv_aload_n hx hb dX5_restated_78 rfl (lv_at hl 4 rfl) ?_
                  refine lv_aload_n hx hb dX5_restated_79 rfl (lv_at hl 4 rfl) ?_
                  refine va_get (D := D) (ci := 4) (v := .ref (b 5)) (C := RX5) (T := TX5) (N := 17) hx hb hts win_X5 hown hK hP (0) (rfl) rfl 8 (by decide) w_3 (fun _ h9 => h9) rfl dX5_restated_80 ?_
                  refine lv_iload_n hx hb dX5_restated_83 rfl (lv_at hl 1 rfl) ?_
                  refine g_iald hx hb hK hP (5) 0 (n := 80) (f := (fun k => nI (mc k))) (rfl) rfl k rfl (by omega) (by decide) dX5_restated_84 ?_
                  refine lv_aload_n hx hb dX5_restated_85 rfl (lv_at hl 4 rfl) ?_
                  refine va_get (D := D) (ci := 4) (v := .ref (b 6)) (C := RX5) (T := TX5) (N := 17) hx hb hts win_X5 hown hK hP (0) (rfl) rfl 9 (by decide) w_4 (fun _ h9 => h9) rfl dX5_restated_86 ?_
                  refine lv_iload_n hx hb dX5_restated_89 rfl (lv_at hl 1 rfl) ?_
                  refine g_iald hx hb hK hP (6) 0 (n := 80) (f := (fun k => nI (mp k))) (rfl) rfl k rfl (by omega) (by decide) dX5_restated_90 ?_
                  refine lv_aload_n hx hb dX5_restated_91 rfl (lv_at hl 4 rfl) ?_
                  refine va_get (D := D) (ci := 4) (v := .ref (b 7)) (C := RX5) (T := TX5) (N := 17) hx hb hts win_X5 hown hK hP (0) (rfl) rfl 10 (by decide) w_5 (fun _ h9 => h9) rfl dX5_restated_92 ?_
                  refine lv_iload_n hx hb dX5_restated_95 rfl (lv_at hl 1 rfl) ?_
                  refine g_iald hx hb hK hP (7) 0 (n := 80) (f := (fun k => nI (mm k))) (rfl) rfl k rfl (by omega) (by decide) dX5_restated_96 ?_
                  refine lv_iload_n hx hb dX5_restated_97 rfl (lv_at hl 3 rfl) ?_
                  refine lv_iconst (v := 1) hx hb dX5_restated_98 (by decide) ?_
                  refine lv_isub hx hb dX5_restated_99 ?_
                  refine g_csi (va_runV (As := [.int (nI (mc k)), .int (nI (mp k)), .int (nI (mm k)), .int (fi - 1)]) (rest := []) ⟨hx, hb, hml, hown, hts⟩ (c5_holds l D cI cZ cO cL dt A b mC mR mL mF mpar mwt mstk mflw mc mp mm mf md mv mder mkn 0 R (nI (mc k)) (nI (mp k)) (nI (mm k)) (fi - 1) hF hmf hmd) (cwV 4 hts gX5_restated_X5_holds rfl rfl rfl (by decide +kernel) ⟨Nat.le_of_ble_eq_true rfl, Nat.le_of_ble_eq_true rfl⟩) (gP.v (hg.on hS) hP 4 rfl (0) (rfl) hP) rfl rfl hl.1 rfl (lv_room (Nat.le_of_ble_eq_true rfl)) dX5_restated_100 ⟨Nat.le_of_ble_eq_true rfl, Nat.le_of_ble_eq_true rfl⟩) (fun r_7 hr_7 => ?_)
                  obtain ⟨o_r_7, hB⟩ : ∃ z, hM mc mp mm mf md mF (nI (mc k)) (nI (mp k)) (nI (mm k)) (fi - 1) = z := ⟨_, rfl⟩
                  rcases o_r_7 with _ | jb
                  · skip
                    obtain rfl : r_7 = (-1) := hr_7.trans (congrArg oI hB)
                    have hstB : ¬ (((decide (nI (mf k) = fi) && decide (hM mc mp mm mf md mF (nI (mc k)) (nI (mp k)) (nI (mm k)) fi = some k)) && (match hM mc mp mm mf md mF (nI (mc k)) (nI (mp k)) (nI (mm k)) (fi - 1) with | none => false | some b => decide (mv b ≠ mv k))) = true) := by rw [hB]; simp
                    refine lv_istore (lv' := [(5, .int (-1)), (4, .int 1), (3, .int (nI k)), (2, .int x2), (1, .int fi), (0, .ref (b 0))]) hx hb dX5_restated_103 hl (by decide) rfl (fun ls hl => ?_)
                    refine lv_iload_n hx hb dX5_restated_105 rfl (lv_at hl 3 rfl) ?_
                    refine lv_iload hx hb dX5_restated_106 (lv_at hl 1 rfl) ?_
                    refine lv_if_eq (tgt := 137) hx hb dX5_restated_108 (by decide) (fun c_108 => ?_) (fun c_108 => ?_)
                    · skip
                      exact absurd c_108 (by decide)
                    · skip
                      refine lv_iload hx hb dX5_restated_111 (lv_at hl 0 rfl) ?_
                      refine lv_iconst (v := (-1)) hx hb dX5_restated_113 (by decide) ?_
                      refine lv_icmp_eq (tgt := 137) hx hb dX5_restated_114 (by decide) (fun c_114 => ?_) (fun c_114 => ?_)
                      · skip
                        refine lv_iconst (v := 0) hx hb dX5_restated_137 (by decide) ?_
                        refine lv_iadd hx hb dX5_restated_138 ?_
                        refine lv_istore_n (lv' := [(2, .int (x2 + 0)), (5, .int (-1)), (4, .int 1), (3, .int (nI k)), (1, .int fi), (0, .ref (b 0))]) hx hb dX5_restated_139 rfl hl (by decide) rfl (fun ls hl => ?_)
                        refine lv_iinc (v := nI (k + 1)) (lv' := [(3, .int (nI (k + 1))), (2, .int (x2 + 0)), (5, .int (-1)), (4, .int 1), (1, .int fi), (0, .ref (b 0))]) hx hb dX5_restated_140 hl (k := 3) rfl (nI_1 k) (by decide) rfl (fun ls hl => ?_)
                        refine lv_goto (tgt := 26) hx hb dX5_restated_143 (by decide) ?_
                        exact ih26 (k + 1)  (x2 + 0) (by omega) (by omega) (by rw [e26_2]; show _ = sT (fun k => bI (((decide (nI (mf k) = fi) && decide (hM mc mp mm mf md mF (nI (mc k)) (nI (mp k)) (nI (mm k)) fi = some k)) && (match hM mc mp mm mf md mF (nI (mc k)) (nI (mp k)) (nI (mm k)) (fi - 1) with | none => false | some b => decide (mv b ≠ mv k))) = true)) k + bI _; first | rw [← bI_t hst] | rw [← bI_f hst] | rw [← bI_f hstB])  _ (lv_sub hl [0, 1, 4, 5] rfl)
                      · skip
                        exact absurd c_114 (by decide)
                  · skip
                    obtain rfl : r_7 = nI jb := hr_7.trans (congrArg oI hB)
                    have hjb := (sel_lt hB).1
                    refine lv_istore (lv' := [(5, .int (nI jb)), (4, .int 1), (3, .int (nI k)), (2, .int x2), (1, .int fi), (0, .ref (b 0))]) hx hb dX5_restated_103 hl (by decide) rfl (fun ls hl => ?_)
                    refine lv_iload_n hx hb dX5_restated_105 rfl (lv_at hl 3 rfl) ?_
                    refine lv_iload hx hb dX5_restated_106 (lv_at hl 1 rfl) ?_
                    refine lv_if_eq (tgt := 137) hx hb dX5_restated_108 (by decide) (fun c_108 => ?_) (fun c_108 => ?_)
                    · skip
                      exact absurd c_108 (by decide)
                    · skip
                      refine lv_iload hx hb dX5_restated_111 (lv_at hl 0 rfl) ?_
                      refine lv_iconst (v := (-1)) hx hb dX5_restated_113 (by decide) ?_
                      refine lv_icmp_eq (tgt := 137) hx hb dX5_restated_114 (by decide) (fun c_114 => ?_) (fun c_114 => ?_)
                      · skip
                        exact absurd c_114 (nI_nm1 (by omega))
                      · skip
                        refine lv_aload_n hx hb dX5_restated_117 rfl (lv_at hl 5 rfl) ?_
                        refine va_get (D := D) (ci := 4) (v := .ref (b 9)) (C := RX5) (T := TX5) (N := 17) hx hb hts win_X5 hown hK hP (0) (rfl) rfl 12 (by decide) w_6 (fun _ h9 => h9) rfl dX5_restated_118 ?_
                        refine lv_iload hx hb dX5_restated_121 (lv_at hl 0 rfl) ?_
                        refine g_iald hx hb hK hP (9) 0 (n := 80) (f := mv) (rfl) rfl jb rfl (by omega) (by decide) dX5_restated_123 ?_
                        refine lv_aload_n hx hb dX5_restated_124 rfl (lv_at hl 5 rfl) ?_
                        refine va_get (D := D) (ci := 4) (v := .ref (b 9)) (C := RX5) (T := TX5) (N := 17) hx hb hts win_X5 hown hK hP (0) (rfl) rfl 12 (by decide) w_6 (fun _ h9 => h9) rfl dX5_restated_125 ?_
                        refine lv_iload_n hx hb dX5_restated_128 rfl (lv_at hl 2 rfl) ?_
                        refine g_iald hx hb hK hP (9) 0 (n := 80) (f := mv) (rfl) rfl k rfl (by omega) (by decide) dX5_restated_129 ?_
                        refine lv_icmp_eq (tgt := 137) hx hb dX5_restated_130 (by decide) (fun c_130 => ?_) (fun c_130 => ?_)
                        · skip
                          have hst : ¬ (((decide (nI (mf k) = fi) && decide (hM mc mp mm mf md mF (nI (mc k)) (nI (mp k)) (nI (mm k)) fi = some k)) && (match hM mc mp mm mf md mF (nI (mc k)) (nI (mp k)) (nI (mm k)) (fi - 1) with | none => false | some b => decide (mv b ≠ mv k))) = true) := by rw [hB]; simp [c_130]
                          refine lv_iconst (v := 0) hx hb dX5_restated_137 (by decide) ?_
                          refine lv_iadd hx hb dX5_restated_138 ?_
                          refine lv_istore_n (lv' := [(2, .int (x2 + 0)), (5, .int (nI jb)), (4, .int 1), (3, .int (nI k)), (1, .int fi), (0, .ref (b 0))]) hx hb dX5_restated_139 rfl hl (by decide) rfl (fun ls hl => ?_)
                          refine lv_iinc (v := nI (k + 1)) (lv' := [(3, .int (nI (k + 1))), (2, .int (x2 + 0)), (5, .int (nI jb)), (4, .int 1), (1, .int fi), (0, .ref (b 0))]) hx hb dX5_restated_140 hl (k := 3) rfl (nI_1 k) (by decide) rfl (fun ls hl => ?_)
                          refine lv_goto (tgt := 26) hx hb dX5_restated_143 (by decide) ?_
                          exact ih26 (k + 1)  (x2 + 0) (by omega) (by omega) (by rw [e26_2]; show _ = sT (fun k => bI (((decide (nI (mf k) = fi) && decide (hM mc mp mm mf md mF (nI (mc k)) (nI (mp k)) (nI (mm k)) fi = some k)) && (match hM mc mp mm mf md mF (nI (mc k)) (nI (mp k)) (nI (mm k)) (fi - 1) with | none => false | some b => decide (mv b ≠ mv k))) = true)) k + bI _; first | rw [← bI_t hst] | rw [← bI_f hst] | rw [← bI_f hstB])  _ (lv_sub hl [0, 1, 4, 5] rfl)
                        · skip
                          have hst : ((decide (nI (mf k) = fi) && decide (hM mc mp mm mf md mF (nI (mc k)) (nI (mp k)) (nI (mm k)) fi = some k)) && (match hM mc mp mm mf md mF (nI (mc k)) (nI (mp k)) (nI (mm k)) (fi - 1) with | none => false | some b => decide (mv b ≠ mv k))) = true := by rw [hB]; simp [c_41, hA1, c_130]
                          refine lv_iconst (v := 1) hx hb dX5_restated_133 (by decide) ?_
                          refine lv_goto (tgt := 138) hx hb dX5_restated_134 (by decide) ?_
                          refine lv_iadd hx hb dX5_restated_138 ?_
                          refine lv_istore_n (lv' := [(2, .int (x2 + 1)), (5, .int (nI jb)), (4, .int 1), (3, .int (nI k)), (1, .int fi), (0, .ref (b 0))]) hx hb dX5_restated_139 rfl hl (by decide) rfl (fun ls hl => ?_)
                          refine lv_iinc (v := nI (k + 1)) (lv' := [(3, .int (nI (k + 1))), (2, .int (x2 + 1)), (5, .int (nI jb)), (4, .int 1), (1, .int fi), (0, .ref (b 0))]) hx hb dX5_restated_140 hl (k := 3) rfl (nI_1 k) (by decide) rfl (fun ls hl => ?_)
                          refine lv_goto (tgt := 26) hx hb dX5_restated_143 (by decide) ?_
                          exact ih26 (k + 1)  (x2 + 1) (by omega) (by omega) (by rw [e26_2]; show _ = sT (fun k => bI (((decide (nI (mf k) = fi) && decide (hM mc mp mm mf md mF (nI (mc k)) (nI (mp k)) (nI (mm k)) fi = some k)) && (match hM mc mp mm mf md mF (nI (mc k)) (nI (mp k)) (nI (mm k)) (fi - 1) with | none => false | some b => decide (mv b ≠ mv k))) = true)) k + bI _; first | rw [← bI_t hst] | rw [← bI_f hst] | rw [← bI_f hstB])  _ (lv_sub hl [0, 1, 4, 5] rfl)
      exact lp26 (mF + 1) 0  0 (by omega) (by omega) rfl  _ (lv_sub hl [0, 1, 3, 2] rfl)
    · skip
      have c_17 := bI_z c_17
      exact absurd (by decide) c_17
