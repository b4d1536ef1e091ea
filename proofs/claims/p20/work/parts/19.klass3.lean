set_option maxHeartbeats 4000000 in
set_option maxRecDepth 100000 in
/-- no such concept -/
theorem c4_checkConcept (l : Launch) (D : va_G) (cI cZ cO cL : ClassId) (dt : Nat) (A : Nat → Prop) (a FA : Nat → Nat) (nC nR nL nF : Nat) (par wt stk flw : Nat → Int32) (hd : Nat → Option Nat) (rea sig : Nat → Int32) (ck cf cd : Nat → Nat) (cv : Nat → Int32) (nx : Nat → Option Nat) (R : va_W) (ci : Int32) (hlt : l.stackTraces = false) (hC12 : nC ≤ 12) (hL8 : nL < 8) : vx_Met l yX4_checkConcept wsX4_checkConcept ({ frames := 6, cells := 1, slots := 6, locals := 90 } : Room) (gP D cI cZ cO cL dt A [.ref (a 0), .int ci] (fun H => va_P D vwCl (WD cI cO a FA nC nR nL nF par wt stk flw hd rea sig ++ (WF FA ck cf cd cv nx nF ++ R)) H)) (va_Sv (fun _ => cOk nC ci)) (xU (fun E => E = "java/lang/IndexOutOfBoundsException" ∧ ¬ cOk nC ci)) 1 6 (fun _ => False) := by
  refine vx_ofW (cc := cX4_checkConcept) (maxL := 2) (ret := none) (by decide) rfl ?_
  intro p9 e9 s m9 args below meth c9 s₁ B hml hout hv
  obtain ⟨rfl, hg, hP⟩ := hv
  have hx := B.exec
  have hb := B.bytes
  have hr := B.returns
  have hts := atoms_spec (ws := wsX4_checkConcept) B.pre
  have hown : s.vm.findClass RX4 = some m9.cls := findClass_of_methodNamed B.named
  have hlocks := B.notSynchronized
  have hK := hg.1
  have w_0 := hts (.classLink RX4 166 "java/lang/IndexOutOfBoundsException") (by decide +kernel)
  have w_1 := hts (.initialized "java/lang/IndexOutOfBoundsException") (by decide +kernel)
  have hat_2 : ∀ w ∈ (vx_atS RX4 170 "java/lang/IndexOutOfBoundsException" gUp).filter goodWord, w.before _ s = true := fun w h => hts w (List.mem_cons_of_mem _ (List.mem_append_right _ h))
  have w_3 := hts (.fieldLink RX4 42 "Dimfacts" "conceptCount" "I") (by decide +kernel)
  have win_X4 : ∀ w ∈ wsX40, w ∈ wsX4_checkConcept := by decide +kernel
  have hl := lv_entry ([.ref (a 0), .int ci]) (n := 2) (Nat.le_of_ble_eq_true rfl)
  rw [lg_entry_eq]
  generalize (lg_sl ([.ref (a 0), .int ci]) ++ List.replicate (2 - (lg_sl ([.ref (a 0), .int ci])).length) Slot.unset).toArray = ls at hl ⊢
  have hl : lv_has ls 2 [(0, .ref (a 0)), (1, .int ci)] := hl
  refine lv_iload_n hx hb dX4_checkConcept_0 rfl (lv_at hl 1 rfl) ?_
  refine lv_if_lt (tgt := 12) hx hb dX4_checkConcept_1 (by decide) (fun c_1 => ?_) (fun c_1 => ?_)
  · skip
    exact g_throw (D := D) (cI := cI) (cZ := cZ) (cO := cO) (cL := cL) (dt := dt) (A := A) (text := "no such concept") hx hb hlt hown (by decide +kernel) w_0 w_1 (by decide +kernel) hg hat_2 gE_at2 hg.2.1.2.2.2.2.2.2.2.2.1 gE_ot2 (hl.1.trans hml.symm) dX4_checkConcept_12 dX4_checkConcept_15 dX4_checkConcept_16 dX4_checkConcept_18 dX4_checkConcept_21 hout (Nat.le_of_ble_eq_true rfl) (Nat.le_of_ble_eq_true rfl) (Nat.le_of_ble_eq_true rfl) (Nat.le_of_ble_eq_true rfl) hlocks (⟨rfl, by first | exact cOk_neg c_1 (by omega) | exact cOk_ge c_9 (by omega)⟩) (Nat.le_of_ble_eq_true rfl) (Nat.le_of_ble_eq_true rfl)
  · skip
    refine lv_iload_n hx hb dX4_checkConcept_4 rfl (lv_at hl 1 rfl) ?_
    refine lv_aload_n hx hb dX4_checkConcept_5 rfl (lv_at hl 0 rfl) ?_
    refine va_get (D := D) (ci := 3) (v := .int (nI nC)) (C := RX4) (T := TX4) (N := 11) hx hb hts win_X4 hown hK hP (0) (rfl) rfl 2 (by decide) w_3 (fun _ h9 => h9) rfl dX4_checkConcept_6 ?_
    refine lv_icmp_lt (tgt := 22) hx hb dX4_checkConcept_9 (by decide) (fun c_9 => ?_) (fun c_9 => ?_)
    · skip
      exact vx_ret (W.widen (k := 1) (n := 6) (Nat.le_of_ble_eq_true rfl) (Nat.le_of_ble_eq_true rfl) (W.vret hx hb hr (fun t ht hW => ⟨rfl, (cOk_of c_1 c_9 (by omega)), ht⟩) (fun q h => nomatch h) dX4_checkConcept_22))
    · skip
      exact g_throw (D := D) (cI := cI) (cZ := cZ) (cO := cO) (cL := cL) (dt := dt) (A := A) (text := "no such concept") hx hb hlt hown (by decide +kernel) w_0 w_1 (by decide +kernel) hg hat_2 gE_at2 hg.2.1.2.2.2.2.2.2.2.2.1 gE_ot2 (hl.1.trans hml.symm) dX4_checkConcept_12 dX4_checkConcept_15 dX4_checkConcept_16 dX4_checkConcept_18 dX4_checkConcept_21 hout (Nat.le_of_ble_eq_true rfl) (Nat.le_of_ble_eq_true rfl) (Nat.le_of_ble_eq_true rfl) (Nat.le_of_ble_eq_true rfl) hlocks (⟨rfl, by first | exact cOk_neg c_1 (by omega) | exact cOk_ge c_9 (by omega)⟩) (Nat.le_of_ble_eq_true rfl) (Nat.le_of_ble_eq_true rfl)
set_option maxHeartbeats 4000000 in
set_option maxRecDepth 100000 in
/-- no such period or member -/
theorem c4_checkPM (l : Launch) (D : va_G) (cI cZ cO cL : ClassId) (dt : Nat) (A : Nat → Prop) (pi mi : Int32) (ws : va_W) (hlt : l.stackTraces = false)  : vx_Met l yX4_checkPeriodAndMember wsX4_checkPeriodAndMember ({ frames := 6, cells := 1, slots := 6, locals := 90 } : Room) (gP D cI cZ cO cL dt A [.int pi, .int mi] (fun H => va_P D vwCl (ws) H)) (va_Sv (fun _ => cOk 10 pi ∧ cOk 4 mi)) (xU (fun E => E = "java/lang/IndexOutOfBoundsException" ∧ ¬ (cOk 10 pi ∧ cOk 4 mi))) 1 6 (fun _ => False) := by
  refine vx_ofW (cc := cX4_checkPeriodAndMember) (maxL := 2) (ret := none) (by decide) rfl ?_
  intro p9 e9 s m9 args below meth c9 s₁ B hml hout hv
  obtain ⟨rfl, hg, hP⟩ := hv
  have hx := B.exec
  have hb := B.bytes
  have hr := B.returns
  have hts := atoms_spec (ws := wsX4_checkPeriodAndMember) B.pre
  have hown : s.vm.findClass RX4 = some m9.cls := findClass_of_methodNamed B.named
  have hlocks := B.notSynchronized
  have hK := hg.1
  have w_0 := hts (.classLink RX4 166 "java/lang/IndexOutOfBoundsException") (by decide +kernel)
  have w_1 := hts (.initialized "java/lang/IndexOutOfBoundsException") (by decide +kernel)
  have hat_2 : ∀ w ∈ (vx_atS RX4 170 "java/lang/IndexOutOfBoundsException" gUp).filter goodWord, w.before _ s = true := fun w h => hts w (List.mem_cons_of_mem _ (List.mem_append_right _ h))
  have hl := lv_entry ([.int pi, .int mi]) (n := 2) (Nat.le_of_ble_eq_true rfl)
  rw [lg_entry_eq]
  generalize (lg_sl ([.int pi, .int mi]) ++ List.replicate (2 - (lg_sl ([.int pi, .int mi])).length) Slot.unset).toArray = ls at hl ⊢
  have hl : lv_has ls 2 [(0, .int pi), (1, .int mi)] := hl
  refine lv_iload_n hx hb dX4_checkPeriodAndMember_0 rfl (lv_at hl 0 rfl) ?_
  refine lv_if_lt (tgt := 10) hx hb dX4_checkPeriodAndMember_1 (by decide) (fun c_1 => ?_) (fun c_1 => ?_)
  · skip
    exact g_throw (D := D) (cI := cI) (cZ := cZ) (cO := cO) (cL := cL) (dt := dt) (A := A) (text := "no such period") hx hb hlt hown (by decide +kernel) w_0 w_1 (by decide +kernel) hg hat_2 gE_at2 hg.2.1.2.2.2.2.2.2.2.2.1 gE_ot2 (hl.1.trans hml.symm) dX4_checkPeriodAndMember_10 dX4_checkPeriodAndMember_13 dX4_checkPeriodAndMember_14 dX4_checkPeriodAndMember_16 dX4_checkPeriodAndMember_19 hout (Nat.le_of_ble_eq_true rfl) (Nat.le_of_ble_eq_true rfl) (Nat.le_of_ble_eq_true rfl) (Nat.le_of_ble_eq_true rfl) hlocks (⟨rfl, fun q => by first | exact cOk_neg c_1 (by decide) q.1 | exact cOk_ge (n := 10) c_7 (by decide) q.1⟩) (Nat.le_of_ble_eq_true rfl) (Nat.le_of_ble_eq_true rfl)
  · skip
    refine lv_iload_n hx hb dX4_checkPeriodAndMember_4 rfl (lv_at hl 0 rfl) ?_
    refine lv_bipush (v := 10) hx hb dX4_checkPeriodAndMember_5 (by decide) ?_
    refine lv_icmp_lt (tgt := 20) hx hb dX4_checkPeriodAndMember_7 (by decide) (fun c_7 => ?_) (fun c_7 => ?_)
    · skip
      refine lv_iload_n hx hb dX4_checkPeriodAndMember_20 rfl (lv_at hl 1 rfl) ?_
      refine lv_if_lt (tgt := 29) hx hb dX4_checkPeriodAndMember_21 (by decide) (fun c_21 => ?_) (fun c_21 => ?_)
      · skip
        exact g_throw (D := D) (cI := cI) (cZ := cZ) (cO := cO) (cL := cL) (dt := dt) (A := A) (text := "no such member") hx hb hlt hown (by decide +kernel) w_0 w_1 (by decide +kernel) hg hat_2 gE_at2 hg.2.1.2.2.2.2.2.2.2.2.1 gE_ot2 (hl.1.trans hml.symm) dX4_checkPeriodAndMember_29 dX4_checkPeriodAndMember_32 dX4_checkPeriodAndMember_33 dX4_checkPeriodAndMember_35 dX4_checkPeriodAndMember_38 hout (Nat.le_of_ble_eq_true rfl) (Nat.le_of_ble_eq_true rfl) (Nat.le_of_ble_eq_true rfl) (Nat.le_of_ble_eq_true rfl) hlocks (⟨rfl, fun q => by first | exact cOk_neg c_21 (by decide) q.2 | exact cOk_ge (n := 4) c_26 (by decide) q.2⟩) (Nat.le_of_ble_eq_true rfl) (Nat.le_of_ble_eq_true rfl)
      · skip
        refine lv_iload_n hx hb dX4_checkPeriodAndMember_24 rfl (lv_at hl 1 rfl) ?_
        refine lv_iconst (v := 4) hx hb dX4_checkPeriodAndMember_25 (by decide) ?_
        refine lv_icmp_lt (tgt := 39) hx hb dX4_checkPeriodAndMember_26 (by decide) (fun c_26 => ?_) (fun c_26 => ?_)
        · skip
          exact vx_ret (W.widen (k := 1) (n := 6) (Nat.le_of_ble_eq_true rfl) (Nat.le_of_ble_eq_true rfl) (W.vret hx hb hr (fun t ht hW => ⟨rfl, ⟨cOk_of (n := 10) c_1 c_7 (by decide), cOk_of (n := 4) c_21 c_26 (by decide)⟩, ht⟩) (fun q h => nomatch h) dX4_checkPeriodAndMember_39))
        · skip
          exact g_throw (D := D) (cI := cI) (cZ := cZ) (cO := cO) (cL := cL) (dt := dt) (A := A) (text := "no such member") hx hb hlt hown (by decide +kernel) w_0 w_1 (by decide +kernel) hg hat_2 gE_at2 hg.2.1.2.2.2.2.2.2.2.2.1 gE_ot2 (hl.1.trans hml.symm) dX4_checkPeriodAndMember_29 dX4_checkPeriodAndMember_32 dX4_checkPeriodAndMember_33 dX4_checkPeriodAndMember_35 dX4_checkPeriodAndMember_38 hout (Nat.le_of_ble_eq_true rfl) (Nat.le_of_ble_eq_true rfl) (Nat.le_of_ble_eq_true rfl) (Nat.le_of_ble_eq_true rfl) hlocks (⟨rfl, fun q => by first | exact cOk_neg c_21 (by decide) q.2 | exact cOk_ge (n := 4) c_26 (by decide) q.2⟩) (Nat.le_of_ble_eq_true rfl) (Nat.le_of_ble_eq_true rfl)
    · skip
      exact g_throw (D := D) (cI := cI) (cZ := cZ) (cO := cO) (cL := cL) (dt := dt) (A := A) (text := "no such period") hx hb hlt hown (by decide +kernel) w_0 w_1 (by decide +kernel) hg hat_2 gE_at2 hg.2.1.2.2.2.2.2.2.2.2.1 gE_ot2 (hl.1.trans hml.symm) dX4_checkPeriodAndMember_10 dX4_checkPeriodAndMember_13 dX4_checkPeriodAndMember_14 dX4_checkPeriodAndMember_16 dX4_checkPeriodAndMember_19 hout (Nat.le_of_ble_eq_true rfl) (Nat.le_of_ble_eq_true rfl) (Nat.le_of_ble_eq_true rfl) (Nat.le_of_ble_eq_true rfl) hlocks (⟨rfl, fun q => by first | exact cOk_neg c_1 (by decide) q.1 | exact cOk_ge (n := 10) c_7 (by decide) q.1⟩) (Nat.le_of_ble_eq_true rfl) (Nat.le_of_ble_eq_true rfl)
set_option maxHeartbeats 4000000 in
set_option maxRecDepth 100000 in
/-- no such key -/
theorem c4_checkKey (l : Launch) (D : va_G) (cI cZ cO cL : ClassId) (dt : Nat) (A : Nat → Prop) (a FA : Nat → Nat) (nC nR nL nF : Nat) (par wt stk flw : Nat → Int32) (hd : Nat → Option Nat) (rea sig : Nat → Int32) (ck cf cd : Nat → Nat) (cv : Nat → Int32) (nx : Nat → Option Nat) (R : va_W) (ci pi mi : Int32) (hlt : l.stackTraces = false) (hC12 : nC ≤ 12) (hL8 : nL < 8) : vx_Met l yX4_checkKey wsX4_checkKey ({ frames := 7, cells := 2, slots := 12, locals := 111 } : Room) (gP D cI cZ cO cL dt A [.ref (a 0), .int ci, .int pi, .int mi] (fun H => va_P D vwCl (WD cI cO a FA nC nR nL nF par wt stk flw hd rea sig ++ (WF FA ck cf cd cv nx nF ++ R)) H)) (va_Sv (fun _ => cOk nC ci ∧ cOk 10 pi ∧ cOk 4 mi)) (xU (fun E => E = "java/lang/IndexOutOfBoundsException" ∧ ¬ (cOk nC ci ∧ cOk 10 pi ∧ cOk 4 mi))) 2 12 (fun _ => False) := by
  refine vx_ofW (cc := cX4_checkKey) (maxL := 4) (ret := none) (by decide) rfl ?_
  intro p9 e9 s m9 args below meth c9 s₁ B hml hout hv
  obtain ⟨rfl, hg, hP⟩ := hv
  have hx := B.exec
  have hb := B.bytes
  have hr := B.returns
  have hts := atoms_spec (ws := wsX4_checkKey) B.pre
  have hown : s.vm.findClass RX4 = some m9.cls := findClass_of_methodNamed B.named
  have hlocks := B.notSynchronized
  have hK := hg.1
  have hl := lv_entry ([.ref (a 0), .int ci, .int pi, .int mi]) (n := 4) (Nat.le_of_ble_eq_true rfl)
  rw [lg_entry_eq]
  generalize (lg_sl ([.ref (a 0), .int ci, .int pi, .int mi]) ++ List.replicate (4 - (lg_sl ([.ref (a 0), .int ci, .int pi, .int mi])).length) Slot.unset).toArray = ls at hl ⊢
  have hl : lv_has ls 4 [(0, .ref (a 0)), (1, .int ci), (2, .int pi), (3, .int mi)] := hl
  refine lv_aload_n hx hb dX4_checkKey_0 rfl (lv_at hl 0 rfl) ?_
  refine lv_iload_n hx hb dX4_checkKey_1 rfl (lv_at hl 1 rfl) ?_
  refine g_cxv (vx_runV (As := [.int ci]) (rest := []) ⟨hx, hb, hml, hown, hts⟩ (c4_checkConcept l D cI cZ cO cL dt A a FA nC nR nL nF par wt stk flw hd rea sig ck cf cd cv nx R ci hlt hC12 hL8) (cwV 1 hts gX4_checkKey_X4_checkConcept rfl rfl rfl (by decide +kernel) ⟨Nat.le_of_ble_eq_true rfl, Nat.le_of_ble_eq_true rfl⟩) (gP.v hg hP 3 rfl (0) (rfl) hP) rfl rfl hl.1 rfl (lv_room (Nat.le_of_ble_eq_true rfl)) dX4_checkKey_2 ⟨Nat.le_of_ble_eq_true rfl, Nat.le_of_ble_eq_true rfl⟩) (fun E9 ce9 q9 H9 hE9 hz9 hk9 hc9 hv9 hf9 => g_outU hout hlocks (⟨hE9.1, fun q => hE9.2 q.1⟩) hz9 hk9 hc9 hv9 hf9 (fun _ h => nomatch h) (Nat.le_of_ble_eq_true rfl) (Nat.le_of_ble_eq_true rfl)) (fun hr_1 => ?_)
  refine W.widen (k := 1) (n := 6) (Nat.le_of_ble_eq_true rfl) (Nat.le_of_ble_eq_true rfl) ?_
  refine lv_iload_n hx hb dX4_checkKey_5 rfl (lv_at hl 2 rfl) ?_
  refine lv_iload_n hx hb dX4_checkKey_6 rfl (lv_at hl 3 rfl) ?_
  refine g_cxv (vx_runS (As := [.int pi, .int mi]) (rest := []) ⟨hx, hb, hml, hown, hts⟩ (c4_checkPM l D cI cZ cO cL dt A pi mi (WD cI cO a FA nC nR nL nF par wt stk flw hd rea sig ++ (WF FA ck cf cd cv nx nF ++ R)) hlt) (va_cwS 2 hts gX4_checkKey_X4_checkPeriodAndMember rfl rfl rfl (by decide +kernel) ⟨Nat.le_of_ble_eq_true rfl, Nat.le_of_ble_eq_true rfl⟩) (gP.s hg hP) rfl rfl hl.1 rfl (lv_room (Nat.le_of_ble_eq_true rfl)) dX4_checkKey_7 ⟨Nat.le_of_ble_eq_true rfl, Nat.le_of_ble_eq_true rfl⟩) (fun E9 ce9 q9 H9 hE9 hz9 hk9 hc9 hv9 hf9 => g_outU hout hlocks (⟨hE9.1, fun q => hE9.2 q.2⟩) hz9 hk9 hc9 hv9 hf9 (fun _ h => nomatch h) (Nat.le_of_ble_eq_true rfl) (Nat.le_of_ble_eq_true rfl)) (fun hr_2 => ?_)
  refine W.widen (k := 2) (n := 12) (Nat.le_of_ble_eq_true rfl) (Nat.le_of_ble_eq_true rfl) ?_
  exact vx_ret (W.widen (k := 2) (n := 12) (Nat.le_of_ble_eq_true rfl) (Nat.le_of_ble_eq_true rfl) (W.vret hx hb hr (fun t ht hW => ⟨rfl, ⟨hr_1, hr_2⟩, ht⟩) (fun q h => nomatch h) dX4_checkKey_10))
set_option maxHeartbeats 4000000 in
set_option maxRecDepth 100000 in
/-- no such filing -/
theorem c4_checkFiling (l : Launch) (D : va_G) (cI cZ cO cL : ClassId) (dt : Nat) (A : Nat → Prop) (a FA : Nat → Nat) (nC nR nL nF : Nat) (par wt stk flw : Nat → Int32) (hd : Nat → Option Nat) (rea sig : Nat → Int32) (ck cf cd : Nat → Nat) (cv : Nat → Int32) (nx : Nat → Option Nat) (R : va_W) (fi : Int32) (hlt : l.stackTraces = false) (hC12 : nC ≤ 12) (hL8 : nL < 8) : vx_Met l yX4_checkFiling wsX4_checkFiling ({ frames := 6, cells := 1, slots := 6, locals := 90 } : Room) (gP D cI cZ cO cL dt A [.ref (a 0), .int fi] (fun H => va_P D vwCl (WD cI cO a FA nC nR nL nF par wt stk flw hd rea sig ++ (WF FA ck cf cd cv nx nF ++ R)) H)) (va_Sv (fun _ => cOk (nL + 1) fi)) (xU (fun E => E = "java/lang/IndexOutOfBoundsException" ∧ ¬ cOk (nL + 1) fi)) 1 6 (fun _ => False) := by
  refine vx_ofW (cc := cX4_checkFiling) (maxL := 2) (ret := none) (by decide) rfl ?_
  intro p9 e9 s m9 args below meth c9 s₁ B hml hout hv
  obtain ⟨rfl, hg, hP⟩ := hv
  have hx := B.exec
  have hb := B.bytes
  have hr := B.returns
  have hts := atoms_spec (ws := wsX4_checkFiling) B.pre
  have hown : s.vm.findClass RX4 = some m9.cls := findClass_of_methodNamed B.named
  have hlocks := B.notSynchronized
  have hK := hg.1
  have w_0 := hts (.classLink RX4 166 "java/lang/IndexOutOfBoundsException") (by decide +kernel)
  have w_1 := hts (.initialized "java/lang/IndexOutOfBoundsException") (by decide +kernel)
  have hat_2 : ∀ w ∈ (vx_atS RX4 170 "java/lang/IndexOutOfBoundsException" gUp).filter goodWord, w.before _ s = true := fun w h => hts w (List.mem_cons_of_mem _ (List.mem_append_right _ h))
  have w_3 := hts (.fieldLink RX4 73 "Dimfacts" "latest" "I") (by decide +kernel)
  have win_X4 : ∀ w ∈ wsX40, w ∈ wsX4_checkFiling := by decide +kernel
  have hl := lv_entry ([.ref (a 0), .int fi]) (n := 2) (Nat.le_of_ble_eq_true rfl)
  rw [lg_entry_eq]
  generalize (lg_sl ([.ref (a 0), .int fi]) ++ List.replicate (2 - (lg_sl ([.ref (a 0), .int fi])).length) Slot.unset).toArray = ls at hl ⊢
  have hl : lv_has ls 2 [(0, .ref (a 0)), (1, .int fi)] := hl
  refine lv_iload_n hx hb dX4_checkFiling_0 rfl (lv_at hl 1 rfl) ?_
  refine lv_if_lt (tgt := 12) hx hb dX4_checkFiling_1 (by decide) (fun c_1 => ?_) (fun c_1 => ?_)
  · skip
    exact g_throw (D := D) (cI := cI) (cZ := cZ) (cO := cO) (cL := cL) (dt := dt) (A := A) (text := "no such filing") hx hb hlt hown (by decide +kernel) w_0 w_1 (by decide +kernel) hg hat_2 gE_at2 hg.2.1.2.2.2.2.2.2.2.2.1 gE_ot2 (hl.1.trans hml.symm) dX4_checkFiling_12 dX4_checkFiling_15 dX4_checkFiling_16 dX4_checkFiling_18 dX4_checkFiling_21 hout (Nat.le_of_ble_eq_true rfl) (Nat.le_of_ble_eq_true rfl) (Nat.le_of_ble_eq_true rfl) (Nat.le_of_ble_eq_true rfl) hlocks (⟨rfl, by first | exact cOk_neg c_1 (by omega) | exact cOk_gt c_9 (by omega)⟩) (Nat.le_of_ble_eq_true rfl) (Nat.le_of_ble_eq_true rfl)
  · skip
    refine lv_iload_n hx hb dX4_checkFiling_4 rfl (lv_at hl 1 rfl) ?_
    refine lv_aload_n hx hb dX4_checkFiling_5 rfl (lv_at hl 0 rfl) ?_
    refine va_get (D := D) (ci := 3) (v := .int (nI nL)) (C := RX4) (T := TX4) (N := 11) hx hb hts win_X4 hown hK hP (0) (rfl) rfl 6 (by decide) w_3 (fun _ h9 => h9) rfl dX4_checkFiling_6 ?_
    refine lv_icmp_le (tgt := 22) hx hb dX4_checkFiling_9 (by decide) (fun c_9 => ?_) (fun c_9 => ?_)
    · skip
      exact vx_ret (W.widen (k := 1) (n := 6) (Nat.le_of_ble_eq_true rfl) (Nat.le_of_ble_eq_true rfl) (W.vret hx hb hr (fun t ht hW => ⟨rfl, (cOk_ofl c_1 c_9 (by omega)), ht⟩) (fun q h => nomatch h) dX4_checkFiling_22))
    · skip
      exact g_throw (D := D) (cI := cI) (cZ := cZ) (cO := cO) (cL := cL) (dt := dt) (A := A) (text := "no such filing") hx hb hlt hown (by decide +kernel) w_0 w_1 (by decide +kernel) hg hat_2 gE_at2 hg.2.1.2.2.2.2.2.2.2.2.1 gE_ot2 (hl.1.trans hml.symm) dX4_checkFiling_12 dX4_checkFiling_15 dX4_checkFiling_16 dX4_checkFiling_18 dX4_checkFiling_21 hout (Nat.le_of_ble_eq_true rfl) (Nat.le_of_ble_eq_true rfl) (Nat.le_of_ble_eq_true rfl) (Nat.le_of_ble_eq_true rfl) hlocks (⟨rfl, by first | exact cOk_neg c_1 (by omega) | exact cOk_gt c_9 (by omega)⟩) (Nat.le_of_ble_eq_true rfl) (Nat.le_of_ble_eq_true rfl)
set_option maxHeartbeats 4000000 in
set_option maxRecDepth 100000 in
/-- the sum -/
theorem c4_sum (l : Launch) (D : va_G) (cI cZ cO cL : ClassId) (dt : Nat) (A : Nat → Prop) (a FA : Nat → Nat) (nC nR nL nF : Nat) (par wt stk flw : Nat → Int32) (hd : Nat → Option Nat) (rea sig : Nat → Int32) (ck cf cd : Nat → Nat) (cv : Nat → Int32) (nx : Nat → Option Nat) (R : va_W) (ci pi mi fi : Int32) (hlt : l.stackTraces = false) (hF : nF ≤ 80) (hC12 : nC ≤ 12) (hck : ∀ k, ck k < 480) (hcf : ∀ k, cf k < 2 ^ 31) (hcd : ∀ k, cd k ≤ 4) (hcv : ∀ k, vOk (cv k)) (hwt : ∀ k, wOk (wt k)) (hCh : chOk ck cf cd hd nx nF) (hL8 : nL < 8) : vx_Met l yX4_sum wsX4_sum ({ frames := 8, cells := 3, slots := 18, locals := 134 } : Room) (gP D cI cZ cO cL dt A [.ref (a 0), .int ci, .int pi, .int mi, .int fi] (fun H => va_P D vwCl (WD cI cO a FA nC nR nL nF par wt stk flw hd rea sig ++ (WF FA ck cf cd cv nx nF ++ R)) H)) (vp_Si (fun r => ∃ c p m f : Nat, kV nC nL ci pi mi fi c p m f ∧ r = sumN par wt (fun k => hC ck cf cd nF (nI (k * 40 + p * 4 + m)) (nI f)) cv (nI c) nC)) (xU (fun E => E = "java/lang/IndexOutOfBoundsException" ∧ kNo nC nL ci pi mi fi)) 3 18 (fun _ => False) := by
  refine vx_ofW (cc := cX4_sum) (maxL := 8) (ret := (some .int)) (by decide) rfl ?_
  intro p9 e9 s m9 args below meth c9 s₁ B hml hout hv
  obtain ⟨rfl, hg, hP⟩ := hv
  have hx := B.exec
  have hb := B.bytes
  have hr := B.returns
  have hts := atoms_spec (ws := wsX4_sum) B.pre
  have hown : s.vm.findClass RX4 = some m9.cls := findClass_of_methodNamed B.named
  have hlocks := B.notSynchronized
  have hK := hg.1
  have w_0 := hts (.fieldLink RX4 42 "Dimfacts" "conceptCount" "I") (by decide +kernel)
  have win_X4 : ∀ w ∈ wsX40, w ∈ wsX4_sum := by decide +kernel
  have w_2 := hts (.fieldLink RX4 32 "Dimfacts" "keyed" "LDimfacts$KeyedFacts;") (by decide +kernel)
  have w_3 := hts (.fieldLink RX4 13 "Dimfacts" "weights" "[I") (by decide +kernel)
  have w_4 := hts (.fieldLink RX4 135 "Dimfacts$Fact" "value" "I") (by decide +kernel)
  have win_X0 : ∀ w ∈ wsX00, w ∈ wsX4_sum := by decide +kernel
  have hl := lv_entry ([.ref (a 0), .int ci, .int pi, .int mi, .int fi]) (n := 8) (Nat.le_of_ble_eq_true rfl)
  rw [lg_entry_eq]
  generalize (lg_sl ([.ref (a 0), .int ci, .int pi, .int mi, .int fi]) ++ List.replicate (8 - (lg_sl ([.ref (a 0), .int ci, .int pi, .int mi, .int fi])).length) Slot.unset).toArray = ls at hl ⊢
  have hl : lv_has ls 8 [(0, .ref (a 0)), (1, .int ci), (2, .int pi), (3, .int mi), (4, .int fi)] := hl
  refine lv_aload_n hx hb dX4_sum_0 rfl (lv_at hl 0 rfl) ?_
  refine lv_iload_n hx hb dX4_sum_1 rfl (lv_at hl 1 rfl) ?_
  refine lv_iload_n hx hb dX4_sum_2 rfl (lv_at hl 2 rfl) ?_
  refine lv_iload_n hx hb dX4_sum_3 rfl (lv_at hl 3 rfl) ?_
  refine g_cxv (vx_runV (As := [.int ci, .int pi, .int mi]) (rest := []) ⟨hx, hb, hml, hown, hts⟩ (c4_checkKey l D cI cZ cO cL dt A a FA nC nR nL nF par wt stk flw hd rea sig ck cf cd cv nx R ci pi mi hlt hC12 hL8) (cwV 3 hts gX4_sum_X4_checkKey rfl rfl rfl (by decide +kernel) ⟨Nat.le_of_ble_eq_true rfl, Nat.le_of_ble_eq_true rfl⟩) (gP.v hg hP 3 rfl (0) (rfl) hP) rfl rfl hl.1 rfl (lv_room (Nat.le_of_ble_eq_true rfl)) dX4_sum_4 ⟨Nat.le_of_ble_eq_true rfl, Nat.le_of_ble_eq_true rfl⟩) (fun E9 ce9 q9 H9 hE9 hz9 hk9 hc9 hv9 hf9 => g_outU hout hlocks (⟨hE9.1, fun q => hE9.2 q.1⟩) hz9 hk9 hc9 hv9 hf9 (fun _ h => nomatch h) (Nat.le_of_ble_eq_true rfl) (Nat.le_of_ble_eq_true rfl)) (fun hr_1 => ?_)
  refine W.widen (k := 2) (n := 12) (Nat.le_of_ble_eq_true rfl) (Nat.le_of_ble_eq_true rfl) ?_
  obtain ⟨⟨c1, rfl, hc1⟩, ⟨p1, rfl, hp1⟩, ⟨m1, rfl, hm1⟩⟩ := hr_1
  refine lv_aload_n hx hb dX4_sum_7 rfl (lv_at hl 0 rfl) ?_
  refine lv_iload hx hb dX4_sum_8 (lv_at hl 4 rfl) ?_
  refine g_cxv (vx_runV (As := [.int fi]) (rest := []) ⟨hx, hb, hml, hown, hts⟩ (c4_checkFiling l D cI cZ cO cL dt A a FA nC nR nL nF par wt stk flw hd rea sig ck cf cd cv nx R fi hlt hC12 hL8) (cwV 1 hts gX4_sum_X4_checkFiling rfl rfl rfl (by decide +kernel) ⟨Nat.le_of_ble_eq_true rfl, Nat.le_of_ble_eq_true rfl⟩) (gP.v hg hP 3 rfl (0) (rfl) hP) rfl rfl hl.1 rfl (lv_room (Nat.le_of_ble_eq_true rfl)) dX4_sum_10 ⟨Nat.le_of_ble_eq_true rfl, Nat.le_of_ble_eq_true rfl⟩) (fun E9 ce9 q9 H9 hE9 hz9 hk9 hc9 hv9 hf9 => g_outU hout hlocks (⟨hE9.1, fun q => hE9.2 q.2⟩) hz9 hk9 hc9 hv9 hf9 (fun _ h => nomatch h) (Nat.le_of_ble_eq_true rfl) (Nat.le_of_ble_eq_true rfl)) (fun hr_2 => ?_)
  refine W.widen (k := 3) (n := 18) (Nat.le_of_ble_eq_true rfl) (Nat.le_of_ble_eq_true rfl) ?_
  obtain ⟨f1, rfl, hf1⟩ := hr_2
  refine lv_iconst (v := 0) hx hb dX4_sum_13 (by decide) ?_
  refine lv_istore (lv' := [(5, .int 0), (0, .ref (a 0)), (1, .int (nI c1)), (2, .int (nI p1)), (3, .int (nI m1)), (4, .int (nI f1))]) hx hb dX4_sum_14 hl (by decide) rfl (fun ls hl => ?_)
  refine lv_iconst (v := 0) hx hb dX4_sum_16 (by decide) ?_
  refine lv_istore (lv' := [(6, .int 0), (5, .int 0), (0, .ref (a 0)), (1, .int (nI c1)), (2, .int (nI p1)), (3, .int (nI m1)), (4, .int (nI f1))]) hx hb dX4_sum_17 hl (by decide) rfl (fun ls hl => ?_)
  have lp19 : ∀ (n19 k : Nat)  (x5 : Int32), nC < k + n19 → k ≤ nC → x5 = sumN par wt (fun k => hC ck cf cd nF (nI (k * 40 + p1 * 4 + m1)) (nI f1)) cv (nI c1) k → ∀ ls : Array Slot, lv_has ls 8 [(6, .int (nI k)), (5, .int x5), (4, .int (nI f1)), (3, .int (nI m1)), (2, .int (nI p1)), (1, .int (nI c1)), (0, .ref (a 0))] → W p9 l e9 (headSpec wsX4_sum ({ frames := 8, cells := 3, slots := 18, locals := 134 } : Room)).room s m9 ([.ref (a 0), .int (nI c1), .int (nI p1), .int (nI m1), .int (nI f1)] : List Value).toArray below meth c9 s.heap [] 3 18 (vx_MQ below (vp_Si (fun r => ∃ c p m f : Nat, kV nC nL (nI c1) (nI p1) (nI m1) (nI f1) c p m f ∧ r = sumN par wt (fun k => hC ck cf cd nF (nI (k * 40 + p * 4 + m)) (nI f)) cv (nI c) nC)) (xU (fun E => E = "java/lang/IndexOutOfBoundsException" ∧ kNo nC nL (nI c1) (nI p1) (nI m1) (nI f1))) ([.ref (a 0), .int (nI c1), .int (nI p1), .int (nI m1), .int (nI f1)] : List Value).toArray s 3 18 (fun _ => False)) (F0 m9 19 ls []) := by
    intro n19
    induction n19 with
    | zero => intro k  x5 h1 h2; exact absurd h1 (by omega)
    | succ n19 ih19 =>
      intro k  x5 hn19 hk19 e19_5  ls hl
      refine lv_iload hx hb dX4_sum_19 (lv_at hl 0 rfl) ?_
      refine lv_aload_n hx hb dX4_sum_21 rfl (lv_at hl 6 rfl) ?_
      refine va_get (D := D) (ci := 3) (v := .int (nI nC)) (C := RX4) (T := TX4) (N := 11) hx hb hts win_X4 hown hK hP (0) (rfl) rfl 2 (by decide) w_0 (fun _ h9 => h9) rfl dX4_sum_22 ?_
      refine lv_icmp_ge (tgt := 79) hx hb dX4_sum_25 (by decide) (fun c_25 => ?_) (fun c_25 => ?_)
      · skip
        have hkF : k = nC := by have := (nI_leI (a := nC) (b := k) (by omega) (by omega)).mp c_25; omega
        rw [hkF] at e19_5
        refine lv_iload hx hb dX4_sum_79 (lv_at hl 1 rfl) ?_
        exact vx_ret (W.widen (k := 3) (n := 18) (Nat.le_of_ble_eq_true rfl) (Nat.le_of_ble_eq_true rfl) (W.iret (v := x5) hx hb hr (fun t ht hW => ⟨x5, rfl, ⟨c1, p1, m1, f1, ⟨⟨rfl, hc1⟩, ⟨rfl, hp1⟩, ⟨rfl, hm1⟩, ⟨rfl, hf1⟩⟩, e19_5⟩, ht⟩) (fun q h => nomatch h) dX4_sum_81))
      · skip
        have hkF : k < nC := by have := mt (nI_leI (a := nC) (b := k) (by omega) (by omega)).mpr c_25; omega
        refine lv_aload_n hx hb dX4_sum_28 rfl (lv_at hl 6 rfl) ?_
        refine lv_aload_n hx hb dX4_sum_29 rfl (lv_at hl 6 rfl) ?_
        refine va_get (D := D) (ci := 3) (v := .ref (a 6)) (C := RX4) (T := TX4) (N := 11) hx hb hts win_X4 hown hK hP (0) (rfl) rfl 8 (by decide) w_2 (fun _ h9 => h9) rfl dX4_sum_30 ?_
        refine lv_iload_n hx hb dX4_sum_33 rfl (lv_at hl 5 rfl) ?_
        refine lv_iload hx hb dX4_sum_34 (lv_at hl 0 rfl) ?_
        refine lv_iload hx hb dX4_sum_36 (lv_at hl 0 rfl) ?_
        refine lv_iload_n hx hb dX4_sum_38 rfl (lv_at hl 4 rfl) ?_
        refine lv_iload_n hx hb dX4_sum_39 rfl (lv_at hl 3 rfl) ?_
        refine g_csi (va_runS (As := [.int (nI k), .int (nI p1), .int (nI m1)]) (rest := [.int (nI k), .int (nI c1), .ref (a 6), .ref (a 0)]) ⟨hx, hb, hml, hown, hts⟩ (c4_keyOf l D cI cZ cO cL dt A k p1 m1 (WD cI cO a FA nC nR nL nF par wt stk flw hd rea sig ++ (WF FA ck cf cd cv nx nF ++ R))) (va_cwS 3 hts gX4_sum_X4_keyOf rfl rfl rfl (by decide +kernel) ⟨Nat.le_of_ble_eq_true rfl, Nat.le_of_ble_eq_true rfl⟩) (gP.s hg hP) rfl rfl hl.1 rfl (lv_room (Nat.le_of_ble_eq_true rfl)) dX4_sum_40 ⟨Nat.le_of_ble_eq_true rfl, Nat.le_of_ble_eq_true rfl⟩) (fun r_3 hr_3 => ?_)
        obtain rfl : r_3 = nI (k * 40 + p1 * 4 + m1) := hr_3
        refine lv_iload hx hb dX4_sum_43 (lv_at hl 2 rfl) ?_
        refine g_csq (va_runV (As := [.ref (a 6), .int (nI c1), .int (nI k), .int (nI (k * 40 + p1 * 4 + m1)), .int (nI f1)]) (rest := []) ⟨hx, hb, hml, hown, hts⟩ (c4_partHolding_K l D cI cZ cO cL dt A a FA nC nR nL nF par wt stk flw hd rea sig ck cf cd cv nx R c1 k (k * 40 + p1 * 4 + m1) (nI f1) hF hC12 hck hcf hcd hcv hwt hCh (by omega) (by omega)) (cwV 5 hts gX4_sum_X4_partHolding rfl rfl rfl (by decide +kernel) ⟨Nat.le_of_ble_eq_true rfl, Nat.le_of_ble_eq_true rfl⟩) (gP.v hg hP 3 rfl (0) (rfl) hP) rfl rfl hl.1 rfl (lv_room (Nat.le_of_ble_eq_true rfl)) dX4_sum_45 ⟨Nat.le_of_ble_eq_true rfl, Nat.le_of_ble_eq_true rfl⟩) (fun r_4 hr_4 => ?_)
        obtain ⟨o_r_4, hS⟩ : ∃ z, (if par k = nI c1 then hC ck cf cd nF (nI (k * 40 + p1 * 4 + m1)) (nI f1) else none) = z := ⟨_, rfl⟩
        rcases o_r_4 with _ | j
        · skip
          obtain rfl : r_4 = none := hr_4.trans (congrArg (Option.map FA) hS)
          refine lv_astoreN (lv' := [(7, .null), (6, .int (nI k)), (5, .int x5), (4, .int (nI f1)), (3, .int (nI m1)), (2, .int (nI p1)), (1, .int (nI c1)), (0, .ref (a 0))]) hx hb dX4_sum_48 hl (by decide) rfl (fun ls hl => ?_)
          refine lv_aloadN hx hb dX4_sum_50 (lv_at hl 0 rfl) ?_
          refine lv_ifnullN (tgt := 73) hx hb dX4_sum_52 (by decide) ?_
          refine lv_iinc (v := nI (k + 1)) (lv' := [(6, .int (nI (k + 1))), (7, .null), (5, .int x5), (4, .int (nI f1)), (3, .int (nI m1)), (2, .int (nI p1)), (1, .int (nI c1)), (0, .ref (a 0))]) hx hb dX4_sum_73 hl (k := 1) rfl (nI_1 k) (by decide) rfl (fun ls hl => ?_)
          refine lv_goto (tgt := 19) hx hb dX4_sum_76 (by decide) ?_
          exact ih19 (k + 1)  x5 (by omega) (by omega) (by rw [sumN_s k, hS, e19_5]; first | done | rfl | exact (Int32.add_zero _).symm)  _ (lv_sub hl [0, 2, 3, 4, 5, 6, 7] rfl)
        · skip
          obtain rfl : r_4 = some (FA j) := hr_4.trans (congrArg (Option.map FA) hS)
          have hj : j < nF := by
            by_cases hp : par k = nI c1
            · rw [if_pos hp] at hS; exact (sel_lt hS).1
            · rw [if_neg hp] at hS; cases hS
          refine lv_astore (lv' := [(7, .ref (FA j)), (6, .int (nI k)), (5, .int x5), (4, .int (nI f1)), (3, .int (nI m1)), (2, .int (nI p1)), (1, .int (nI c1)), (0, .ref (a 0))]) hx hb dX4_sum_48 hl (by decide) rfl (fun ls hl => ?_)
          refine lv_aload hx hb dX4_sum_50 (lv_at hl 0 rfl) ?_
          refine lv_ifnull hx hb dX4_sum_52 ?_
          refine lv_iload hx hb dX4_sum_55 (lv_at hl 2 rfl) ?_
          refine lv_aload_n hx hb dX4_sum_57 rfl (lv_at hl 7 rfl) ?_
          refine va_get (D := D) (ci := 3) (v := .ref (a 2)) (C := RX4) (T := TX4) (N := 11) hx hb hts win_X4 hown hK hP (0) (rfl) rfl 1 (by decide) w_3 (fun _ h9 => h9) rfl dX4_sum_58 ?_
          refine lv_iload hx hb dX4_sum_61 (lv_at hl 1 rfl) ?_
          refine g_iald hx hb hK hP (2) 0 (n := 12) (f := wt) (rfl) rfl k rfl (by omega) (by decide) dX4_sum_63 ?_
          refine lv_aload hx hb dX4_sum_64 (lv_at hl 0 rfl) ?_
          refine va_get (D := D) (ci := 0) (v := .int (cv j)) (C := RX0) (T := TX0) (N := 5) hx hb hts win_X0 hown hK hP (11 + j) (WDF_at (by omega)) rfl 2 (by decide) w_4 (fun _ h9 => h9) rfl dX4_sum_66 ?_
          refine lv_imul hx hb dX4_sum_69 ?_
          refine lv_iadd hx hb dX4_sum_70 ?_
          refine lv_istore (lv' := [(5, .int (x5 + ((wt k) * (cv j)))), (7, .ref (FA j)), (6, .int (nI k)), (4, .int (nI f1)), (3, .int (nI m1)), (2, .int (nI p1)), (1, .int (nI c1)), (0, .ref (a 0))]) hx hb dX4_sum_71 hl (by decide) rfl (fun ls hl => ?_)
          refine lv_iinc (v := nI (k + 1)) (lv' := [(6, .int (nI (k + 1))), (5, .int (x5 + ((wt k) * (cv j)))), (7, .ref (FA j)), (4, .int (nI f1)), (3, .int (nI m1)), (2, .int (nI p1)), (1, .int (nI c1)), (0, .ref (a 0))]) hx hb dX4_sum_73 hl (k := 2) rfl (nI_1 k) (by decide) rfl (fun ls hl => ?_)
          refine lv_goto (tgt := 19) hx hb dX4_sum_76 (by decide) ?_
          exact ih19 (k + 1)  (x5 + ((wt k) * (cv j))) (by omega) (by omega) (by rw [sumN_s k, hS, e19_5]; first | done | rfl | exact (Int32.add_zero _).symm)  _ (lv_sub hl [0, 1, 3, 4, 5, 6, 7] rfl)
  exact lp19 (nC + 1) 0  0 (by omega) (by omega) rfl  _ (lv_sub hl [0, 1, 6, 5, 4, 3, 2] rfl)
set_option maxHeartbeats 4000000 in
set_option maxRecDepth 100000 in
/-- is a sum off -/
theorem c4_isSumOff (l : Launch) (D : va_G) (cI cZ cO cL : ClassId) (dt : Nat) (A : Nat → Prop) (a FA : Nat → Nat) (nC nR nL nF : Nat) (par wt stk flw : Nat → Int32) (hd : Nat → Option Nat) (rea sig : Nat → Int32) (ck cf cd : Nat → Nat) (cv : Nat → Int32) (nx : Nat → Option Nat) (R : va_W) (ci pi mi fi : Int32) (hlt : l.stackTraces = false) (hF : nF ≤ 80) (hC12 : nC ≤ 12) (hck : ∀ k, ck k < 480) (hcf : ∀ k, cf k < 2 ^ 31) (hcd : ∀ k, cd k ≤ 4) (hcv : ∀ k, vOk (cv k)) (hwt : ∀ k, wOk (wt k)) (hCh : chOk ck cf cd hd nx nF) (hL8 : nL < 8) : vx_Met l yX4_isSumOff wsX4_isSumOff ({ frames := 8, cells := 3, slots := 18, locals := 134 } : Room) (gP D cI cZ cO cL dt A [.ref (a 0), .int ci, .int pi, .int mi, .int fi] (fun H => va_P D vwCl (WD cI cO a FA nC nR nL nF par wt stk flw hd rea sig ++ (WF FA ck cf cd cv nx nF ++ R)) H)) (vp_Si (fun r => ∃ c p m f : Nat, kV nC nL ci pi mi fi c p m f ∧ r = bI (sumOff nC par wt (fun k => hC ck cf cd nF (nI (k * 40 + p * 4 + m)) (nI f)) cd cv (nI c) (hC ck cf cd nF (nI (c * 40 + p * 4 + m)) (nI f)) = true))) (xU (fun E => E = "java/lang/IndexOutOfBoundsException" ∧ kNo nC nL ci pi mi fi)) 3 18 (fun _ => False) := by
  refine vx_ofW (cc := cX4_isSumOff) (maxL := 5) (ret := (some .boolean)) (by decide) rfl ?_
  intro p9 e9 s m9 args below meth c9 s₁ B hml hout hv
  obtain ⟨rfl, hg, hP⟩ := hv
  have hx := B.exec
  have hb := B.bytes
  have hr := B.returns
  have hts := atoms_spec (ws := wsX4_isSumOff) B.pre
  have hown : s.vm.findClass RX4 = some m9.cls := findClass_of_methodNamed B.named
  have hlocks := B.notSynchronized
  have hK := hg.1
  have w_0 := hts (.fieldLink RX4 32 "Dimfacts" "keyed" "LDimfacts$KeyedFacts;") (by decide +kernel)
  have win_X4 : ∀ w ∈ wsX40, w ∈ wsX4_isSumOff := by decide +kernel
  have hl := lv_entry ([.ref (a 0), .int ci, .int pi, .int mi, .int fi]) (n := 5) (Nat.le_of_ble_eq_true rfl)
  rw [lg_entry_eq]
  generalize (lg_sl ([.ref (a 0), .int ci, .int pi, .int mi, .int fi]) ++ List.replicate (5 - (lg_sl ([.ref (a 0), .int ci, .int pi, .int mi, .int fi])).length) Slot.unset).toArray = ls at hl ⊢
  have hl : lv_has ls 5 [(0, .ref (a 0)), (1, .int ci), (2, .int pi), (3, .int mi), (4, .int fi)] := hl
  refine lv_aload_n hx hb dX4_isSumOff_0 rfl (lv_at hl 0 rfl) ?_
  refine lv_iload_n hx hb dX4_isSumOff_1 rfl (lv_at hl 1 rfl) ?_
  refine lv_iload_n hx hb dX4_isSumOff_2 rfl (lv_at hl 2 rfl) ?_
  refine lv_iload_n hx hb dX4_isSumOff_3 rfl (lv_at hl 3 rfl) ?_
  refine g_cxv (vx_runV (As := [.int ci, .int pi, .int mi]) (rest := []) ⟨hx, hb, hml, hown, hts⟩ (c4_checkKey l D cI cZ cO cL dt A a FA nC nR nL nF par wt stk flw hd rea sig ck cf cd cv nx R ci pi mi hlt hC12 hL8) (cwV 3 hts gX4_isSumOff_X4_checkKey rfl rfl rfl (by decide +kernel) ⟨Nat.le_of_ble_eq_true rfl, Nat.le_of_ble_eq_true rfl⟩) (gP.v hg hP 3 rfl (0) (rfl) hP) rfl rfl hl.1 rfl (lv_room (Nat.le_of_ble_eq_true rfl)) dX4_isSumOff_4 ⟨Nat.le_of_ble_eq_true rfl, Nat.le_of_ble_eq_true rfl⟩) (fun E9 ce9 q9 H9 hE9 hz9 hk9 hc9 hv9 hf9 => g_outU hout hlocks (⟨hE9.1, fun q => hE9.2 q.1⟩) hz9 hk9 hc9 hv9 hf9 (fun _ h => nomatch h) (Nat.le_of_ble_eq_true rfl) (Nat.le_of_ble_eq_true rfl)) (fun hr_1 => ?_)
  refine W.widen (k := 2) (n := 12) (Nat.le_of_ble_eq_true rfl) (Nat.le_of_ble_eq_true rfl) ?_
  obtain ⟨⟨c1, rfl, hc1⟩, ⟨p1, rfl, hp1⟩, ⟨m1, rfl, hm1⟩⟩ := hr_1
  refine lv_aload_n hx hb dX4_isSumOff_7 rfl (lv_at hl 0 rfl) ?_
  refine lv_iload hx hb dX4_isSumOff_8 (lv_at hl 4 rfl) ?_
  refine g_cxv (vx_runV (As := [.int fi]) (rest := []) ⟨hx, hb, hml, hown, hts⟩ (c4_checkFiling l D cI cZ cO cL dt A a FA nC nR nL nF par wt stk flw hd rea sig ck cf cd cv nx R fi hlt hC12 hL8) (cwV 1 hts gX4_isSumOff_X4_checkFiling rfl rfl rfl (by decide +kernel) ⟨Nat.le_of_ble_eq_true rfl, Nat.le_of_ble_eq_true rfl⟩) (gP.v hg hP 3 rfl (0) (rfl) hP) rfl rfl hl.1 rfl (lv_room (Nat.le_of_ble_eq_true rfl)) dX4_isSumOff_10 ⟨Nat.le_of_ble_eq_true rfl, Nat.le_of_ble_eq_true rfl⟩) (fun E9 ce9 q9 H9 hE9 hz9 hk9 hc9 hv9 hf9 => g_outU hout hlocks (⟨hE9.1, fun q => hE9.2 q.2⟩) hz9 hk9 hc9 hv9 hf9 (fun _ h => nomatch h) (Nat.le_of_ble_eq_true rfl) (Nat.le_of_ble_eq_true rfl)) (fun hr_2 => ?_)
  refine W.widen (k := 3) (n := 18) (Nat.le_of_ble_eq_true rfl) (Nat.le_of_ble_eq_true rfl) ?_
  obtain ⟨f1, rfl, hf1⟩ := hr_2
  refine lv_aload_n hx hb dX4_isSumOff_13 rfl (lv_at hl 0 rfl) ?_
  refine lv_aload_n hx hb dX4_isSumOff_14 rfl (lv_at hl 0 rfl) ?_
  refine va_get (D := D) (ci := 3) (v := .ref (a 6)) (C := RX4) (T := TX4) (N := 11) hx hb hts win_X4 hown hK hP (0) (rfl) rfl 8 (by decide) w_0 (fun _ h9 => h9) rfl dX4_isSumOff_15 ?_
  refine lv_iload_n hx hb dX4_isSumOff_18 rfl (lv_at hl 1 rfl) ?_
  refine lv_iload_n hx hb dX4_isSumOff_19 rfl (lv_at hl 2 rfl) ?_
  refine lv_iload_n hx hb dX4_isSumOff_20 rfl (lv_at hl 3 rfl) ?_
  refine lv_iload hx hb dX4_isSumOff_21 (lv_at hl 4 rfl) ?_
  refine g_csi (va_runV (As := [.ref (a 6), .int (nI c1), .int (nI p1), .int (nI m1), .int (nI f1)]) (rest := []) ⟨hx, hb, hml, hown, hts⟩ (c4_sumFails_K l D cI cZ cO cL dt A a FA nC nR nL nF par wt stk flw hd rea sig ck cf cd cv nx R c1 p1 m1 (nI f1) hF hC12 hck hcf hcd hcv hwt hCh hc1 hp1 hm1) (cwV 5 hts gX4_isSumOff_X4_sumFails rfl rfl rfl (by decide +kernel) ⟨Nat.le_of_ble_eq_true rfl, Nat.le_of_ble_eq_true rfl⟩) (gP.v hg hP 3 rfl (0) (rfl) hP) rfl rfl hl.1 rfl (lv_room (Nat.le_of_ble_eq_true rfl)) dX4_isSumOff_23 ⟨Nat.le_of_ble_eq_true rfl, Nat.le_of_ble_eq_true rfl⟩) (fun r_3 hr_3 => ?_)
  obtain rfl : r_3 = bI (sumOff nC par wt (fun k => hC ck cf cd nF (nI (k * 40 + p1 * 4 + m1)) (nI f1)) cd cv (nI c1) (hC ck cf cd nF (nI (c1 * 40 + p1 * 4 + m1)) (nI f1)) = true) := hr_3
  exact vx_ret (W.widen (k := 3) (n := 18) (Nat.le_of_ble_eq_true rfl) (Nat.le_of_ble_eq_true rfl) (W.zret (v := bI (sumOff nC par wt (fun k => hC ck cf cd nF (nI (k * 40 + p1 * 4 + m1)) (nI f1)) cd cv (nI c1) (hC ck cf cd nF (nI (c1 * 40 + p1 * 4 + m1)) (nI f1)) = true)) hx hb hr (bI_nr _) (fun t ht hW => ⟨bI (sumOff nC par wt (fun k => hC ck cf cd nF (nI (k * 40 + p1 * 4 + m1)) (nI f1)) cd cv (nI c1) (hC ck cf cd nF (nI (c1 * 40 + p1 * 4 + m1)) (nI f1)) = true), rfl, ⟨c1, p1, m1, f1, ⟨⟨rfl, hc1⟩, ⟨rfl, hp1⟩, ⟨rfl, hm1⟩, ⟨rfl, hf1⟩⟩, rfl⟩, ht⟩) (fun q h => nomatch h) dX4_isSumOff_26))
set_option maxHeartbeats 4000000 in
set_option maxRecDepth 100000 in
/-- are members off -/
theorem c4_areMembersOff (l : Launch) (D : va_G) (cI cZ cO cL : ClassId) (dt : Nat) (A : Nat → Prop) (a FA : Nat → Nat) (nC nR nL nF : Nat) (par wt stk flw : Nat → Int32) (hd : Nat → Option Nat) (rea sig : Nat → Int32) (ck cf cd : Nat → Nat) (cv : Nat → Int32) (nx : Nat → Option Nat) (R : va_W) (ci pi fi : Int32) (hlt : l.stackTraces = false) (hF : nF ≤ 80) (hC12 : nC ≤ 12) (hck : ∀ k, ck k < 480) (hcf : ∀ k, cf k < 2 ^ 31) (hcd : ∀ k, cd k ≤ 4) (hcv : ∀ k, vOk (cv k)) (hwt : ∀ k, wOk (wt k)) (hCh : chOk ck cf cd hd nx nF) (hL8 : nL < 8) : vx_Met l yX4_areMembersOff wsX4_areMembersOff ({ frames := 8, cells := 3, slots := 18, locals := 134 } : Room) (gP D cI cZ cO cL dt A [.ref (a 0), .int ci, .int pi, .int fi] (fun H => va_P D vwCl (WD cI cO a FA nC nR nL nF par wt stk flw hd rea sig ++ (WF FA ck cf cd cv nx nF ++ R)) H)) (vp_Si (fun r => ∃ c p f : Nat, kV nC nL ci pi 0 fi c p 0 f ∧ r = bI (memOff (fun q => hC ck cf cd nF (nI (c * 40 + p * 4 + q)) (nI f)) cd cv = true))) (xU (fun E => E = "java/lang/IndexOutOfBoundsException" ∧ kNo nC nL ci pi 0 fi)) 3 18 (fun _ => False) := by
  refine vx_ofW (cc := cX4_areMembersOff) (maxL := 4) (ret := (some .boolean)) (by decide) rfl ?_
  intro p9 e9 s m9 args below meth c9 s₁ B hml hout hv
  obtain ⟨rfl, hg, hP⟩ := hv
  have hx := B.exec
  have hb := B.bytes
  have hr := B.returns
  have hts := atoms_spec (ws := wsX4_areMembersOff) B.pre
  have hown : s.vm.findClass RX4 = some m9.cls := findClass_of_methodNamed B.named
  have hlocks := B.notSynchronized
  have hK := hg.1
  have w_0 := hts (.fieldLink RX4 32 "Dimfacts" "keyed" "LDimfacts$KeyedFacts;") (by decide +kernel)
  have win_X4 : ∀ w ∈ wsX40, w ∈ wsX4_areMembersOff := by decide +kernel
  have hl := lv_entry ([.ref (a 0), .int ci, .int pi, .int fi]) (n := 4) (Nat.le_of_ble_eq_true rfl)
  rw [lg_entry_eq]
  generalize (lg_sl ([.ref (a 0), .int ci, .int pi, .int fi]) ++ List.replicate (4 - (lg_sl ([.ref (a 0), .int ci, .int pi, .int fi])).length) Slot.unset).toArray = ls at hl ⊢
  have hl : lv_has ls 4 [(0, .ref (a 0)), (1, .int ci), (2, .int pi), (3, .int fi)] := hl
  refine lv_aload_n hx hb dX4_areMembersOff_0 rfl (lv_at hl 0 rfl) ?_
  refine lv_iload_n hx hb dX4_areMembersOff_1 rfl (lv_at hl 1 rfl) ?_
  refine lv_iload_n hx hb dX4_areMembersOff_2 rfl (lv_at hl 2 rfl) ?_
  refine lv_iconst (v := 0) hx hb dX4_areMembersOff_3 (by decide) ?_
  refine g_cxv (vx_runV (As := [.int ci, .int pi, .int 0]) (rest := []) ⟨hx, hb, hml, hown, hts⟩ (c4_checkKey l D cI cZ cO cL dt A a FA nC nR nL nF par wt stk flw hd rea sig ck cf cd cv nx R ci pi 0 hlt hC12 hL8) (cwV 3 hts gX4_areMembersOff_X4_checkKey rfl rfl rfl (by decide +kernel) ⟨Nat.le_of_ble_eq_true rfl, Nat.le_of_ble_eq_true rfl⟩) (gP.v hg hP 3 rfl (0) (rfl) hP) rfl rfl hl.1 rfl (lv_room (Nat.le_of_ble_eq_true rfl)) dX4_areMembersOff_4 ⟨Nat.le_of_ble_eq_true rfl, Nat.le_of_ble_eq_true rfl⟩) (fun E9 ce9 q9 H9 hE9 hz9 hk9 hc9 hv9 hf9 => g_outU hout hlocks (⟨hE9.1, fun q => hE9.2 q.1⟩) hz9 hk9 hc9 hv9 hf9 (fun _ h => nomatch h) (Nat.le_of_ble_eq_true rfl) (Nat.le_of_ble_eq_true rfl)) (fun hr_1 => ?_)
  refine W.widen (k := 2) (n := 12) (Nat.le_of_ble_eq_true rfl) (Nat.le_of_ble_eq_true rfl) ?_
  obtain ⟨⟨c1, rfl, hc1⟩, ⟨p1, rfl, hp1⟩, -⟩ := hr_1
  refine lv_aload_n hx hb dX4_areMembersOff_7 rfl (lv_at hl 0 rfl) ?_
  refine lv_iload_n hx hb dX4_areMembersOff_8 rfl (lv_at hl 3 rfl) ?_
  refine g_cxv (vx_runV (As := [.int fi]) (rest := []) ⟨hx, hb, hml, hown, hts⟩ (c4_checkFiling l D cI cZ cO cL dt A a FA nC nR nL nF par wt stk flw hd rea sig ck cf cd cv nx R fi hlt hC12 hL8) (cwV 1 hts gX4_areMembersOff_X4_checkFiling rfl rfl rfl (by decide +kernel) ⟨Nat.le_of_ble_eq_true rfl, Nat.le_of_ble_eq_true rfl⟩) (gP.v hg hP 3 rfl (0) (rfl) hP) rfl rfl hl.1 rfl (lv_room (Nat.le_of_ble_eq_true rfl)) dX4_areMembersOff_9 ⟨Nat.le_of_ble_eq_true rfl, Nat.le_of_ble_eq_true rfl⟩) (fun E9 ce9 q9 H9 hE9 hz9 hk9 hc9 hv9 hf9 => g_outU hout hlocks (⟨hE9.1, fun q => hE9.2 q.2⟩) hz9 hk9 hc9 hv9 hf9 (fun _ h => nomatch h) (Nat.le_of_ble_eq_true rfl) (Nat.le_of_ble_eq_true rfl)) (fun hr_2 => ?_)
  refine W.widen (k := 3) (n := 18) (Nat.le_of_ble_eq_true rfl) (Nat.le_of_ble_eq_true rfl) ?_
  obtain ⟨f1, rfl, hf1⟩ := hr_2
  refine lv_aload_n hx hb dX4_areMembersOff_12 rfl (lv_at hl 0 rfl) ?_
  refine va_get (D := D) (ci := 3) (v := .ref (a 6)) (C := RX4) (T := TX4) (N := 11) hx hb hts win_X4 hown hK hP (0) (rfl) rfl 8 (by decide) w_0 (fun _ h9 => h9) rfl dX4_areMembersOff_13 ?_
  refine lv_iload_n hx hb dX4_areMembersOff_16 rfl (lv_at hl 1 rfl) ?_
  refine lv_iload_n hx hb dX4_areMembersOff_17 rfl (lv_at hl 2 rfl) ?_
  refine lv_iload_n hx hb dX4_areMembersOff_18 rfl (lv_at hl 3 rfl) ?_
  refine g_csi (va_runS (As := [.ref (a 6), .int (nI c1), .int (nI p1), .int (nI f1)]) (rest := []) ⟨hx, hb, hml, hown, hts⟩ (c4_membersFail_K l D cI cZ cO cL dt A a FA nC nR nL nF par wt stk flw hd rea sig ck cf cd cv nx R c1 p1 (nI f1) hF hC12 hck hcf hcd hcv hwt hCh hc1 hp1) (va_cwS 4 hts gX4_areMembersOff_X4_membersFail rfl rfl rfl (by decide +kernel) ⟨Nat.le_of_ble_eq_true rfl, Nat.le_of_ble_eq_true rfl⟩) (gP.s hg hP) rfl rfl hl.1 rfl (lv_room (Nat.le_of_ble_eq_true rfl)) dX4_areMembersOff_19 ⟨Nat.le_of_ble_eq_true rfl, Nat.le_of_ble_eq_true rfl⟩) (fun r_3 hr_3 => ?_)
  obtain rfl : r_3 = bI (memOff (fun q => hC ck cf cd nF (nI (c1 * 40 + p1 * 4 + q)) (nI f1)) cd cv = true) := hr_3
  exact vx_ret (W.widen (k := 3) (n := 18) (Nat.le_of_ble_eq_true rfl) (Nat.le_of_ble_eq_true rfl) (W.zret (v := bI (memOff (fun q => hC ck cf cd nF (nI (c1 * 40 + p1 * 4 + q)) (nI f1)) cd cv = true)) hx hb hr (bI_nr _) (fun t ht hW => ⟨bI (memOff (fun q => hC ck cf cd nF (nI (c1 * 40 + p1 * 4 + q)) (nI f1)) cd cv = true), rfl, ⟨c1, p1, f1, ⟨⟨rfl, hc1⟩, ⟨rfl, hp1⟩, ⟨rfl, by decide⟩, ⟨rfl, hf1⟩⟩, rfl⟩, ht⟩) (fun q h => nomatch h) dX4_areMembersOff_22))
set_option maxHeartbeats 4000000 in
set_option maxRecDepth 100000 in
/-- is a roll off -/
theorem c4_isRollOff (l : Launch) (D : va_G) (cI cZ cO cL : ClassId) (dt : Nat) (A : Nat → Prop) (a FA : Nat → Nat) (nC nR nL nF : Nat) (par wt stk flw : Nat → Int32) (hd : Nat → Option Nat) (rea sig : Nat → Int32) (ck cf cd : Nat → Nat) (cv : Nat → Int32) (nx : Nat → Option Nat) (R : va_W) (sk fk : Nat → Nat) (ri pi mi fi : Int32) (hlt : l.stackTraces = false) (hF : nF ≤ 80) (hC12 : nC ≤ 12) (hck : ∀ k, ck k < 480) (hcf : ∀ k, cf k < 2 ^ 31) (hcd : ∀ k, cd k ≤ 4) (hcv : ∀ k, vOk (cv k)) (hwt : ∀ k, wOk (wt k)) (hCh : chOk ck cf cd hd nx nF) (hL8 : nL < 8) (hR : nR ≤ 5) (hsk : ∀ r, stk r = nI (sk r)) (hfk : ∀ r, flw r = nI (fk r)) (hsk12 : ∀ r, sk r < 12) (hfk12 : ∀ r, fk r < 12) : vx_Met l yX4_isRollOff wsX4_isRollOff ({ frames := 7, cells := 2, slots := 12, locals := 111 } : Room) (gP D cI cZ cO cL dt A [.ref (a 0), .int ri, .int pi, .int mi, .int fi] (fun H => va_P D vwCl (WD cI cO a FA nC nR nL nF par wt stk flw hd rea sig ++ (WF FA ck cf cd cv nx nF ++ R)) H)) (vp_Si (fun z => ∃ r p m f : Nat, kV nR nL ri pi mi fi r p m f ∧ z = bI (rollOff (nI p) (hC ck cf cd nF (nI ((sk r) * 40 + p * 4 + m)) (nI f)) (hC ck cf cd nF (nI ((sk r) * 40 + (p - 1) * 4 + m)) (nI f)) (hC ck cf cd nF (nI ((fk r) * 40 + p * 4 + m)) (nI f)) cd cv = true))) (xU (fun E => E = "java/lang/IndexOutOfBoundsException" ∧ kNo nR nL ri pi mi fi)) 2 12 (fun _ => False) := by
  refine vx_ofW (cc := cX4_isRollOff) (maxL := 5) (ret := (some .boolean)) (by decide) rfl ?_
  intro p9 e9 s m9 args below meth c9 s₁ B hml hout hv
  obtain ⟨rfl, hg, hP⟩ := hv
  have hx := B.exec
  have hb := B.bytes
  have hr := B.returns
  have hts := atoms_spec (ws := wsX4_isRollOff) B.pre
  have hown : s.vm.findClass RX4 = some m9.cls := findClass_of_methodNamed B.named
  have hlocks := B.notSynchronized
  have hK := hg.1
  have w_0 := hts (.classLink RX4 166 "java/lang/IndexOutOfBoundsException") (by decide +kernel)
  have w_1 := hts (.initialized "java/lang/IndexOutOfBoundsException") (by decide +kernel)
  have hat_2 : ∀ w ∈ (vx_atS RX4 170 "java/lang/IndexOutOfBoundsException" gUp).filter goodWord, w.before _ s = true := fun w h => hts w (List.mem_cons_of_mem _ (List.mem_append_right _ h))
  have w_3 := hts (.fieldLink RX4 68 "Dimfacts" "ruleCount" "I") (by decide +kernel)
  have win_X4 : ∀ w ∈ wsX40, w ∈ wsX4_isRollOff := by decide +kernel
  have w_5 := hts (.fieldLink RX4 32 "Dimfacts" "keyed" "LDimfacts$KeyedFacts;") (by decide +kernel)
  have hl := lv_entry ([.ref (a 0), .int ri, .int pi, .int mi, .int fi]) (n := 5) (Nat.le_of_ble_eq_true rfl)
  rw [lg_entry_eq]
  generalize (lg_sl ([.ref (a 0), .int ri, .int pi, .int mi, .int fi]) ++ List.replicate (5 - (lg_sl ([.ref (a 0), .int ri, .int pi, .int mi, .int fi])).length) Slot.unset).toArray = ls at hl ⊢
  have hl : lv_has ls 5 [(0, .ref (a 0)), (1, .int ri), (2, .int pi), (3, .int mi), (4, .int fi)] := hl
  refine lv_iload_n hx hb dX4_isRollOff_0 rfl (lv_at hl 1 rfl) ?_
  refine lv_if_lt (tgt := 12) hx hb dX4_isRollOff_1 (by decide) (fun c_1 => ?_) (fun c_1 => ?_)
  · skip
    exact g_throw (D := D) (cI := cI) (cZ := cZ) (cO := cO) (cL := cL) (dt := dt) (A := A) (text := "no such rule") hx hb hlt hown (by decide +kernel) w_0 w_1 (by decide +kernel) hg hat_2 gE_at2 hg.2.1.2.2.2.2.2.2.2.2.1 gE_ot2 (hl.1.trans hml.symm) dX4_isRollOff_12 dX4_isRollOff_15 dX4_isRollOff_16 dX4_isRollOff_18 dX4_isRollOff_21 hout (Nat.le_of_ble_eq_true rfl) (Nat.le_of_ble_eq_true rfl) (Nat.le_of_ble_eq_true rfl) (Nat.le_of_ble_eq_true rfl) hlocks (⟨rfl, fun q => by first | exact cOk_neg c_1 (by omega) q.1.1 | exact cOk_ge c_9 (by omega) q.1.1⟩) (Nat.le_of_ble_eq_true rfl) (Nat.le_of_ble_eq_true rfl)
  · skip
    refine lv_iload_n hx hb dX4_isRollOff_4 rfl (lv_at hl 1 rfl) ?_
    refine lv_aload_n hx hb dX4_isRollOff_5 rfl (lv_at hl 0 rfl) ?_
    refine va_get (D := D) (ci := 3) (v := .int (nI nR)) (C := RX4) (T := TX4) (N := 11) hx hb hts win_X4 hown hK hP (0) (rfl) rfl 5 (by decide) w_3 (fun _ h9 => h9) rfl dX4_isRollOff_6 ?_
    refine lv_icmp_lt (tgt := 22) hx hb dX4_isRollOff_9 (by decide) (fun c_9 => ?_) (fun c_9 => ?_)
    · skip
      obtain ⟨r1, rfl, hr1⟩ := cOk_of c_1 c_9 (by omega)
      refine lv_iload_n hx hb dX4_isRollOff_22 rfl (lv_at hl 2 rfl) ?_
      refine lv_iload_n hx hb dX4_isRollOff_23 rfl (lv_at hl 3 rfl) ?_
      refine g_cxv (vx_runS (As := [.int pi, .int mi]) (rest := []) ⟨hx, hb, hml, hown, hts⟩ (c4_checkPM l D cI cZ cO cL dt A pi mi (WD cI cO a FA nC nR nL nF par wt stk flw hd rea sig ++ (WF FA ck cf cd cv nx nF ++ R)) hlt) (va_cwS 2 hts gX4_isRollOff_X4_checkPeriodAndMember rfl rfl rfl (by decide +kernel) ⟨Nat.le_of_ble_eq_true rfl, Nat.le_of_ble_eq_true rfl⟩) (gP.s hg hP) rfl rfl hl.1 rfl (lv_room (Nat.le_of_ble_eq_true rfl)) dX4_isRollOff_24 ⟨Nat.le_of_ble_eq_true rfl, Nat.le_of_ble_eq_true rfl⟩) (fun E9 ce9 q9 H9 hE9 hz9 hk9 hc9 hv9 hf9 => g_outU hout hlocks (⟨hE9.1, fun q => hE9.2 ⟨q.1.2.1, q.1.2.2⟩⟩) hz9 hk9 hc9 hv9 hf9 (fun _ h => nomatch h) (Nat.le_of_ble_eq_true rfl) (Nat.le_of_ble_eq_true rfl)) (fun hr_2 => ?_)
      refine W.widen (k := 1) (n := 6) (Nat.le_of_ble_eq_true rfl) (Nat.le_of_ble_eq_true rfl) ?_
      obtain ⟨⟨p1, rfl, hp1⟩, ⟨m1, rfl, hm1⟩⟩ := hr_2
      refine lv_aload_n hx hb dX4_isRollOff_27 rfl (lv_at hl 0 rfl) ?_
      refine lv_iload hx hb dX4_isRollOff_28 (lv_at hl 4 rfl) ?_
      refine g_cxv (vx_runV (As := [.int fi]) (rest := []) ⟨hx, hb, hml, hown, hts⟩ (c4_checkFiling l D cI cZ cO cL dt A a FA nC nR nL nF par wt stk flw hd rea sig ck cf cd cv nx R fi hlt hC12 hL8) (cwV 1 hts gX4_isRollOff_X4_checkFiling rfl rfl rfl (by decide +kernel) ⟨Nat.le_of_ble_eq_true rfl, Nat.le_of_ble_eq_true rfl⟩) (gP.v hg hP 3 rfl (0) (rfl) hP) rfl rfl hl.1 rfl (lv_room (Nat.le_of_ble_eq_true rfl)) dX4_isRollOff_30 ⟨Nat.le_of_ble_eq_true rfl, Nat.le_of_ble_eq_true rfl⟩) (fun E9 ce9 q9 H9 hE9 hz9 hk9 hc9 hv9 hf9 => g_outU hout hlocks (⟨hE9.1, fun q => hE9.2 q.2⟩) hz9 hk9 hc9 hv9 hf9 (fun _ h => nomatch h) (Nat.le_of_ble_eq_true rfl) (Nat.le_of_ble_eq_true rfl)) (fun hr_3 => ?_)
      refine W.widen (k := 2) (n := 12) (Nat.le_of_ble_eq_true rfl) (Nat.le_of_ble_eq_true rfl) ?_
      obtain ⟨f1, rfl, hf1⟩ := hr_3
      refine lv_aload_n hx hb dX4_isRollOff_33 rfl (lv_at hl 0 rfl) ?_
      refine lv_aload_n hx hb dX4_isRollOff_34 rfl (lv_at hl 0 rfl) ?_
      refine va_get (D := D) (ci := 3) (v := .ref (a 6)) (C := RX4) (T := TX4) (N := 11) hx hb hts win_X4 hown hK hP (0) (rfl) rfl 8 (by decide) w_5 (fun _ h9 => h9) rfl dX4_isRollOff_35 ?_
      refine lv_iload_n hx hb dX4_isRollOff_38 rfl (lv_at hl 1 rfl) ?_
      refine lv_iload_n hx hb dX4_isRollOff_39 rfl (lv_at hl 2 rfl) ?_
      refine lv_iload_n hx hb dX4_isRollOff_40 rfl (lv_at hl 3 rfl) ?_
      refine lv_iload hx hb dX4_isRollOff_41 (lv_at hl 4 rfl) ?_
      refine g_csi (va_runV (As := [.ref (a 6), .int (nI r1), .int (nI p1), .int (nI m1), .int (nI f1)]) (rest := []) ⟨hx, hb, hml, hown, hts⟩ (c4_rollFails_K l D cI cZ cO cL dt A a FA nC nR nL nF par wt stk flw hd rea sig ck cf cd cv nx R r1 (sk r1) (fk r1) p1 m1 (nI f1) hF hC12 hck hcf hcd hcv hwt hCh (by omega) (hsk r1) (hfk r1) (hsk12 r1) (hfk12 r1) hp1 hm1) (cwV 5 hts gX4_isRollOff_X4_rollFails rfl rfl rfl (by decide +kernel) ⟨Nat.le_of_ble_eq_true rfl, Nat.le_of_ble_eq_true rfl⟩) (gP.v hg hP 3 rfl (0) (rfl) hP) rfl rfl hl.1 rfl (lv_room (Nat.le_of_ble_eq_true rfl)) dX4_isRollOff_43 ⟨Nat.le_of_ble_eq_true rfl, Nat.le_of_ble_eq_true rfl⟩) (fun r_4 hr_4 => ?_)
      obtain rfl : r_4 = bI (rollOff (nI p1) (hC ck cf cd nF (nI ((sk r1) * 40 + p1 * 4 + m1)) (nI f1)) (hC ck cf cd nF (nI ((sk r1) * 40 + (p1 - 1) * 4 + m1)) (nI f1)) (hC ck cf cd nF (nI ((fk r1) * 40 + p1 * 4 + m1)) (nI f1)) cd cv = true) := hr_4
      exact vx_ret (W.widen (k := 2) (n := 12) (Nat.le_of_ble_eq_true rfl) (Nat.le_of_ble_eq_true rfl) (W.zret (v := bI (rollOff (nI p1) (hC ck cf cd nF (nI ((sk r1) * 40 + p1 * 4 + m1)) (nI f1)) (hC ck cf cd nF (nI ((sk r1) * 40 + (p1 - 1) * 4 + m1)) (nI f1)) (hC ck cf cd nF (nI ((fk r1) * 40 + p1 * 4 + m1)) (nI f1)) cd cv = true)) hx hb hr (bI_nr _) (fun t ht hW => ⟨bI (rollOff (nI p1) (hC ck cf cd nF (nI ((sk r1) * 40 + p1 * 4 + m1)) (nI f1)) (hC ck cf cd nF (nI ((sk r1) * 40 + (p1 - 1) * 4 + m1)) (nI f1)) (hC ck cf cd nF (nI ((fk r1) * 40 + p1 * 4 + m1)) (nI f1)) cd cv = true), rfl, ⟨r1, p1, m1, f1, ⟨⟨rfl, hr1⟩, ⟨rfl, hp1⟩, ⟨rfl, hm1⟩, ⟨rfl, hf1⟩⟩, rfl⟩, ht⟩) (fun q h => nomatch h) dX4_isRollOff_46))
    · skip
      exact g_throw (D := D) (cI := cI) (cZ := cZ) (cO := cO) (cL := cL) (dt := dt) (A := A) (text := "no such rule") hx hb hlt hown (by decide +kernel) w_0 w_1 (by decide +kernel) hg hat_2 gE_at2 hg.2.1.2.2.2.2.2.2.2.2.1 gE_ot2 (hl.1.trans hml.symm) dX4_isRollOff_12 dX4_isRollOff_15 dX4_isRollOff_16 dX4_isRollOff_18 dX4_isRollOff_21 hout (Nat.le_of_ble_eq_true rfl) (Nat.le_of_ble_eq_true rfl) (Nat.le_of_ble_eq_true rfl) (Nat.le_of_ble_eq_true rfl) hlocks (⟨rfl, fun q => by first | exact cOk_neg c_1 (by omega) q.1.1 | exact cOk_ge c_9 (by omega) q.1.1⟩) (Nat.le_of_ble_eq_true rfl) (Nat.le_of_ble_eq_true rfl)
set_option maxHeartbeats 4000000 in
set_option maxRecDepth 100000 in
/-- disagreements -/
theorem c4_disagreements (l : Launch) (D : va_G) (cI cZ cO cL : ClassId) (dt : Nat) (A : Nat → Prop) (a FA : Nat → Nat) (nC nR nL nF : Nat) (par wt stk flw : Nat → Int32) (hd : Nat → Option Nat) (rea sig : Nat → Int32) (ck cf cd : Nat → Nat) (cv : Nat → Int32) (nx : Nat → Option Nat) (R : va_W) (fi : Int32) (hlt : l.stackTraces = false) (hF : nF ≤ 80) (hC12 : nC ≤ 12) (hck : ∀ k, ck k < 480) (hcf : ∀ k, cf k < 2 ^ 31) (hcd : ∀ k, cd k ≤ 4) (hcv : ∀ k, vOk (cv k)) (hwt : ∀ k, wOk (wt k)) (hCh : chOk ck cf cd hd nx nF) (hL8 : nL < 8) : vx_Met l yX4_disagreements wsX4_disagreements ({ frames := 7, cells := 1, slots := 6, locals := 111 } : Room) (gP D cI cZ cO cL dt A [.ref (a 0), .int fi] (fun H => va_P D vwCl (WD cI cO a FA nC nR nL nF par wt stk flw hd rea sig ++ (WF FA ck cf cd cv nx nF ++ R)) H)) (vp_Si (fun r => ∃ f : Nat, (fi = nI f ∧ f < nL + 1) ∧ r = sT (fun k => if nI (cf k) = nI f then sT (fun j => bI (nI (cf k) = nI (cf j) ∧ nI (ck k) = nI (ck j) ∧ nI (10 ^ cd k) + nI (10 ^ cd j) < 2 * farI (cv k) (cv j))) k else 0) nF)) (xU (fun E => E = "java/lang/IndexOutOfBoundsException" ∧ ¬ cOk (nL + 1) fi)) 1 6 (fun _ => False) := by
  refine vx_ofW (cc := cX4_disagreements) (maxL := 5) (ret := (some .int)) (by decide) rfl ?_
  intro p9 e9 s m9 args below meth c9 s₁ B hml hout hv
  obtain ⟨rfl, hg, hP⟩ := hv
  have hx := B.exec
  have hb := B.bytes
  have hr := B.returns
  have hts := atoms_spec (ws := wsX4_disagreements) B.pre
  have hown : s.vm.findClass RX4 = some m9.cls := findClass_of_methodNamed B.named
  have hlocks := B.notSynchronized
  have hK := hg.1
  have w_0 := hts (.fieldLink RX4 25 "Dimfacts" "listed" "LDimfacts$ListedFacts;") (by decide +kernel)
  have win_X4 : ∀ w ∈ wsX40, w ∈ wsX4_disagreements := by decide +kernel
  have w_2 := hts (.fieldLink RX4 111 "Dimfacts$ListedFacts" "count" "I") (by decide +kernel)
  have win_X3 : ∀ w ∈ wsX30, w ∈ wsX4_disagreements := by decide +kernel
  have w_4 := hts (.fieldLink RX4 117 "Dimfacts$ListedFacts" "facts" "[LDimfacts$Fact;") (by decide +kernel)
  have w_5 := hts (.fieldLink RX4 121 "Dimfacts$Fact" "filing" "I") (by decide +kernel)
  have win_X0 : ∀ w ∈ wsX00, w ∈ wsX4_disagreements := by decide +kernel
  have hl := lv_entry ([.ref (a 0), .int fi]) (n := 5) (Nat.le_of_ble_eq_true rfl)
  rw [lg_entry_eq]
  generalize (lg_sl ([.ref (a 0), .int fi]) ++ List.replicate (5 - (lg_sl ([.ref (a 0), .int fi])).length) Slot.unset).toArray = ls at hl ⊢
  have hl : lv_has ls 5 [(0, .ref (a 0)), (1, .int fi)] := hl
  refine lv_aload_n hx hb dX4_disagreements_0 rfl (lv_at hl 0 rfl) ?_
  refine lv_iload_n hx hb dX4_disagreements_1 rfl (lv_at hl 1 rfl) ?_
  refine g_cxv (vx_runV (As := [.int fi]) (rest := []) ⟨hx, hb, hml, hown, hts⟩ (c4_checkFiling l D cI cZ cO cL dt A a FA nC nR nL nF par wt stk flw hd rea sig ck cf cd cv nx R fi hlt hC12 hL8) (cwV 1 hts gX4_disagreements_X4_checkFiling rfl rfl rfl (by decide +kernel) ⟨Nat.le_of_ble_eq_true rfl, Nat.le_of_ble_eq_true rfl⟩) (gP.v hg hP 3 rfl (0) (rfl) hP) rfl rfl hl.1 rfl (lv_room (Nat.le_of_ble_eq_true rfl)) dX4_disagreements_2 ⟨Nat.le_of_ble_eq_true rfl, Nat.le_of_ble_eq_true rfl⟩) (fun E9 ce9 q9 H9 hE9 hz9 hk9 hc9 hv9 hf9 => g_outU hout hlocks hE9 hz9 hk9 hc9 hv9 hf9 (fun _ h => nomatch h) (Nat.le_of_ble_eq_true rfl) (Nat.le_of_ble_eq_true rfl)) (fun hr_1 => ?_)
  refine W.widen (k := 1) (n := 6) (Nat.le_of_ble_eq_true rfl) (Nat.le_of_ble_eq_true rfl) ?_
  obtain ⟨f1, rfl, hf1⟩ := hr_1
  refine lv_iconst (v := 0) hx hb dX4_disagreements_5 (by decide) ?_
  refine lv_istore_n (lv' := [(2, .int 0), (0, .ref (a 0)), (1, .int (nI f1))]) hx hb dX4_disagreements_6 rfl hl (by decide) rfl (fun ls hl => ?_)
  refine lv_iconst (v := 0) hx hb dX4_disagreements_7 (by decide) ?_
  refine lv_istore_n (lv' := [(3, .int 0), (2, .int 0), (0, .ref (a 0)), (1, .int (nI f1))]) hx hb dX4_disagreements_8 rfl hl (by decide) rfl (fun ls hl => ?_)
  have lp9 : ∀ (n9 k : Nat)  (x2 : Int32), nF < k + n9 → k ≤ nF → x2 = sT (fun k => if nI (cf k) = nI f1 then sT (fun j => bI (nI (cf k) = nI (cf j) ∧ nI (ck k) = nI (ck j) ∧ nI (10 ^ cd k) + nI (10 ^ cd j) < 2 * farI (cv k) (cv j))) k else 0) k → ∀ ls : Array Slot, lv_has ls 5 [(3, .int (nI k)), (2, .int x2), (1, .int (nI f1)), (0, .ref (a 0))] → W p9 l e9 (headSpec wsX4_disagreements ({ frames := 7, cells := 1, slots := 6, locals := 111 } : Room)).room s m9 ([.ref (a 0), .int (nI f1)] : List Value).toArray below meth c9 s.heap [] 1 6 (vx_MQ below (vp_Si (fun r => ∃ f : Nat, ((nI f1) = nI f ∧ f < nL + 1) ∧ r = sT (fun k => if nI (cf k) = nI f then sT (fun j => bI (nI (cf k) = nI (cf j) ∧ nI (ck k) = nI (ck j) ∧ nI (10 ^ cd k) + nI (10 ^ cd j) < 2 * farI (cv k) (cv j))) k else 0) nF)) (xU (fun E => E = "java/lang/IndexOutOfBoundsException" ∧ ¬ cOk (nL + 1) (nI f1))) ([.ref (a 0), .int (nI f1)] : List Value).toArray s 1 6 (fun _ => False)) (F0 m9 9 ls []) := by
    intro n9
    induction n9 with
    | zero => intro k  x2 h1 h2; exact absurd h1 (by omega)
    | succ n9 ih9 =>
      intro k  x2 hn9 hk9 e9_2  ls hl
      refine lv_iload_n hx hb dX4_disagreements_9 rfl (lv_at hl 0 rfl) ?_
      refine lv_aload_n hx hb dX4_disagreements_10 rfl (lv_at hl 3 rfl) ?_
      refine va_get (D := D) (ci := 3) (v := .ref (a 5)) (C := RX4) (T := TX4) (N := 11) hx hb hts win_X4 hown hK hP (0) (rfl) rfl 7 (by decide) w_0 (fun _ h9 => h9) rfl dX4_disagreements_11 ?_
      refine va_get (D := D) (ci := 2) (v := .int (nI nF)) (C := RX3) (T := TX3) (N := 2) hx hb hts win_X3 hown hK hP (5) (rfl) rfl 1 (by decide) w_2 (fun _ h9 => h9) rfl dX4_disagreements_14 ?_
      refine lv_icmp_ge (tgt := 64) hx hb dX4_disagreements_17 (by decide) (fun c_17 => ?_) (fun c_17 => ?_)
      · skip
        have hkF : k = nF := by have := (nI_leI (a := nF) (b := k) (by omega) (by omega)).mp c_17; omega
        rw [hkF] at e9_2
        refine lv_iload_n hx hb dX4_disagreements_64 rfl (lv_at hl 1 rfl) ?_
        exact vx_ret (W.widen (k := 1) (n := 6) (Nat.le_of_ble_eq_true rfl) (Nat.le_of_ble_eq_true rfl) (W.iret (v := x2) hx hb hr (fun t ht hW => ⟨x2, rfl, ⟨f1, ⟨rfl, hf1⟩, e9_2⟩, ht⟩) (fun q h => nomatch h) dX4_disagreements_65))
      · skip
        have hkF : k < nF := by have := mt (nI_leI (a := nF) (b := k) (by omega) (by omega)).mpr c_17; omega
        refine lv_aload_n hx hb dX4_disagreements_20 rfl (lv_at hl 3 rfl) ?_
        refine va_get (D := D) (ci := 3) (v := .ref (a 5)) (C := RX4) (T := TX4) (N := 11) hx hb hts win_X4 hown hK hP (0) (rfl) rfl 7 (by decide) w_0 (fun _ h9 => h9) rfl dX4_disagreements_21 ?_
        refine va_get (D := D) (ci := 2) (v := .ref (a 9)) (C := RX3) (T := TX3) (N := 2) hx hb hts win_X3 hown hK hP (5) (rfl) rfl 0 (by decide) w_4 (fun _ h9 => h9) rfl dX4_disagreements_24 ?_
        refine lv_iload_n hx hb dX4_disagreements_27 rfl (lv_at hl 0 rfl) ?_
        refine g_aalds hx hb hK hP (9) 2 (n := 80) (f := (fun k => if k < nF then some (FA k) else none)) (rfl) rfl k (FA k) (if_pos (by omega)) rfl (by omega) (by decide) dX4_disagreements_28 ?_
        refine lv_astore (lv' := [(4, .ref (FA k)), (3, .int (nI k)), (2, .int x2), (1, .int (nI f1)), (0, .ref (a 0))]) hx hb dX4_disagreements_29 hl (by decide) rfl (fun ls hl => ?_)
        refine lv_aload hx hb dX4_disagreements_31 (lv_at hl 0 rfl) ?_
        refine lv_ifnull hx hb dX4_disagreements_33 ?_
        refine lv_aload hx hb dX4_disagreements_36 (lv_at hl 0 rfl) ?_
        refine va_get (D := D) (ci := 0) (v := .int (nI (cf k))) (C := RX0) (T := TX0) (N := 5) hx hb hts win_X0 hown hK hP (11 + k) (WDF_at (by omega)) rfl 1 (by decide) w_5 (fun _ h9 => h9) rfl dX4_disagreements_38 ?_
        refine lv_iload_n hx hb dX4_disagreements_41 rfl (lv_at hl 3 rfl) ?_
        refine lv_icmp_ne (tgt := 58) hx hb dX4_disagreements_42 (by decide) (fun c_42 => ?_) (fun c_42 => ?_)
        · skip
          refine lv_iinc (v := nI (k + 1)) (lv' := [(3, .int (nI (k + 1))), (4, .ref (FA k)), (2, .int x2), (1, .int (nI f1)), (0, .ref (a 0))]) hx hb dX4_disagreements_58 hl (k := 1) rfl (nI_1 k) (by decide) rfl (fun ls hl => ?_)
          refine lv_goto (tgt := 9) hx hb dX4_disagreements_61 (by decide) ?_
          exact ih9 (k + 1)  x2 (by omega) (by omega) (by show _ = sT _ k + (if nI (cf k) = nI f1 then _ else 0); first | rw [e9_2, if_pos c_42] | (rw [e9_2, if_neg c_42]; exact (Int32.add_zero _).symm))  _ (lv_sub hl [0, 2, 3, 4] rfl)
        · skip
          refine lv_iload_n hx hb dX4_disagreements_45 rfl (lv_at hl 2 rfl) ?_
          refine lv_aload_n hx hb dX4_disagreements_46 rfl (lv_at hl 4 rfl) ?_
          refine va_get (D := D) (ci := 3) (v := .ref (a 5)) (C := RX4) (T := TX4) (N := 11) hx hb hts win_X4 hown hK hP (0) (rfl) rfl 7 (by decide) w_0 (fun _ h9 => h9) rfl dX4_disagreements_47 ?_
          refine lv_aload hx hb dX4_disagreements_50 (lv_at hl 0 rfl) ?_
          refine lv_iload_n hx hb dX4_disagreements_52 rfl (lv_at hl 1 rfl) ?_
          refine g_csi (va_runV (As := [.ref (FA k), .int (nI k)]) (rest := [.int x2]) ⟨hx, hb, hml, hown, hts⟩ (c3_countAgainst l D cI cZ cO cL dt A a FA nC nR nL nF par wt stk flw hd rea sig ck cf cd cv nx R k k (by omega) (by omega) hF hcv) (cwV 2 hts gX4_disagreements_X3_countAgainst rfl rfl rfl (by decide +kernel) ⟨Nat.le_of_ble_eq_true rfl, Nat.le_of_ble_eq_true rfl⟩) (gP.v hg hP 2 rfl (5) (rfl) hP) rfl rfl hl.1 rfl (lv_room (Nat.le_of_ble_eq_true rfl)) dX4_disagreements_53 ⟨Nat.le_of_ble_eq_true rfl, Nat.le_of_ble_eq_true rfl⟩) (fun r_2 hr_2 => ?_)
          obtain rfl : r_2 = sT (fun j => bI (nI (cf k) = nI (cf j) ∧ nI (ck k) = nI (ck j) ∧ nI (10 ^ cd k) + nI (10 ^ cd j) < 2 * farI (cv k) (cv j))) k := hr_2
          refine lv_iadd hx hb dX4_disagreements_56 ?_
          refine lv_istore_n (lv' := [(2, .int (x2 + (sT (fun j => bI (nI (cf k) = nI (cf j) ∧ nI (ck k) = nI (ck j) ∧ nI (10 ^ cd k) + nI (10 ^ cd j) < 2 * farI (cv k) (cv j))) k))), (4, .ref (FA k)), (3, .int (nI k)), (1, .int (nI f1)), (0, .ref (a 0))]) hx hb dX4_disagreements_57 rfl hl (by decide) rfl (fun ls hl => ?_)
          refine lv_iinc (v := nI (k + 1)) (lv' := [(3, .int (nI (k + 1))), (2, .int (x2 + (sT (fun j => bI (nI (cf k) = nI (cf j) ∧ nI (ck k) = nI (ck j) ∧ nI (10 ^ cd k) + nI (10 ^ cd j) < 2 * farI (cv k) (cv j))) k))), (4, .ref (FA k)), (1, .int (nI f1)), (0, .ref (a 0))]) hx hb dX4_disagreements_58 hl (k := 2) rfl (nI_1 k) (by decide) rfl (fun ls hl => ?_)
          refine lv_goto (tgt := 9) hx hb dX4_disagreements_61 (by decide) ?_
          exact ih9 (k + 1)  (x2 + (sT (fun j => bI (nI (cf k) = nI (cf j) ∧ nI (ck k) = nI (ck j) ∧ nI (10 ^ cd k) + nI (10 ^ cd j) < 2 * farI (cv k) (cv j))) k)) (by omega) (by omega) (by show _ = sT _ k + (if nI (cf k) = nI f1 then _ else 0); first | rw [e9_2, if_pos c_42] | (rw [e9_2, if_neg c_42]; exact (Int32.add_zero _).symm))  _ (lv_sub hl [0, 1, 3, 4] rfl)
  exact lp9 (nF + 1) 0  0 (by omega) (by omega) rfl  _ (lv_sub hl [0, 1, 3, 2] rfl)
set_option maxHeartbeats 4000000 in
set_option maxRecDepth 100000 in
/-- restated -/
theorem c4_restated (l : Launch) (D : va_G) (cI cZ cO cL : ClassId) (dt : Nat) (A : Nat → Prop) (a FA : Nat → Nat) (nC nR nL nF : Nat) (par wt stk flw : Nat → Int32) (hd : Nat → Option Nat) (rea sig : Nat → Int32) (ck cf cd : Nat → Nat) (cv : Nat → Int32) (nx : Nat → Option Nat) (R : va_W) (fi : Int32) (hlt : l.stackTraces = false) (hF : nF ≤ 80) (hC12 : nC ≤ 12) (hck : ∀ k, ck k < 480) (hcf : ∀ k, cf k < 2 ^ 31) (hcd : ∀ k, cd k ≤ 4) (hcv : ∀ k, vOk (cv k)) (hwt : ∀ k, wOk (wt k)) (hCh : chOk ck cf cd hd nx nF) (hL8 : nL < 8) : vx_Met l yX4_restated wsX4_restated ({ frames := 7, cells := 1, slots := 6, locals := 111 } : Room) (gP D cI cZ cO cL dt A [.ref (a 0), .int fi] (fun H => va_P D vwCl (WD cI cO a FA nC nR nL nF par wt stk flw hd rea sig ++ (WF FA ck cf cd cv nx nF ++ R)) H)) (vp_Si (fun r => ∃ f : Nat, (fi = nI f ∧ f < nL + 1) ∧ r = sT (fun k => bI (rstB (nI f) (hC ck cf cd nF (nI k) (nI f)) (hC ck cf cd nF (nI k) (nI f - 1)) cf cv = true)) (nC * 40))) (xU (fun E => E = "java/lang/IndexOutOfBoundsException" ∧ ¬ cOk (nL + 1) fi)) 1 6 (fun _ => False) := by
  refine vx_ofW (cc := cX4_restated) (maxL := 4) (ret := (some .int)) (by decide) rfl ?_
  intro p9 e9 s m9 args below meth c9 s₁ B hml hout hv
  obtain ⟨rfl, hg, hP⟩ := hv
  have hx := B.exec
  have hb := B.bytes
  have hr := B.returns
  have hts := atoms_spec (ws := wsX4_restated) B.pre
  have hown : s.vm.findClass RX4 = some m9.cls := findClass_of_methodNamed B.named
  have hlocks := B.notSynchronized
  have hK := hg.1
  have w_0 := hts (.fieldLink RX4 42 "Dimfacts" "conceptCount" "I") (by decide +kernel)
  have win_X4 : ∀ w ∈ wsX40, w ∈ wsX4_restated := by decide +kernel
  have hl := lv_entry ([.ref (a 0), .int fi]) (n := 4) (Nat.le_of_ble_eq_true rfl)
  rw [lg_entry_eq]
  generalize (lg_sl ([.ref (a 0), .int fi]) ++ List.replicate (4 - (lg_sl ([.ref (a 0), .int fi])).length) Slot.unset).toArray = ls at hl ⊢
  have hl : lv_has ls 4 [(0, .ref (a 0)), (1, .int fi)] := hl
  refine lv_aload_n hx hb dX4_restated_0 rfl (lv_at hl 0 rfl) ?_
  refine lv_iload_n hx hb dX4_restated_1 rfl (lv_at hl 1 rfl) ?_
  refine g_cxv (vx_runV (As := [.int fi]) (rest := []) ⟨hx, hb, hml, hown, hts⟩ (c4_checkFiling l D cI cZ cO cL dt A a FA nC nR nL nF par wt stk flw hd rea sig ck cf cd cv nx R fi hlt hC12 hL8) (cwV 1 hts gX4_restated_X4_checkFiling rfl rfl rfl (by decide +kernel) ⟨Nat.le_of_ble_eq_true rfl, Nat.le_of_ble_eq_true rfl⟩) (gP.v hg hP 3 rfl (0) (rfl) hP) rfl rfl hl.1 rfl (lv_room (Nat.le_of_ble_eq_true rfl)) dX4_restated_2 ⟨Nat.le_of_ble_eq_true rfl, Nat.le_of_ble_eq_true rfl⟩) (fun E9 ce9 q9 H9 hE9 hz9 hk9 hc9 hv9 hf9 => g_outU hout hlocks hE9 hz9 hk9 hc9 hv9 hf9 (fun _ h => nomatch h) (Nat.le_of_ble_eq_true rfl) (Nat.le_of_ble_eq_true rfl)) (fun hr_1 => ?_)
  refine W.widen (k := 1) (n := 6) (Nat.le_of_ble_eq_true rfl) (Nat.le_of_ble_eq_true rfl) ?_
  obtain ⟨f1, rfl, hf1⟩ := hr_1
  refine lv_iconst (v := 0) hx hb dX4_restated_5 (by decide) ?_
  refine lv_istore_n (lv' := [(2, .int 0), (0, .ref (a 0)), (1, .int (nI f1))]) hx hb dX4_restated_6 rfl hl (by decide) rfl (fun ls hl => ?_)
  refine lv_iconst (v := 0) hx hb dX4_restated_7 (by decide) ?_
  refine lv_istore_n (lv' := [(3, .int 0), (2, .int 0), (0, .ref (a 0)), (1, .int (nI f1))]) hx hb dX4_restated_8 rfl hl (by decide) rfl (fun ls hl => ?_)
  have lp9 : ∀ (n9 k : Nat)  (x2 : Int32), nC * 40 < k + n9 → k ≤ nC * 40 → x2 = sT (fun k => bI (rstB (nI f1) (hC ck cf cd nF (nI k) (nI f1)) (hC ck cf cd nF (nI k) (nI f1 - 1)) cf cv = true)) k → ∀ ls : Array Slot, lv_has ls 4 [(3, .int (nI k)), (2, .int x2), (1, .int (nI f1)), (0, .ref (a 0))] → W p9 l e9 (headSpec wsX4_restated ({ frames := 7, cells := 1, slots := 6, locals := 111 } : Room)).room s m9 ([.ref (a 0), .int (nI f1)] : List Value).toArray below meth c9 s.heap [] 1 6 (vx_MQ below (vp_Si (fun r => ∃ f : Nat, ((nI f1) = nI f ∧ f < nL + 1) ∧ r = sT (fun k => bI (rstB (nI f) (hC ck cf cd nF (nI k) (nI f)) (hC ck cf cd nF (nI k) (nI f - 1)) cf cv = true)) (nC * 40))) (xU (fun E => E = "java/lang/IndexOutOfBoundsException" ∧ ¬ cOk (nL + 1) (nI f1))) ([.ref (a 0), .int (nI f1)] : List Value).toArray s 1 6 (fun _ => False)) (F0 m9 9 ls []) := by
    intro n9
    induction n9 with
    | zero => intro k  x2 h1 h2; exact absurd h1 (by omega)
    | succ n9 ih9 =>
      intro k  x2 hn9 hk9 e9_2  ls hl
      refine lv_iload_n hx hb dX4_restated_9 rfl (lv_at hl 0 rfl) ?_
      refine lv_aload_n hx hb dX4_restated_10 rfl (lv_at hl 3 rfl) ?_
      refine va_get (D := D) (ci := 3) (v := .int (nI nC)) (C := RX4) (T := TX4) (N := 11) hx hb hts win_X4 hown hK hP (0) (rfl) rfl 2 (by decide) w_0 (fun _ h9 => h9) rfl dX4_restated_11 ?_
      refine lv_bipush (v := 40) hx hb dX4_restated_14 (by decide) ?_
      refine lv_imul hx hb dX4_restated_16 ?_
      refine lv_icmp_ge (tgt := 38) hx hb dX4_restated_17 (by decide) (fun c_17 => ?_) (fun c_17 => ?_)
      · skip
        have hkF : k = nC * 40 := by rw [show nI nC * 40 = nI (nC * 40) from pk_mul nC 40] at c_17; have := (nI_leI (by omega) (by omega)).mp c_17; omega
        rw [hkF] at e9_2
        refine lv_iload_n hx hb dX4_restated_38 rfl (lv_at hl 1 rfl) ?_
        exact vx_ret (W.widen (k := 1) (n := 6) (Nat.le_of_ble_eq_true rfl) (Nat.le_of_ble_eq_true rfl) (W.iret (v := x2) hx hb hr (fun t ht hW => ⟨x2, rfl, ⟨f1, ⟨rfl, hf1⟩, e9_2⟩, ht⟩) (fun q h => nomatch h) dX4_restated_39))
      · skip
        have hkF : k < nC * 40 := by rw [show nI nC * 40 = nI (nC * 40) from pk_mul nC 40] at c_17; have := mt (nI_leI (a := nC * 40) (b := k) (by omega) (by omega)).mpr c_17; omega
        refine lv_aload_n hx hb dX4_restated_20 rfl (lv_at hl 3 rfl) ?_
        refine lv_iload_n hx hb dX4_restated_21 rfl (lv_at hl 0 rfl) ?_
        refine lv_iload_n hx hb dX4_restated_22 rfl (lv_at hl 2 rfl) ?_
        refine g_csi (va_runV (As := [.int (nI k), .int (nI f1)]) (rest := []) ⟨hx, hb, hml, hown, hts⟩ (c4_isRestated l D cI cZ cO cL dt A a FA nC nR nL nF par wt stk flw hd rea sig ck cf cd cv nx R k (nI f1) hF hC12 hck hcf hcd hcv hwt hCh (by omega)) (cwV 2 hts gX4_restated_X4_isRestated rfl rfl rfl (by decide +kernel) ⟨Nat.le_of_ble_eq_true rfl, Nat.le_of_ble_eq_true rfl⟩) (gP.v hg hP 3 rfl (0) (rfl) hP) rfl rfl hl.1 rfl (lv_room (Nat.le_of_ble_eq_true rfl)) dX4_restated_23 ⟨Nat.le_of_ble_eq_true rfl, Nat.le_of_ble_eq_true rfl⟩) (fun r_2 hr_2 => ?_)
        obtain rfl : r_2 = bI (rstB (nI f1) (hC ck cf cd nF (nI k) (nI f1)) (hC ck cf cd nF (nI k) (nI f1 - 1)) cf cv = true) := hr_2
        refine lv_if_eq (tgt := 32) hx hb dX4_restated_26 (by decide) (fun c_26 => ?_) (fun c_26 => ?_)
        · skip
          have c_26 := bI_z c_26
          refine lv_iinc (v := nI (k + 1)) (lv' := [(3, .int (nI (k + 1))), (2, .int x2), (1, .int (nI f1)), (0, .ref (a 0))]) hx hb dX4_restated_32 hl (k := 0) rfl (nI_1 k) (by decide) rfl (fun ls hl => ?_)
          refine lv_goto (tgt := 9) hx hb dX4_restated_35 (by decide) ?_
          exact ih9 (k + 1)  x2 (by omega) (by omega) (by show _ = sT _ k + bI _; first | rw [e9_2, ← bI_t c_26] | (rw [e9_2, ← bI_f c_26]; exact (Int32.add_zero _).symm))  _ (lv_sub hl [0, 1, 2, 3] rfl)
        · skip
          have c_26 := bI_n c_26
          refine lv_iinc (v := x2 + 1) (lv' := [(2, .int (x2 + 1)), (3, .int (nI k)), (1, .int (nI f1)), (0, .ref (a 0))]) hx hb dX4_restated_29 hl (k := 1) rfl (rfl) (by decide) rfl (fun ls hl => ?_)
          refine lv_iinc (v := nI (k + 1)) (lv' := [(3, .int (nI (k + 1))), (2, .int (x2 + 1)), (1, .int (nI f1)), (0, .ref (a 0))]) hx hb dX4_restated_32 hl (k := 1) rfl (nI_1 k) (by decide) rfl (fun ls hl => ?_)
          refine lv_goto (tgt := 9) hx hb dX4_restated_35 (by decide) ?_
          exact ih9 (k + 1)  (x2 + 1) (by omega) (by omega) (by show _ = sT _ k + bI _; first | rw [e9_2, ← bI_t c_26] | (rw [e9_2, ← bI_f c_26]; exact (Int32.add_zero _).symm))  _ (lv_sub hl [0, 1, 2, 3] rfl)
  exact lp9 (nC * 40 + 1) 0  0 (by omega) (by omega) rfl  _ (lv_sub hl [0, 1, 3, 2] rfl)
set_option maxHeartbeats 4000000 in
set_option maxRecDepth 100000 in
/-- faults -/
theorem c4_faults (l : Launch) (D : va_G) (cI cZ cO cL : ClassId) (dt : Nat) (A : Nat → Prop) (a FA : Nat → Nat) (nC nR nL nF : Nat) (par wt stk flw : Nat → Int32) (hd : Nat → Option Nat) (rea sig : Nat → Int32) (ck cf cd : Nat → Nat) (cv : Nat → Int32) (nx : Nat → Option Nat) (R : va_W) (sk fk : Nat → Nat) (fi : Int32) (hlt : l.stackTraces = false) (hF : nF ≤ 80) (hC12 : nC ≤ 12) (hck : ∀ k, ck k < 480) (hcf : ∀ k, cf k < 2 ^ 31) (hcd : ∀ k, cd k ≤ 4) (hcv : ∀ k, vOk (cv k)) (hwt : ∀ k, wOk (wt k)) (hCh : chOk ck cf cd hd nx nF) (hL8 : nL < 8) (hR : nR ≤ 5) (hsk : ∀ r, stk r = nI (sk r)) (hfk : ∀ r, flw r = nI (fk r)) (hsk12 : ∀ r, sk r < 12) (hfk12 : ∀ r, fk r < 12) : vx_Met l yX4_faults wsX4_faults ({ frames := 7, cells := 1, slots := 6, locals := 121 } : Room) (gP D cI cZ cO cL dt A [.ref (a 0), .int fi] (fun H => va_P D vwCl (WD cI cO a FA nC nR nL nF par wt stk flw hd rea sig ++ (WF FA ck cf cd cv nx nF ++ R)) H)) (vp_Si (fun r => ∃ f : Nat, (fi = nI f ∧ f < nL + 1) ∧ r = sT (fun k => if (hC ck cf cd nF (nI k) (nI f)).isSome = true then fltA nC nR par wt sk fk (fun K => hC ck cf cd nF (nI K) (nI f)) cd cv (k / 40) (k / 4 % 10) (k % 4) else 0) (nC * 40))) (xU (fun E => E = "java/lang/IndexOutOfBoundsException" ∧ ¬ cOk (nL + 1) fi)) 1 6 (fun _ => False) := by
  refine vx_ofW (cc := cX4_faults) (maxL := 4) (ret := (some .int)) (by decide) rfl ?_
  intro p9 e9 s m9 args below meth c9 s₁ B hml hout hv
  obtain ⟨rfl, hg, hP⟩ := hv
  have hx := B.exec
  have hb := B.bytes
  have hr := B.returns
  have hts := atoms_spec (ws := wsX4_faults) B.pre
  have hown : s.vm.findClass RX4 = some m9.cls := findClass_of_methodNamed B.named
  have hlocks := B.notSynchronized
  have hK := hg.1
  have w_0 := hts (.fieldLink RX4 42 "Dimfacts" "conceptCount" "I") (by decide +kernel)
  have win_X4 : ∀ w ∈ wsX40, w ∈ wsX4_faults := by decide +kernel
  have w_2 := hts (.fieldLink RX4 32 "Dimfacts" "keyed" "LDimfacts$KeyedFacts;") (by decide +kernel)
  have hl := lv_entry ([.ref (a 0), .int fi]) (n := 4) (Nat.le_of_ble_eq_true rfl)
  rw [lg_entry_eq]
  generalize (lg_sl ([.ref (a 0), .int fi]) ++ List.replicate (4 - (lg_sl ([.ref (a 0), .int fi])).length) Slot.unset).toArray = ls at hl ⊢
  have hl : lv_has ls 4 [(0, .ref (a 0)), (1, .int fi)] := hl
  refine lv_aload_n hx hb dX4_faults_0 rfl (lv_at hl 0 rfl) ?_
  refine lv_iload_n hx hb dX4_faults_1 rfl (lv_at hl 1 rfl) ?_
  refine g_cxv (vx_runV (As := [.int fi]) (rest := []) ⟨hx, hb, hml, hown, hts⟩ (c4_checkFiling l D cI cZ cO cL dt A a FA nC nR nL nF par wt stk flw hd rea sig ck cf cd cv nx R fi hlt hC12 hL8) (cwV 1 hts gX4_faults_X4_checkFiling rfl rfl rfl (by decide +kernel) ⟨Nat.le_of_ble_eq_true rfl, Nat.le_of_ble_eq_true rfl⟩) (gP.v hg hP 3 rfl (0) (rfl) hP) rfl rfl hl.1 rfl (lv_room (Nat.le_of_ble_eq_true rfl)) dX4_faults_2 ⟨Nat.le_of_ble_eq_true rfl, Nat.le_of_ble_eq_true rfl⟩) (fun E9 ce9 q9 H9 hE9 hz9 hk9 hc9 hv9 hf9 => g_outU hout hlocks hE9 hz9 hk9 hc9 hv9 hf9 (fun _ h => nomatch h) (Nat.le_of_ble_eq_true rfl) (Nat.le_of_ble_eq_true rfl)) (fun hr_1 => ?_)
  refine W.widen (k := 1) (n := 6) (Nat.le_of_ble_eq_true rfl) (Nat.le_of_ble_eq_true rfl) ?_
  obtain ⟨f1, rfl, hf1⟩ := hr_1
  refine lv_iconst (v := 0) hx hb dX4_faults_5 (by decide) ?_
  refine lv_istore_n (lv' := [(2, .int 0), (0, .ref (a 0)), (1, .int (nI f1))]) hx hb dX4_faults_6 rfl hl (by decide) rfl (fun ls hl => ?_)
  refine lv_iconst (v := 0) hx hb dX4_faults_7 (by decide) ?_
  refine lv_istore_n (lv' := [(3, .int 0), (2, .int 0), (0, .ref (a 0)), (1, .int (nI f1))]) hx hb dX4_faults_8 rfl hl (by decide) rfl (fun ls hl => ?_)
  have lp9 : ∀ (n9 k : Nat)  (x2 : Int32), nC * 40 < k + n9 → k ≤ nC * 40 → x2 = sT (fun k => if (hC ck cf cd nF (nI k) (nI f1)).isSome = true then fltA nC nR par wt sk fk (fun K => hC ck cf cd nF (nI K) (nI f1)) cd cv (k / 40) (k / 4 % 10) (k % 4) else 0) k → ∀ ls : Array Slot, lv_has ls 4 [(3, .int (nI k)), (2, .int x2), (1, .int (nI f1)), (0, .ref (a 0))] → W p9 l e9 (headSpec wsX4_faults ({ frames := 7, cells := 1, slots := 6, locals := 121 } : Room)).room s m9 ([.ref (a 0), .int (nI f1)] : List Value).toArray below meth c9 s.heap [] 1 6 (vx_MQ below (vp_Si (fun r => ∃ f : Nat, ((nI f1) = nI f ∧ f < nL + 1) ∧ r = sT (fun k => if (hC ck cf cd nF (nI k) (nI f)).isSome = true then fltA nC nR par wt sk fk (fun K => hC ck cf cd nF (nI K) (nI f)) cd cv (k / 40) (k / 4 % 10) (k % 4) else 0) (nC * 40))) (xU (fun E => E = "java/lang/IndexOutOfBoundsException" ∧ ¬ cOk (nL + 1) (nI f1))) ([.ref (a 0), .int (nI f1)] : List Value).toArray s 1 6 (fun _ => False)) (F0 m9 9 ls []) := by
    intro n9
    induction n9 with
    | zero => intro k  x2 h1 h2; exact absurd h1 (by omega)
    | succ n9 ih9 =>
      intro k  x2 hn9 hk9 e9_2  ls hl
      refine lv_iload_n hx hb dX4_faults_9 rfl (lv_at hl 0 rfl) ?_
      refine lv_aload_n hx hb dX4_faults_10 rfl (lv_at hl 3 rfl) ?_
      refine va_get (D := D) (ci := 3) (v := .int (nI nC)) (C := RX4) (T := TX4) (N := 11) hx hb hts win_X4 hown hK hP (0) (rfl) rfl 2 (by decide) w_0 (fun _ h9 => h9) rfl dX4_faults_11 ?_
      refine lv_bipush (v := 40) hx hb dX4_faults_14 (by decide) ?_
      refine lv_imul hx hb dX4_faults_16 ?_
      refine lv_icmp_ge (tgt := 51) hx hb dX4_faults_17 (by decide) (fun c_17 => ?_) (fun c_17 => ?_)
      · skip
        have hkF : k = nC * 40 := by rw [show nI nC * 40 = nI (nC * 40) from pk_mul nC 40] at c_17; have := (nI_leI (by omega) (by omega)).mp c_17; omega
        rw [hkF] at e9_2
        refine lv_iload_n hx hb dX4_faults_51 rfl (lv_at hl 1 rfl) ?_
        exact vx_ret (W.widen (k := 1) (n := 6) (Nat.le_of_ble_eq_true rfl) (Nat.le_of_ble_eq_true rfl) (W.iret (v := x2) hx hb hr (fun t ht hW => ⟨x2, rfl, ⟨f1, ⟨rfl, hf1⟩, e9_2⟩, ht⟩) (fun q h => nomatch h) dX4_faults_52))
      · skip
        have hkF : k < nC * 40 := by rw [show nI nC * 40 = nI (nC * 40) from pk_mul nC 40] at c_17; have := mt (nI_leI (a := nC * 40) (b := k) (by omega) (by omega)).mpr c_17; omega
        refine lv_aload_n hx hb dX4_faults_20 rfl (lv_at hl 3 rfl) ?_
        refine va_get (D := D) (ci := 3) (v := .ref (a 6)) (C := RX4) (T := TX4) (N := 11) hx hb hts win_X4 hown hK hP (0) (rfl) rfl 8 (by decide) w_2 (fun _ h9 => h9) rfl dX4_faults_21 ?_
        refine lv_iload_n hx hb dX4_faults_24 rfl (lv_at hl 0 rfl) ?_
        refine lv_iload_n hx hb dX4_faults_25 rfl (lv_at hl 2 rfl) ?_
        refine g_csq (va_runV (As := [.int (nI k), .int (nI f1)]) (rest := []) ⟨hx, hb, hml, hown, hts⟩ (c2_holding l D cI cZ cO cL dt A a FA nC nR nL nF par wt stk flw hd rea sig ck cf cd cv nx R k (nI f1) (by omega) hck hCh) (cwV 2 hts gX4_faults_X2_holding rfl rfl rfl (by decide +kernel) ⟨Nat.le_of_ble_eq_true rfl, Nat.le_of_ble_eq_true rfl⟩) (gP.v hg hP 1 rfl (6) (rfl) hP) rfl rfl hl.1 rfl (lv_room (Nat.le_of_ble_eq_true rfl)) dX4_faults_26 ⟨Nat.le_of_ble_eq_true rfl, Nat.le_of_ble_eq_true rfl⟩) (fun r_2 hr_2 => ?_)
        obtain ⟨o_r_2, hH⟩ : ∃ z, hC ck cf cd nF (nI k) (nI f1) = z := ⟨_, rfl⟩
        rcases o_r_2 with _ | j
        · skip
          obtain rfl : r_2 = none := hr_2.trans (congrArg (Option.map FA) hH)
          refine lv_ifnullN (tgt := 45) hx hb dX4_faults_29 (by decide) ?_
          refine lv_iinc (v := nI (k + 1)) (lv' := [(3, .int (nI (k + 1))), (2, .int x2), (1, .int (nI f1)), (0, .ref (a 0))]) hx hb dX4_faults_45 hl (k := 0) rfl (nI_1 k) (by decide) rfl (fun ls hl => ?_)
          refine lv_goto (tgt := 9) hx hb dX4_faults_48 (by decide) ?_
          exact ih9 (k + 1)  x2 (by omega) (by omega) (by show _ = sT _ k + (if (hC ck cf cd nF (nI k) (nI f1)).isSome = true then _ else 0); rw [hH, e9_2]; first | (exact (Int32.add_zero _).symm) | rfl)  _ (lv_sub hl [0, 1, 2, 3] rfl)
        · skip
          obtain rfl : r_2 = some (FA j) := hr_2.trans (congrArg (Option.map FA) hH)
          refine lv_ifnull hx hb dX4_faults_29 ?_
          refine lv_iload_n hx hb dX4_faults_32 rfl (lv_at hl 1 rfl) ?_
          refine lv_aload_n hx hb dX4_faults_33 rfl (lv_at hl 3 rfl) ?_
          refine lv_aload_n hx hb dX4_faults_34 rfl (lv_at hl 3 rfl) ?_
          refine va_get (D := D) (ci := 3) (v := .ref (a 6)) (C := RX4) (T := TX4) (N := 11) hx hb hts win_X4 hown hK hP (0) (rfl) rfl 8 (by decide) w_2 (fun _ h9 => h9) rfl dX4_faults_35 ?_
          refine lv_iload_n hx hb dX4_faults_38 rfl (lv_at hl 0 rfl) ?_
          refine lv_iload_n hx hb dX4_faults_39 rfl (lv_at hl 2 rfl) ?_
          refine g_csi (va_runV (As := [.ref (a 6), .int (nI k), .int (nI f1)]) (rest := [.int x2]) ⟨hx, hb, hml, hown, hts⟩ (c4_faultsAt_K l D cI cZ cO cL dt A a FA nC nR nL nF par wt stk flw hd rea sig ck cf cd cv nx R sk fk k (k / 40) (k / 4 % 10) (k % 4) (nI f1) hF hC12 hck hcf hcd hcv hwt hCh hR hsk hfk hsk12 hfk12 (by omega) (by omega) (by omega) (by omega)) (cwV 3 hts gX4_faults_X4_faultsAt rfl rfl rfl (by decide +kernel) ⟨Nat.le_of_ble_eq_true rfl, Nat.le_of_ble_eq_true rfl⟩) (gP.v hg hP 3 rfl (0) (rfl) hP) rfl rfl hl.1 rfl (lv_room (Nat.le_of_ble_eq_true rfl)) dX4_faults_40 ⟨Nat.le_of_ble_eq_true rfl, Nat.le_of_ble_eq_true rfl⟩) (fun r_3 hr_3 => ?_)
          obtain rfl : r_3 = fltA nC nR par wt sk fk (fun K => hC ck cf cd nF (nI K) (nI f1)) cd cv (k / 40) (k / 4 % 10) (k % 4) := hr_3
          refine lv_iadd hx hb dX4_faults_43 ?_
          refine lv_istore_n (lv' := [(2, .int (x2 + (fltA nC nR par wt sk fk (fun K => hC ck cf cd nF (nI K) (nI f1)) cd cv (k / 40) (k / 4 % 10) (k % 4)))), (3, .int (nI k)), (1, .int (nI f1)), (0, .ref (a 0))]) hx hb dX4_faults_44 rfl hl (by decide) rfl (fun ls hl => ?_)
          refine lv_iinc (v := nI (k + 1)) (lv' := [(3, .int (nI (k + 1))), (2, .int (x2 + (fltA nC nR par wt sk fk (fun K => hC ck cf cd nF (nI K) (nI f1)) cd cv (k / 40) (k / 4 % 10) (k % 4)))), (1, .int (nI f1)), (0, .ref (a 0))]) hx hb dX4_faults_45 hl (k := 1) rfl (nI_1 k) (by decide) rfl (fun ls hl => ?_)
          refine lv_goto (tgt := 9) hx hb dX4_faults_48 (by decide) ?_
          exact ih9 (k + 1)  (x2 + (fltA nC nR par wt sk fk (fun K => hC ck cf cd nF (nI K) (nI f1)) cd cv (k / 40) (k / 4 % 10) (k % 4))) (by omega) (by omega) (by show _ = sT _ k + (if (hC ck cf cd nF (nI k) (nI f1)).isSome = true then _ else 0); rw [hH, e9_2]; first | (exact (Int32.add_zero _).symm) | rfl)  _ (lv_sub hl [0, 1, 2, 3] rfl)
  exact lp9 (nC * 40 + 1) 0  0 (by omega) (by omega) rfl  _ (lv_sub hl [0, 1, 3, 2] rfl)
set_option maxHeartbeats 4000000 in
set_option maxRecDepth 100000 in
/-- faults by the list -/
theorem c4_faultsByList (l : Launch) (D : va_G) (cI cZ cO cL : ClassId) (dt : Nat) (A : Nat → Prop) (a FA : Nat → Nat) (nC nR nL nF : Nat) (par wt stk flw : Nat → Int32) (hd : Nat → Option Nat) (rea sig : Nat → Int32) (ck cf cd : Nat → Nat) (cv : Nat → Int32) (nx : Nat → Option Nat) (R : va_W) (sk fk : Nat → Nat) (fi : Int32) (hlt : l.stackTraces = false) (hF : nF ≤ 80) (hC12 : nC ≤ 12) (hck : ∀ k, ck k < 480) (hcf : ∀ k, cf k < 2 ^ 31) (hcd : ∀ k, cd k ≤ 4) (hcv : ∀ k, vOk (cv k)) (hwt : ∀ k, wOk (wt k)) (hCh : chOk ck cf cd hd nx nF) (hL8 : nL < 8) (hR : nR ≤ 5) (hsk : ∀ r, stk r = nI (sk r)) (hfk : ∀ r, flw r = nI (fk r)) (hsk12 : ∀ r, sk r < 12) (hfk12 : ∀ r, fk r < 12) (hckC : ∀ k, k < nF → ck k < nC * 40) (hFA : ∀ i j, i < nF → j < nF → FA i = FA j → i = j) : vx_Met l yX4_faultsByList wsX4_faultsByList ({ frames := 7, cells := 1, slots := 6, locals := 130 } : Room) (gP D cI cZ cO cL dt A [.ref (a 0), .int fi] (fun H => va_P D vwCl (WD cI cO a FA nC nR nL nF par wt stk flw hd rea sig ++ (WF FA ck cf cd cv nx nF ++ R)) H)) (vp_Si (fun r => ∃ f : Nat, (fi = nI f ∧ f < nL + 1) ∧ r = sT (fun k => if hC ck cf cd nF (nI (ck k)) (nI f) = some k then fltA nC nR par wt sk fk (fun K => hC ck cf cd nF (nI K) (nI f)) cd cv (ck k / 40) (ck k / 4 % 10) (ck k % 4) else 0) nF)) (xU (fun E => E = "java/lang/IndexOutOfBoundsException" ∧ ¬ cOk (nL + 1) fi)) 1 6 (fun _ => False) := by
  refine vx_ofW (cc := cX4_faultsByList) (maxL := 5) (ret := (some .int)) (by decide) rfl ?_
  intro p9 e9 s m9 args below meth c9 s₁ B hml hout hv
  obtain ⟨rfl, hg, hP⟩ := hv
  have hx := B.exec
  have hb := B.bytes
  have hr := B.returns
  have hts := atoms_spec (ws := wsX4_faultsByList) B.pre
  have hown : s.vm.findClass RX4 = some m9.cls := findClass_of_methodNamed B.named
  have hlocks := B.notSynchronized
  have hK := hg.1
  have w_0 := hts (.fieldLink RX4 25 "Dimfacts" "listed" "LDimfacts$ListedFacts;") (by decide +kernel)
  have win_X4 : ∀ w ∈ wsX40, w ∈ wsX4_faultsByList := by decide +kernel
  have w_2 := hts (.fieldLink RX4 111 "Dimfacts$ListedFacts" "count" "I") (by decide +kernel)
  have win_X3 : ∀ w ∈ wsX30, w ∈ wsX4_faultsByList := by decide +kernel
  have w_4 := hts (.fieldLink RX4 117 "Dimfacts$ListedFacts" "facts" "[LDimfacts$Fact;") (by decide +kernel)
  have w_5 := hts (.fieldLink RX4 182 "Dimfacts$Fact" "key" "I") (by decide +kernel)
  have win_X0 : ∀ w ∈ wsX00, w ∈ wsX4_faultsByList := by decide +kernel
  have hl := lv_entry ([.ref (a 0), .int fi]) (n := 5) (Nat.le_of_ble_eq_true rfl)
  rw [lg_entry_eq]
  generalize (lg_sl ([.ref (a 0), .int fi]) ++ List.replicate (5 - (lg_sl ([.ref (a 0), .int fi])).length) Slot.unset).toArray = ls at hl ⊢
  have hl : lv_has ls 5 [(0, .ref (a 0)), (1, .int fi)] := hl
  refine lv_aload_n hx hb dX4_faultsByList_0 rfl (lv_at hl 0 rfl) ?_
  refine lv_iload_n hx hb dX4_faultsByList_1 rfl (lv_at hl 1 rfl) ?_
  refine g_cxv (vx_runV (As := [.int fi]) (rest := []) ⟨hx, hb, hml, hown, hts⟩ (c4_checkFiling l D cI cZ cO cL dt A a FA nC nR nL nF par wt stk flw hd rea sig ck cf cd cv nx R fi hlt hC12 hL8) (cwV 1 hts gX4_faultsByList_X4_checkFiling rfl rfl rfl (by decide +kernel) ⟨Nat.le_of_ble_eq_true rfl, Nat.le_of_ble_eq_true rfl⟩) (gP.v hg hP 3 rfl (0) (rfl) hP) rfl rfl hl.1 rfl (lv_room (Nat.le_of_ble_eq_true rfl)) dX4_faultsByList_2 ⟨Nat.le_of_ble_eq_true rfl, Nat.le_of_ble_eq_true rfl⟩) (fun E9 ce9 q9 H9 hE9 hz9 hk9 hc9 hv9 hf9 => g_outU hout hlocks hE9 hz9 hk9 hc9 hv9 hf9 (fun _ h => nomatch h) (Nat.le_of_ble_eq_true rfl) (Nat.le_of_ble_eq_true rfl)) (fun hr_1 => ?_)
  refine W.widen (k := 1) (n := 6) (Nat.le_of_ble_eq_true rfl) (Nat.le_of_ble_eq_true rfl) ?_
  obtain ⟨f1, rfl, hf1⟩ := hr_1
  refine lv_iconst (v := 0) hx hb dX4_faultsByList_5 (by decide) ?_
  refine lv_istore_n (lv' := [(2, .int 0), (0, .ref (a 0)), (1, .int (nI f1))]) hx hb dX4_faultsByList_6 rfl hl (by decide) rfl (fun ls hl => ?_)
  refine lv_iconst (v := 0) hx hb dX4_faultsByList_7 (by decide) ?_
  refine lv_istore_n (lv' := [(3, .int 0), (2, .int 0), (0, .ref (a 0)), (1, .int (nI f1))]) hx hb dX4_faultsByList_8 rfl hl (by decide) rfl (fun ls hl => ?_)
  have lp9 : ∀ (n9 k : Nat)  (x2 : Int32), nF < k + n9 → k ≤ nF → x2 = sT (fun k => if hC ck cf cd nF (nI (ck k)) (nI f1) = some k then fltA nC nR par wt sk fk (fun K => hC ck cf cd nF (nI K) (nI f1)) cd cv (ck k / 40) (ck k / 4 % 10) (ck k % 4) else 0) k → ∀ ls : Array Slot, lv_has ls 5 [(3, .int (nI k)), (2, .int x2), (1, .int (nI f1)), (0, .ref (a 0))] → W p9 l e9 (headSpec wsX4_faultsByList ({ frames := 7, cells := 1, slots := 6, locals := 130 } : Room)).room s m9 ([.ref (a 0), .int (nI f1)] : List Value).toArray below meth c9 s.heap [] 1 6 (vx_MQ below (vp_Si (fun r => ∃ f : Nat, ((nI f1) = nI f ∧ f < nL + 1) ∧ r = sT (fun k => if hC ck cf cd nF (nI (ck k)) (nI f) = some k then fltA nC nR par wt sk fk (fun K => hC ck cf cd nF (nI K) (nI f)) cd cv (ck k / 40) (ck k / 4 % 10) (ck k % 4) else 0) nF)) (xU (fun E => E = "java/lang/IndexOutOfBoundsException" ∧ ¬ cOk (nL + 1) (nI f1))) ([.ref (a 0), .int (nI f1)] : List Value).toArray s 1 6 (fun _ => False)) (F0 m9 9 ls []) := by
    intro n9
    induction n9 with
    | zero => intro k  x2 h1 h2; exact absurd h1 (by omega)
    | succ n9 ih9 =>
      intro k  x2 hn9 hk9 e9_2  ls hl
      refine lv_iload_n hx hb dX4_faultsByList_9 rfl (lv_at hl 0 rfl) ?_
      refine lv_aload_n hx hb dX4_faultsByList_10 rfl (lv_at hl 3 rfl) ?_
      refine va_get (D := D) (ci := 3) (v := .ref (a 5)) (C := RX4) (T := TX4) (N := 11) hx hb hts win_X4 hown hK hP (0) (rfl) rfl 7 (by decide) w_0 (fun _ h9 => h9) rfl dX4_faultsByList_11 ?_
      refine va_get (D := D) (ci := 2) (v := .int (nI nF)) (C := RX3) (T := TX3) (N := 2) hx hb hts win_X3 hown hK hP (5) (rfl) rfl 1 (by decide) w_2 (fun _ h9 => h9) rfl dX4_faultsByList_14 ?_
      refine lv_icmp_ge (tgt := 77) hx hb dX4_faultsByList_17 (by decide) (fun c_17 => ?_) (fun c_17 => ?_)
      · skip
        have hkF : k = nF := by have := (nI_leI (a := nF) (b := k) (by omega) (by omega)).mp c_17; omega
        rw [hkF] at e9_2
        refine lv_iload_n hx hb dX4_faultsByList_77 rfl (lv_at hl 1 rfl) ?_
        exact vx_ret (W.widen (k := 1) (n := 6) (Nat.le_of_ble_eq_true rfl) (Nat.le_of_ble_eq_true rfl) (W.iret (v := x2) hx hb hr (fun t ht hW => ⟨x2, rfl, ⟨f1, ⟨rfl, hf1⟩, e9_2⟩, ht⟩) (fun q h => nomatch h) dX4_faultsByList_78))
      · skip
        have hkF : k < nF := by have := mt (nI_leI (a := nF) (b := k) (by omega) (by omega)).mpr c_17; omega
        refine lv_aload_n hx hb dX4_faultsByList_20 rfl (lv_at hl 3 rfl) ?_
        refine va_get (D := D) (ci := 3) (v := .ref (a 5)) (C := RX4) (T := TX4) (N := 11) hx hb hts win_X4 hown hK hP (0) (rfl) rfl 7 (by decide) w_0 (fun _ h9 => h9) rfl dX4_faultsByList_21 ?_
        refine va_get (D := D) (ci := 2) (v := .ref (a 9)) (C := RX3) (T := TX3) (N := 2) hx hb hts win_X3 hown hK hP (5) (rfl) rfl 0 (by decide) w_4 (fun _ h9 => h9) rfl dX4_faultsByList_24 ?_
        refine lv_iload_n hx hb dX4_faultsByList_27 rfl (lv_at hl 0 rfl) ?_
        refine g_aalds hx hb hK hP (9) 2 (n := 80) (f := (fun k => if k < nF then some (FA k) else none)) (rfl) rfl k (FA k) (if_pos (by omega)) rfl (by omega) (by decide) dX4_faultsByList_28 ?_
        refine lv_astore (lv' := [(4, .ref (FA k)), (3, .int (nI k)), (2, .int x2), (1, .int (nI f1)), (0, .ref (a 0))]) hx hb dX4_faultsByList_29 hl (by decide) rfl (fun ls hl => ?_)
        refine lv_aload hx hb dX4_faultsByList_31 (lv_at hl 0 rfl) ?_
        refine lv_ifnull hx hb dX4_faultsByList_33 ?_
        refine lv_aload_n hx hb dX4_faultsByList_36 rfl (lv_at hl 4 rfl) ?_
        refine va_get (D := D) (ci := 3) (v := .ref (a 5)) (C := RX4) (T := TX4) (N := 11) hx hb hts win_X4 hown hK hP (0) (rfl) rfl 7 (by decide) w_0 (fun _ h9 => h9) rfl dX4_faultsByList_37 ?_
        refine lv_aload hx hb dX4_faultsByList_40 (lv_at hl 0 rfl) ?_
        refine va_get (D := D) (ci := 0) (v := .int (nI (ck k))) (C := RX0) (T := TX0) (N := 5) hx hb hts win_X0 hown hK hP (11 + k) (WDF_at (by omega)) rfl 0 (by decide) w_5 (fun _ h9 => h9) rfl dX4_faultsByList_42 ?_
        refine lv_iload_n hx hb dX4_faultsByList_45 rfl (lv_at hl 3 rfl) ?_
        refine g_csq (va_runV (As := [.int (nI (ck k)), .int (nI f1)]) (rest := []) ⟨hx, hb, hml, hown, hts⟩ (c3_holding l D cI cZ cO cL dt A a FA nC nR nL nF par wt stk flw hd rea sig ck cf cd cv nx R (nI (ck k)) (nI f1) hF hcf hcd) (cwV 2 hts gX4_faultsByList_X3_holding rfl rfl rfl (by decide +kernel) ⟨Nat.le_of_ble_eq_true rfl, Nat.le_of_ble_eq_true rfl⟩) (gP.v hg hP 2 rfl (5) (rfl) hP) rfl rfl hl.1 rfl (lv_room (Nat.le_of_ble_eq_true rfl)) dX4_faultsByList_46 ⟨Nat.le_of_ble_eq_true rfl, Nat.le_of_ble_eq_true rfl⟩) (fun r_2 hr_2 => ?_)
        obtain rfl : r_2 = (hC ck cf cd nF (nI (ck k)) (nI f1)).map FA := hr_2
        refine lv_aload hx hb dX4_faultsByList_49 (lv_at hl 0 rfl) ?_
        refine W.eq (g2 := F0 m9 51 ls (va_rf (some (FA k)) :: va_rf ((hC ck cf cd nF (nI (ck k)) (nI f1)).map FA) :: [])) rfl ?_
        refine lv_acmp_ne (tgt := 71) hx hb dX4_faultsByList_51 (by decide) (fun c_51 => ?_) (fun c_51 => ?_)
        · skip
          have hso : ¬ hC ck cf cd nF (nI (ck k)) (nI f1) = some k := fun q => c_51 (by rw [q]; rfl)
          refine lv_iinc (v := nI (k + 1)) (lv' := [(3, .int (nI (k + 1))), (4, .ref (FA k)), (2, .int x2), (1, .int (nI f1)), (0, .ref (a 0))]) hx hb dX4_faultsByList_71 hl (k := 1) rfl (nI_1 k) (by decide) rfl (fun ls hl => ?_)
          refine lv_goto (tgt := 9) hx hb dX4_faultsByList_74 (by decide) ?_
          exact ih9 (k + 1)  x2 (by omega) (by omega) (by show _ = sT _ k + (if hC ck cf cd nF (nI (ck k)) (nI f1) = some k then _ else 0); first | rw [if_pos hso, e9_2] | (rw [if_neg hso, e9_2]; exact (Int32.add_zero _).symm))  _ (lv_sub hl [0, 2, 3, 4] rfl)
        · skip
          have hso : hC ck cf cd nF (nI (ck k)) (nI f1) = some k := by
            cases hh : hC ck cf cd nF (nI (ck k)) (nI f1) with
            | none => rw [hh] at c_51; cases c_51
            | some j => rw [hh] at c_51; exact congrArg some (hFA j k (sel_lt hh).1 hkF (Option.some.inj c_51))
          refine lv_iload_n hx hb dX4_faultsByList_54 rfl (lv_at hl 2 rfl) ?_
          refine lv_aload_n hx hb dX4_faultsByList_55 rfl (lv_at hl 4 rfl) ?_
          refine lv_aload_n hx hb dX4_faultsByList_56 rfl (lv_at hl 4 rfl) ?_
          refine va_get (D := D) (ci := 3) (v := .ref (a 5)) (C := RX4) (T := TX4) (N := 11) hx hb hts win_X4 hown hK hP (0) (rfl) rfl 7 (by decide) w_0 (fun _ h9 => h9) rfl dX4_faultsByList_57 ?_
          refine lv_aload hx hb dX4_faultsByList_60 (lv_at hl 0 rfl) ?_
          refine va_get (D := D) (ci := 0) (v := .int (nI (ck k))) (C := RX0) (T := TX0) (N := 5) hx hb hts win_X0 hown hK hP (11 + k) (WDF_at (by omega)) rfl 0 (by decide) w_5 (fun _ h9 => h9) rfl dX4_faultsByList_62 ?_
          refine lv_iload_n hx hb dX4_faultsByList_65 rfl (lv_at hl 3 rfl) ?_
          refine g_csi (va_runV (As := [.ref (a 5), .int (nI (ck k)), .int (nI f1)]) (rest := [.int x2]) ⟨hx, hb, hml, hown, hts⟩ (c4_faultsAt_L l D cI cZ cO cL dt A a FA nC nR nL nF par wt stk flw hd rea sig ck cf cd cv nx R sk fk (ck k) (ck k / 40) (ck k / 4 % 10) (ck k % 4) (nI f1) hF hC12 hck hcf hcd hcv hwt hCh hR hsk hfk hsk12 hfk12 (by omega) (by have := hckC k hkF; omega) (by omega) (by omega)) (cwV 3 hts gX4_faultsByList_X4_faultsAt rfl rfl rfl (by decide +kernel) ⟨Nat.le_of_ble_eq_true rfl, Nat.le_of_ble_eq_true rfl⟩) (gP.v hg hP 3 rfl (0) (rfl) hP) rfl rfl hl.1 rfl (lv_room (Nat.le_of_ble_eq_true rfl)) dX4_faultsByList_66 ⟨Nat.le_of_ble_eq_true rfl, Nat.le_of_ble_eq_true rfl⟩) (fun r_3 hr_3 => ?_)
          obtain rfl : r_3 = fltA nC nR par wt sk fk (fun K => hC ck cf cd nF (nI K) (nI f1)) cd cv (ck k / 40) (ck k / 4 % 10) (ck k % 4) := hr_3
          refine lv_iadd hx hb dX4_faultsByList_69 ?_
          refine lv_istore_n (lv' := [(2, .int (x2 + (fltA nC nR par wt sk fk (fun K => hC ck cf cd nF (nI K) (nI f1)) cd cv (ck k / 40) (ck k / 4 % 10) (ck k % 4)))), (4, .ref (FA k)), (3, .int (nI k)), (1, .int (nI f1)), (0, .ref (a 0))]) hx hb dX4_faultsByList_70 rfl hl (by decide) rfl (fun ls hl => ?_)
          refine lv_iinc (v := nI (k + 1)) (lv' := [(3, .int (nI (k + 1))), (2, .int (x2 + (fltA nC nR par wt sk fk (fun K => hC ck cf cd nF (nI K) (nI f1)) cd cv (ck k / 40) (ck k / 4 % 10) (ck k % 4)))), (4, .ref (FA k)), (1, .int (nI f1)), (0, .ref (a 0))]) hx hb dX4_faultsByList_71 hl (k := 2) rfl (nI_1 k) (by decide) rfl (fun ls hl => ?_)
          refine lv_goto (tgt := 9) hx hb dX4_faultsByList_74 (by decide) ?_
          exact ih9 (k + 1)  (x2 + (fltA nC nR par wt sk fk (fun K => hC ck cf cd nF (nI K) (nI f1)) cd cv (ck k / 40) (ck k / 4 % 10) (ck k % 4))) (by omega) (by omega) (by show _ = sT _ k + (if hC ck cf cd nF (nI (ck k)) (nI f1) = some k then _ else 0); first | rw [if_pos hso, e9_2] | (rw [if_neg hso, e9_2]; exact (Int32.add_zero _).symm))  _ (lv_sub hl [0, 1, 3, 4] rfl)
  exact lp9 (nF + 1) 0  0 (by omega) (by omega) rfl  _ (lv_sub hl [0, 1, 3, 2] rfl)
