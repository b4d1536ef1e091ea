set_option maxHeartbeats 4000000 in
set_option maxRecDepth 100000 in
/-- a concept more -/
theorem c4_addConcept (l : Launch) (D : va_G) (cI cZ cO cL : ClassId) (dt : Nat) (A : Nat → Prop) (a FA : Nat → Nat) (nC nR nL nF : Nat) (par wt stk flw : Nat → Int32) (hd : Nat → Option Nat) (rea sig : Nat → Int32) (ck cf cd : Nat → Nat) (cv : Nat → Int32) (nx : Nat → Option Nat) (R : va_W)  (hlt : l.stackTraces = false) (hC12 : nC ≤ 12) (hL8 : nL < 8) : vx_Met l yX4_addConcept wsX4_addConcept ({ frames := 6, cells := 1, slots := 6, locals := 90 } : Room) (gP D cI cZ cO cL dt A [.ref (a 0)] (fun H => va_P D vwCl (WD cI cO a FA nC nR nL nF par wt stk flw hd rea sig ++ (WF FA ck cf cd cv nx nF ++ R)) H ∧ va_D A (WD cI cO a FA nC nR nL nF par wt stk flw hd rea sig ++ (WF FA ck cf cd cv nx nF ++ R)))) (va_Qi (fun (r : Int32) (u : Unit) => nC < 12 ∧ r = nI nC) (fun u t => va_P D vwCl (WD cI cO a FA (nC + 1) nR nL nF (upd par nC (-1)) wt stk flw hd rea sig ++ (WF FA ck cf cd cv nx nF ++ R)) t.heap ∧ va_D A (WD cI cO a FA (nC + 1) nR nL nF (upd par nC (-1)) wt stk flw hd rea sig ++ (WF FA ck cf cd cv nx nF ++ R))) A) (xU (fun E => E = "java/lang/IllegalStateException" ∧ ¬ nC < 12)) 1 6 A := by
  refine vx_ofW (cc := cX4_addConcept) (maxL := 2) (ret := (some .int)) (by decide) rfl ?_
  intro p9 e9 s m9 args below meth c9 s₁ B hml hout hv
  obtain ⟨rfl, hg, hP, hD⟩ := hv
  have hx := B.exec
  have hb := B.bytes
  have hr := B.returns
  have hts := atoms_spec (ws := wsX4_addConcept) B.pre
  have hown : s.vm.findClass RX4 = some m9.cls := findClass_of_methodNamed B.named
  have hlocks := B.notSynchronized
  have hK := hg.1
  have hS : va_S A s.heap s.heap [] := va_S.rf
  have w_0 := hts (.fieldLink RX4 42 "Dimfacts" "conceptCount" "I") (by decide +kernel)
  have win_X4 : ∀ w ∈ wsX40, w ∈ wsX4_addConcept := by decide +kernel
  have w_2 := hts (.fieldLink RX4 9 "Dimfacts" "parents" "[I") (by decide +kernel)
  have w_3 := hts (.classLink RX4 46 "java/lang/IllegalStateException") (by decide +kernel)
  have w_4 := hts (.initialized "java/lang/IllegalStateException") (by decide +kernel)
  have hat_0 : ∀ w ∈ (vx_atS RX4 50 "java/lang/IllegalStateException" gUp).filter goodWord, w.before _ s = true := fun w h => hts w (List.mem_cons_of_mem _ (List.mem_append_right _ h))
  have hl := lv_entry ([.ref (a 0)]) (n := 2) (Nat.le_of_ble_eq_true rfl)
  rw [lg_entry_eq]
  generalize (lg_sl ([.ref (a 0)]) ++ List.replicate (2 - (lg_sl ([.ref (a 0)])).length) Slot.unset).toArray = ls at hl ⊢
  have hl : lv_has ls 2 [(0, .ref (a 0))] := hl
  refine lv_aload_n hx hb dX4_addConcept_0 rfl (lv_at hl 0 rfl) ?_
  refine va_get (D := D) (ci := 3) (v := .int (nI nC)) (C := RX4) (T := TX4) (N := 11) hx hb hts win_X4 hown hK hP (0) (rfl) rfl 2 (by decide) w_0 (fun _ h9 => h9) rfl dX4_addConcept_1 ?_
  refine lv_bipush (v := 12) hx hb dX4_addConcept_4 (by decide) ?_
  refine lv_icmp_lt (tgt := 19) hx hb dX4_addConcept_6 (by decide) (fun c_6 => ?_) (fun c_6 => ?_)
  · skip
    have h12 : nC < 12 := (nI_ltI (a := nC) (b := 12) (by omega) (by decide)).mp c_6
    refine lv_aload_n hx hb dX4_addConcept_19 rfl (lv_at hl 0 rfl) ?_
    refine va_get (D := D) (ci := 3) (v := .int (nI nC)) (C := RX4) (T := TX4) (N := 11) hx hb hts win_X4 hown hK hP (0) (rfl) rfl 2 (by decide) w_0 (fun _ h9 => h9) rfl dX4_addConcept_20 ?_
    refine lv_istore_n (lv' := [(1, .int (nI nC)), (0, .ref (a 0))]) hx hb dX4_addConcept_23 rfl hl (by decide) rfl (fun ls hl => ?_)
    refine lv_aload_n hx hb dX4_addConcept_24 rfl (lv_at hl 1 rfl) ?_
    refine va_get (D := D) (ci := 3) (v := .ref (a 1)) (C := RX4) (T := TX4) (N := 11) hx hb hts win_X4 hown hK hP (0) (rfl) rfl 0 (by decide) w_2 (fun _ h9 => h9) rfl dX4_addConcept_25 ?_
    refine lv_iload_n hx hb dX4_addConcept_28 rfl (lv_at hl 0 rfl) ?_
    refine lv_iconst (v := (-1)) hx hb dX4_addConcept_29 (by decide) ?_
    refine g_iast hx hb hK hP hD hS (1) 0 (n := 12) (f := par) (rfl) rfl nC rfl (by omega) (by decide) dX4_addConcept_30 (WD cI cO a FA nC nR nL nF (upd par nC (-1)) wt stk flw hd rea sig ++ (WF FA ck cf cd cv nx nF ++ R)) rfl (fun H locs hP hD hS => ?_)
    refine lv_aload_n hx hb dX4_addConcept_31 rfl (lv_at hl 1 rfl) ?_
    refine lv_dup hx hb dX4_addConcept_32 rfl ?_
    refine va_get (D := D) (ci := 3) (v := .int (nI nC)) (C := RX4) (T := TX4) (N := 11) hx hb hts win_X4 hown hK hP (0) (rfl) rfl 2 (by decide) w_0 (fun _ h9 => h9) rfl dX4_addConcept_33 ?_
    refine lv_iconst (v := 1) hx hb dX4_addConcept_36 (by decide) ?_
    refine lv_iadd hx hb dX4_addConcept_37 ?_
    refine lv_topi (fun dv edv => ?_)
    obtain rfl : dv = nI (nC + 1) := by rw [edv]; exact nI_1 nC
    refine va_put (D := D) (ci := 3) (v := .int (nI (nC + 1))) (ty := .int) (C := RX4) (T := TX4) (N := 11) hx hb hts win_X4 tyX4 tyX4_ok nmX4 hown hK hP hD hS (0) (rfl) rfl 2 (by decide) w_0 (fun _ h9 => h9) rfl (by decide +kernel) rfl rfl (Nat.le_of_ble_eq_true rfl) dX4_addConcept_38 (fun H locs hP hD hS => ?_)
    have hP : va_P D vwCl (WD cI cO a FA (nC + 1) nR nL nF (upd par nC (-1)) wt stk flw hd rea sig ++ (WF FA ck cf cd cv nx nF ++ R)) H := hP
    have hD : va_D A (WD cI cO a FA (nC + 1) nR nL nF (upd par nC (-1)) wt stk flw hd rea sig ++ (WF FA ck cf cd cv nx nF ++ R)) := hD
    refine lv_iload_n hx hb dX4_addConcept_41 rfl (lv_at hl 0 rfl) ?_
    exact vx_ret (W.widen (k := 1) (n := 6) (Nat.le_of_ble_eq_true rfl) (Nat.le_of_ble_eq_true rfl) (W.iret (v := nI nC) hx hb hr (fun t ht hW => ⟨⟨nI nC, (), rfl, ⟨h12, rfl⟩, g_PD ht hP hD⟩, hS.F ht⟩) hS.2.2 dX4_addConcept_42))
  · skip
    have h12 : ¬ nC < 12 := mt (nI_ltI (a := nC) (b := 12) (by omega) (by decide)).mpr c_6
    exact g_throw (D := D) (cI := cI) (cZ := cZ) (cO := cO) (cL := cL) (dt := dt) (A := A) (text := "there are 12 concepts") hx hb hlt hown (by decide +kernel) w_3 w_4 (by decide +kernel) hg hat_0 gE_at0 hg.2.1.2.2.2.2.2.2.1 gE_ot0 (hl.1.trans hml.symm) dX4_addConcept_9 dX4_addConcept_12 dX4_addConcept_13 dX4_addConcept_15 dX4_addConcept_18 hout (Nat.le_of_ble_eq_true rfl) (Nat.le_of_ble_eq_true rfl) (Nat.le_of_ble_eq_true rfl) (Nat.le_of_ble_eq_true rfl) hlocks (⟨rfl, h12⟩) (Nat.le_of_ble_eq_true rfl) (Nat.le_of_ble_eq_true rfl)
set_option maxHeartbeats 4000000 in
set_option maxRecDepth 100000 in
/-- a filing more -/
theorem c4_file (l : Launch) (D : va_G) (cI cZ cO cL : ClassId) (dt : Nat) (A : Nat → Prop) (a FA : Nat → Nat) (nC nR nL nF : Nat) (par wt stk flw : Nat → Int32) (hd : Nat → Option Nat) (rea sig : Nat → Int32) (ck cf cd : Nat → Nat) (cv : Nat → Int32) (nx : Nat → Option Nat) (R : va_W)  (hlt : l.stackTraces = false) (hC12 : nC ≤ 12) (hL8 : nL < 8) : vx_Met l yX4_file wsX4_file ({ frames := 6, cells := 1, slots := 6, locals := 90 } : Room) (gP D cI cZ cO cL dt A [.ref (a 0)] (fun H => va_P D vwCl (WD cI cO a FA nC nR nL nF par wt stk flw hd rea sig ++ (WF FA ck cf cd cv nx nF ++ R)) H ∧ va_D A (WD cI cO a FA nC nR nL nF par wt stk flw hd rea sig ++ (WF FA ck cf cd cv nx nF ++ R)))) (va_Qi (fun (r : Int32) (u : Unit) => nL < 7 ∧ r = nI (nL + 1)) (fun u t => va_P D vwCl (WD cI cO a FA nC nR (nL + 1) nF par wt stk flw hd rea sig ++ (WF FA ck cf cd cv nx nF ++ R)) t.heap ∧ va_D A (WD cI cO a FA nC nR (nL + 1) nF par wt stk flw hd rea sig ++ (WF FA ck cf cd cv nx nF ++ R))) A) (xU (fun E => E = "java/lang/IllegalStateException" ∧ ¬ nL < 7)) 1 6 A := by
  refine vx_ofW (cc := cX4_file) (maxL := 1) (ret := (some .int)) (by decide) rfl ?_
  intro p9 e9 s m9 args below meth c9 s₁ B hml hout hv
  obtain ⟨rfl, hg, hP, hD⟩ := hv
  have hx := B.exec
  have hb := B.bytes
  have hr := B.returns
  have hts := atoms_spec (ws := wsX4_file) B.pre
  have hown : s.vm.findClass RX4 = some m9.cls := findClass_of_methodNamed B.named
  have hlocks := B.notSynchronized
  have hK := hg.1
  have hS : va_S A s.heap s.heap [] := va_S.rf
  have w_0 := hts (.fieldLink RX4 73 "Dimfacts" "latest" "I") (by decide +kernel)
  have win_X4 : ∀ w ∈ wsX40, w ∈ wsX4_file := by decide +kernel
  have w_2 := hts (.classLink RX4 46 "java/lang/IllegalStateException") (by decide +kernel)
  have w_3 := hts (.initialized "java/lang/IllegalStateException") (by decide +kernel)
  have hat_0 : ∀ w ∈ (vx_atS RX4 50 "java/lang/IllegalStateException" gUp).filter goodWord, w.before _ s = true := fun w h => hts w (List.mem_cons_of_mem _ (List.mem_append_right _ h))
  have hl := lv_entry ([.ref (a 0)]) (n := 1) (Nat.le_of_ble_eq_true rfl)
  rw [lg_entry_eq]
  generalize (lg_sl ([.ref (a 0)]) ++ List.replicate (1 - (lg_sl ([.ref (a 0)])).length) Slot.unset).toArray = ls at hl ⊢
  have hl : lv_has ls 1 [(0, .ref (a 0))] := hl
  refine lv_aload_n hx hb dX4_file_0 rfl (lv_at hl 0 rfl) ?_
  refine va_get (D := D) (ci := 3) (v := .int (nI nL)) (C := RX4) (T := TX4) (N := 11) hx hb hts win_X4 hown hK hP (0) (rfl) rfl 6 (by decide) w_0 (fun _ h9 => h9) rfl dX4_file_1 ?_
  refine lv_bipush (v := 7) hx hb dX4_file_4 (by decide) ?_
  refine lv_icmp_lt (tgt := 19) hx hb dX4_file_6 (by decide) (fun c_6 => ?_) (fun c_6 => ?_)
  · skip
    have h7 : nL < 7 := (nI_ltI (a := nL) (b := 7) (by omega) (by decide)).mp c_6
    refine lv_aload_n hx hb dX4_file_19 rfl (lv_at hl 0 rfl) ?_
    refine lv_dup hx hb dX4_file_20 rfl ?_
    refine va_get (D := D) (ci := 3) (v := .int (nI nL)) (C := RX4) (T := TX4) (N := 11) hx hb hts win_X4 hown hK hP (0) (rfl) rfl 6 (by decide) w_0 (fun _ h9 => h9) rfl dX4_file_21 ?_
    refine lv_iconst (v := 1) hx hb dX4_file_24 (by decide) ?_
    refine lv_iadd hx hb dX4_file_25 ?_
    refine lv_topi (fun dv edv => ?_)
    obtain rfl : dv = nI (nL + 1) := by rw [edv]; exact nI_1 nL
    refine va_put (D := D) (ci := 3) (v := .int (nI (nL + 1))) (ty := .int) (C := RX4) (T := TX4) (N := 11) hx hb hts win_X4 tyX4 tyX4_ok nmX4 hown hK hP hD hS (0) (rfl) rfl 6 (by decide) w_0 (fun _ h9 => h9) rfl (by decide +kernel) rfl rfl (Nat.le_of_ble_eq_true rfl) dX4_file_26 (fun H locs hP hD hS => ?_)
    have hP : va_P D vwCl (WD cI cO a FA nC nR (nL + 1) nF par wt stk flw hd rea sig ++ (WF FA ck cf cd cv nx nF ++ R)) H := hP
    have hD : va_D A (WD cI cO a FA nC nR (nL + 1) nF par wt stk flw hd rea sig ++ (WF FA ck cf cd cv nx nF ++ R)) := hD
    refine lv_aload_n hx hb dX4_file_29 rfl (lv_at hl 0 rfl) ?_
    refine va_get (D := D) (ci := 3) (v := .int (nI (nL + 1))) (C := RX4) (T := TX4) (N := 11) hx hb hts win_X4 hown hK hP (0) (rfl) rfl 6 (by decide) w_0 (fun _ h9 => h9) rfl dX4_file_30 ?_
    exact vx_ret (W.widen (k := 1) (n := 6) (Nat.le_of_ble_eq_true rfl) (Nat.le_of_ble_eq_true rfl) (W.iret (v := nI (nL + 1)) hx hb hr (fun t ht hW => ⟨⟨nI (nL + 1), (), rfl, ⟨h7, rfl⟩, g_PD ht hP hD⟩, hS.F ht⟩) hS.2.2 dX4_file_33))
  · skip
    have h7 : ¬ nL < 7 := mt (nI_ltI (a := nL) (b := 7) (by omega) (by decide)).mpr c_6
    exact g_throw (D := D) (cI := cI) (cZ := cZ) (cO := cO) (cL := cL) (dt := dt) (A := A) (text := "there are 8 filings") hx hb hlt hown (by decide +kernel) w_2 w_3 (by decide +kernel) hg hat_0 gE_at0 hg.2.1.2.2.2.2.2.2.1 gE_ot0 (hl.1.trans hml.symm) dX4_file_9 dX4_file_12 dX4_file_13 dX4_file_15 dX4_file_18 hout (Nat.le_of_ble_eq_true rfl) (Nat.le_of_ble_eq_true rfl) (Nat.le_of_ble_eq_true rfl) (Nat.le_of_ble_eq_true rfl) hlocks (⟨rfl, h7⟩) (Nat.le_of_ble_eq_true rfl) (Nat.le_of_ble_eq_true rfl)
set_option maxHeartbeats 4000000 in
set_option maxRecDepth 100000 in
/-- under none -/
theorem c4_unhang (l : Launch) (D : va_G) (cI cZ cO cL : ClassId) (dt : Nat) (A : Nat → Prop) (a FA : Nat → Nat) (nC nR nL nF : Nat) (par wt stk flw : Nat → Int32) (hd : Nat → Option Nat) (rea sig : Nat → Int32) (ck cf cd : Nat → Nat) (cv : Nat → Int32) (nx : Nat → Option Nat) (R : va_W) (ci : Int32) (hlt : l.stackTraces = false) (hC12 : nC ≤ 12) (hL8 : nL < 8) : vx_Met l yX4_unhang wsX4_unhang ({ frames := 7, cells := 1, slots := 6, locals := 111 } : Room) (gP D cI cZ cO cL dt A [.ref (a 0), .int ci] (fun H => va_P D vwCl (WD cI cO a FA nC nR nL nF par wt stk flw hd rea sig ++ (WF FA ck cf cd cv nx nF ++ R)) H ∧ va_D A (WD cI cO a FA nC nR nL nF par wt stk flw hd rea sig ++ (WF FA ck cf cd cv nx nF ++ R)))) (va_Qi (fun (r : Int32) (u : Nat) => (ci = nI u ∧ u < nC) ∧ r = par u) (fun u t => va_P D vwCl (WD cI cO a FA nC nR nL nF (upd par u (-1)) wt stk flw hd rea sig ++ (WF FA ck cf cd cv nx nF ++ R)) t.heap ∧ va_D A (WD cI cO a FA nC nR nL nF (upd par u (-1)) wt stk flw hd rea sig ++ (WF FA ck cf cd cv nx nF ++ R))) A) (xU (fun E => E = "java/lang/IndexOutOfBoundsException" ∧ ¬ cOk nC ci)) 1 6 A := by
  refine vx_ofW (cc := cX4_unhang) (maxL := 3) (ret := (some .int)) (by decide) rfl ?_
  intro p9 e9 s m9 args below meth c9 s₁ B hml hout hv
  obtain ⟨rfl, hg, hP, hD⟩ := hv
  have hx := B.exec
  have hb := B.bytes
  have hr := B.returns
  have hts := atoms_spec (ws := wsX4_unhang) B.pre
  have hown : s.vm.findClass RX4 = some m9.cls := findClass_of_methodNamed B.named
  have hlocks := B.notSynchronized
  have hK := hg.1
  have hS : va_S A s.heap s.heap [] := va_S.rf
  have w_0 := hts (.fieldLink RX4 9 "Dimfacts" "parents" "[I") (by decide +kernel)
  have win_X4 : ∀ w ∈ wsX40, w ∈ wsX4_unhang := by decide +kernel
  have hl := lv_entry ([.ref (a 0), .int ci]) (n := 3) (Nat.le_of_ble_eq_true rfl)
  rw [lg_entry_eq]
  generalize (lg_sl ([.ref (a 0), .int ci]) ++ List.replicate (3 - (lg_sl ([.ref (a 0), .int ci])).length) Slot.unset).toArray = ls at hl ⊢
  have hl : lv_has ls 3 [(0, .ref (a 0)), (1, .int ci)] := hl
  refine lv_aload_n hx hb dX4_unhang_0 rfl (lv_at hl 0 rfl) ?_
  refine lv_iload_n hx hb dX4_unhang_1 rfl (lv_at hl 1 rfl) ?_
  refine g_cxv (vx_runV (As := [.int ci]) (rest := []) ⟨hx, hb, hml, hown, hts⟩ (c4_checkConcept l D cI cZ cO cL dt A a FA nC nR nL nF par wt stk flw hd rea sig ck cf cd cv nx R ci hlt hC12 hL8) (cwV 1 hts gX4_unhang_X4_checkConcept rfl rfl rfl (by decide +kernel) ⟨Nat.le_of_ble_eq_true rfl, Nat.le_of_ble_eq_true rfl⟩) (gP.v hg hP 3 rfl (0) (rfl) hP) rfl rfl hl.1 rfl (lv_room (Nat.le_of_ble_eq_true rfl)) dX4_unhang_2 ⟨Nat.le_of_ble_eq_true rfl, Nat.le_of_ble_eq_true rfl⟩) (fun E9 ce9 q9 H9 hE9 hz9 hk9 hc9 hv9 hf9 => g_outU hout hlocks hE9 hz9 hk9 hc9 hv9 hf9 (fun _ h => nomatch h) (Nat.le_of_ble_eq_true rfl) (Nat.le_of_ble_eq_true rfl)) (fun hr_1 => ?_)
  refine W.widen (k := 1) (n := 6) (Nat.le_of_ble_eq_true rfl) (Nat.le_of_ble_eq_true rfl) ?_
  obtain ⟨c1, rfl, hc1⟩ := hr_1
  refine lv_aload_n hx hb dX4_unhang_5 rfl (lv_at hl 0 rfl) ?_
  refine va_get (D := D) (ci := 3) (v := .ref (a 1)) (C := RX4) (T := TX4) (N := 11) hx hb hts win_X4 hown hK hP (0) (rfl) rfl 0 (by decide) w_0 (fun _ h9 => h9) rfl dX4_unhang_6 ?_
  refine lv_iload_n hx hb dX4_unhang_9 rfl (lv_at hl 1 rfl) ?_
  refine g_iald hx hb hK hP (1) 0 (n := 12) (f := par) (rfl) rfl c1 rfl (by omega) (by decide) dX4_unhang_10 ?_
  refine lv_istore_n (lv' := [(2, .int (par c1)), (0, .ref (a 0)), (1, .int (nI c1))]) hx hb dX4_unhang_11 rfl hl (by decide) rfl (fun ls hl => ?_)
  refine lv_aload_n hx hb dX4_unhang_12 rfl (lv_at hl 1 rfl) ?_
  refine va_get (D := D) (ci := 3) (v := .ref (a 1)) (C := RX4) (T := TX4) (N := 11) hx hb hts win_X4 hown hK hP (0) (rfl) rfl 0 (by decide) w_0 (fun _ h9 => h9) rfl dX4_unhang_13 ?_
  refine lv_iload_n hx hb dX4_unhang_16 rfl (lv_at hl 2 rfl) ?_
  refine lv_iconst (v := (-1)) hx hb dX4_unhang_17 (by decide) ?_
  refine g_iast hx hb hK hP hD hS (1) 0 (n := 12) (f := par) (rfl) rfl c1 rfl (by omega) (by decide) dX4_unhang_18 (WD cI cO a FA nC nR nL nF (upd par c1 (-1)) wt stk flw hd rea sig ++ (WF FA ck cf cd cv nx nF ++ R)) rfl (fun H locs hP hD hS => ?_)
  refine lv_iload_n hx hb dX4_unhang_19 rfl (lv_at hl 0 rfl) ?_
  exact vx_ret (W.widen (k := 1) (n := 6) (Nat.le_of_ble_eq_true rfl) (Nat.le_of_ble_eq_true rfl) (W.iret (v := par c1) hx hb hr (fun t ht hW => ⟨⟨par c1, c1, rfl, ⟨⟨rfl, hc1⟩, rfl⟩, g_PD ht hP hD⟩, hS.F ht⟩) hS.2.2 dX4_unhang_20))
set_option maxHeartbeats 4000000 in
set_option maxRecDepth 100000 in
/-- a concept is another, or under it -/
theorem c4_isAtOrUnder (l : Launch) (D : va_G) (cI cZ cO cL : ClassId) (dt : Nat) (A : Nat → Prop) (a FA : Nat → Nat) (nC nR nL nF : Nat) (par wt stk flw : Nat → Int32) (hd : Nat → Option Nat) (rea sig : Nat → Int32) (ck cf cd : Nat → Nat) (cv : Nat → Int32) (nx : Nat → Option Nat) (R : va_W) (c t : Nat) (L : List Nat) (hT : tree nC par L) (hC12 : nC ≤ 12) (hc : c < nC) : Met l yX4_isAtOrUnder wsX4_isAtOrUnder ({ frames := 0, cells := 0, slots := 0, locals := 0 } : Room) (gP D cI cZ cO cL dt A [.ref (a 0), .int (nI c), .int (nI t)] (fun H => va_P D vwCl (WD cI cO a FA nC nR nL nF par wt stk flw hd rea sig ++ (WF FA ck cf cd cv nx nF ++ R)) H)) (vp_Si (fun r => r = bI (anc par (nI t) L (nI c) = true))) 0 0 (fun _ => False) := by
  refine Met.ofW (cc := cX4_isAtOrUnder) (maxL := 5) (ret := (some .boolean)) (by decide) rfl ?_
  intro p9 e9 s m9 args below meth c9 s₁ B hml hv
  obtain ⟨rfl, hg, hP⟩ := hv
  have hx := B.exec
  have hb := B.bytes
  have hr := B.returns
  have hts := atoms_spec (ws := wsX4_isAtOrUnder) B.pre
  have hown : s.vm.findClass RX4 = some m9.cls := findClass_of_methodNamed B.named
  have hlocks := B.notSynchronized
  have hK := hg.1
  have w_0 := hts (.fieldLink RX4 9 "Dimfacts" "parents" "[I") (by decide +kernel)
  have win_X4 : ∀ w ∈ wsX40, w ∈ wsX4_isAtOrUnder := by decide +kernel
  have hl := lv_entry ([.ref (a 0), .int (nI c), .int (nI t)]) (n := 5) (Nat.le_of_ble_eq_true rfl)
  rw [lg_entry_eq]
  generalize (lg_sl ([.ref (a 0), .int (nI c), .int (nI t)]) ++ List.replicate (5 - (lg_sl ([.ref (a 0), .int (nI c), .int (nI t)])).length) Slot.unset).toArray = ls at hl ⊢
  have hl : lv_has ls 5 [(0, .ref (a 0)), (1, .int (nI c)), (2, .int (nI t))] := hl
  have lp : ∀ (n st : Nat) (x : Int32) (L' : List Nat), st + L'.length ≤ 12 → 12 < st + n → topo par L' → L'.Nodup → (∀ k, k ∈ L' → k < 12) → atL L' x → anc par (nI t) L (nI c) = anc par (nI t) L' x → ∀ ls : Array Slot, lv_has ls 5 [(4, .int (nI st)), (3, .int x), (0, .ref (a 0)), (1, .int (nI c)), (2, .int (nI t))] → W p9 l e9 (headSpec wsX4_isAtOrUnder ({ frames := 0, cells := 0, slots := 0, locals := 0 } : Room)).room s m9 ([.ref (a 0), .int (nI c), .int (nI t)] : List Value).toArray below meth c9 s.heap [] 0 0 (MQ below (vp_Si (fun r => r = bI (anc par (nI t) L (nI c) = true))) ([.ref (a 0), .int (nI c), .int (nI t)] : List Value).toArray s 0 0 (fun _ => False)) (F0 m9 5 ls []) := by
    intro n
    induction n with
    | zero => intro st x L' h1 h2; exact absurd h2 (by omega)
    | succ n ih =>
      intro st x L' h1 h2 h3 h4 h5 h6 h7 ls hl
      have hb5 : ∀ k, k ∈ L' → k < 2 ^ 31 := fun k hk => by have := h5 k hk; omega
      refine lv_iload hx hb dX4_isAtOrUnder_5 (lv_at hl 0 rfl) ?_
      refine lv_bipush (v := 12) hx hb dX4_isAtOrUnder_7 (by decide) ?_
      refine lv_icmp_ge (tgt := 37) hx hb dX4_isAtOrUnder_9 (by decide) (fun c_9 => ?_) (fun c_9 => ?_)
      · skip
        have hst : 12 ≤ st := (nI_leI (a := 12) (b := st) (by decide) (by omega)).mp c_9
        have hL0 : L' = [] := List.length_eq_zero_iff.mp (by omega)
        have hf : anc par (nI t) L (nI c) = false := by rw [h7, hL0]; rfl
        refine lv_iconst (v := 0) hx hb dX4_isAtOrUnder_37 (by decide) ?_
        exact W.zret (v := 0) hx hb hr (rfl) (fun t ht hW => ⟨0, rfl, (bI_f (by rw [hf]; decide)), ht⟩) (fun q h => nomatch h) dX4_isAtOrUnder_38
      · skip
        refine lv_iload_n hx hb dX4_isAtOrUnder_12 rfl (lv_at hl 1 rfl) ?_
        refine lv_iconst (v := (-1)) hx hb dX4_isAtOrUnder_13 (by decide) ?_
        refine lv_icmp_eq (tgt := 37) hx hb dX4_isAtOrUnder_14 (by decide) (fun c_14 => ?_) (fun c_14 => ?_)
        · skip
          have hf : anc par (nI t) L (nI c) = false := by rw [h7, c_14]; exact anc_m1 hb5
          refine lv_iconst (v := 0) hx hb dX4_isAtOrUnder_37 (by decide) ?_
          exact W.zret (v := 0) hx hb hr (rfl) (fun t ht hW => ⟨0, rfl, (bI_f (by rw [hf]; decide)), ht⟩) (fun q h => nomatch h) dX4_isAtOrUnder_38
        · skip
          have hx1 : ∃ j, j ∈ L' ∧ x = nI j := by
            rcases h6 with q | q
            · exact absurd q c_14
            · exact q
          obtain ⟨j, hj, rfl⟩ := hx1
          obtain ⟨L2, g1, g2, g3, g4, g5, g6, g7⟩ := anc_step h3 h4 hb5 hj
          rw [g7] at h7
          have hj12 := h5 j hj
          refine lv_iload_n hx hb dX4_isAtOrUnder_17 rfl (lv_at hl 1 rfl) ?_
          refine lv_iload_n hx hb dX4_isAtOrUnder_18 rfl (lv_at hl 4 rfl) ?_
          refine lv_icmp_ne (tgt := 24) hx hb dX4_isAtOrUnder_19 (by decide) (fun c_19 => ?_) (fun c_19 => ?_)
          · skip
            rw [if_neg c_19] at h7
            refine lv_aload_n hx hb dX4_isAtOrUnder_24 rfl (lv_at hl 2 rfl) ?_
            refine va_get (D := D) (ci := 3) (v := .ref (a 1)) (C := RX4) (T := TX4) (N := 11) hx hb hts win_X4 hown hK hP (0) (rfl) rfl 0 (by decide) w_0 (fun _ h9 => h9) rfl dX4_isAtOrUnder_25 ?_
            refine lv_iload_n hx hb dX4_isAtOrUnder_28 rfl (lv_at hl 1 rfl) ?_
            refine g_iald hx hb hK hP (1) 0 (n := 12) (f := par) (rfl) rfl j rfl (by omega) (by decide) dX4_isAtOrUnder_29 ?_
            refine lv_istore_n (lv' := [(3, .int (par j)), (4, .int (nI st)), (0, .ref (a 0)), (1, .int (nI c)), (2, .int (nI t))]) hx hb dX4_isAtOrUnder_30 rfl hl (by decide) rfl (fun ls hl => ?_)
            refine lv_iinc (v := nI (st + 1)) (lv' := [(4, .int (nI (st + 1))), (3, .int (par j)), (0, .ref (a 0)), (1, .int (nI c)), (2, .int (nI t))]) hx hb dX4_isAtOrUnder_31 hl (k := 1) rfl (nI_1 st) (by decide) rfl (fun ls hl => ?_)
            refine lv_goto (tgt := 5) hx hb dX4_isAtOrUnder_34 (by decide) ?_
            exact ih (st + 1) (par j) L2 (by omega) (by omega) g2 g3 (fun k hk => h5 k (g4 k hk)) g6 h7 _ (lv_sub hl [0, 1, 2, 3, 4] rfl)
          · skip
            have hf : anc par (nI t) L (nI c) = true := by rw [h7, if_pos c_19]
            refine lv_iconst (v := 1) hx hb dX4_isAtOrUnder_22 (by decide) ?_
            exact W.zret (v := 1) hx hb hr (rfl) (fun t ht hW => ⟨1, rfl, (bI_t hf), ht⟩) (fun q h => nomatch h) dX4_isAtOrUnder_23
  refine lv_iload_n hx hb dX4_isAtOrUnder_0 rfl (lv_at hl 1 rfl) ?_
  refine lv_istore_n (lv' := [(3, .int (nI c)), (0, .ref (a 0)), (1, .int (nI c)), (2, .int (nI t))]) hx hb dX4_isAtOrUnder_1 rfl hl (by decide) rfl (fun ls hl => ?_)
  refine lv_iconst (v := 0) hx hb dX4_isAtOrUnder_2 (by decide) ?_
  refine lv_istore (lv' := [(4, .int 0), (3, .int (nI c)), (0, .ref (a 0)), (1, .int (nI c)), (2, .int (nI t))]) hx hb dX4_isAtOrUnder_3 hl (by decide) rfl (fun ls hl => ?_)
  exact lp 13 0 (nI c) L (by rw [hT.2.2.2]; omega) (by omega) hT.1 hT.2.1 (fun k hk => by have := (hT.2.2.1 k).mp hk; omega) (Or.inr ⟨c, (hT.2.2.1 c).mpr hc, rfl⟩) rfl _ (lv_sub hl [0, 1, 2, 3, 4] rfl)
set_option maxHeartbeats 4000000 in
set_option maxRecDepth 100000 in
/-- under another -/
theorem c4_hang (l : Launch) (D : va_G) (cI cZ cO cL : ClassId) (dt : Nat) (A : Nat → Prop) (a FA : Nat → Nat) (nC nR nL nF : Nat) (par wt stk flw : Nat → Int32) (hd : Nat → Option Nat) (rea sig : Nat → Int32) (ck cf cd : Nat → Nat) (cv : Nat → Int32) (nx : Nat → Option Nat) (R : va_W) (L : List Nat) (ci pi ui : Int32) (hlt : l.stackTraces = false) (hC12 : nC ≤ 12) (hL8 : nL < 8) (hT : tree nC par L) : vx_Met l yX4_hang wsX4_hang ({ frames := 7, cells := 3, slots := 18, locals := 111 } : Room) (gP D cI cZ cO cL dt A [.ref (a 0), .int ci, .int pi, .int ui] (fun H => va_P D vwCl (WD cI cO a FA nC nR nL nF par wt stk flw hd rea sig ++ (WF FA ck cf cd cv nx nF ++ R)) H ∧ va_D A (WD cI cO a FA nC nR nL nF par wt stk flw hd rea sig ++ (WF FA ck cf cd cv nx nF ++ R)))) (va_Qi (fun (r : Int32) (u : Nat × Nat) => (ci = nI u.1 ∧ u.1 < nC) ∧ (pi = nI u.2 ∧ u.2 < nC) ∧ anc par (nI u.1) L (nI u.2) = false ∧ r = par u.1) (fun u t => va_P D vwCl (WD cI cO a FA nC nR nL nF (upd par u.1 (nI u.2)) (upd wt u.1 (if ui = 0 then -1 else 1)) stk flw hd rea sig ++ (WF FA ck cf cd cv nx nF ++ R)) t.heap ∧ va_D A (WD cI cO a FA nC nR nL nF (upd par u.1 (nI u.2)) (upd wt u.1 (if ui = 0 then -1 else 1)) stk flw hd rea sig ++ (WF FA ck cf cd cv nx nF ++ R))) A) (xU (fun E => (E = "java/lang/IndexOutOfBoundsException" ∧ ¬ (cOk nC ci ∧ cOk nC pi)) ∨ (E = "java/lang/IllegalArgumentException" ∧ ∃ c p : Nat, (ci = nI c ∧ c < nC) ∧ (pi = nI p ∧ p < nC) ∧ anc par (nI c) L (nI p) = true))) 3 18 A := by
  refine vx_ofW (cc := cX4_hang) (maxL := 5) (ret := (some .int)) (by decide) rfl ?_
  intro p9 e9 s m9 args below meth c9 s₁ B hml hout hv
  obtain ⟨rfl, hg, hP, hD⟩ := hv
  have hx := B.exec
  have hb := B.bytes
  have hr := B.returns
  have hts := atoms_spec (ws := wsX4_hang) B.pre
  have hown : s.vm.findClass RX4 = some m9.cls := findClass_of_methodNamed B.named
  have hlocks := B.notSynchronized
  have hK := hg.1
  have hS : va_S A s.heap s.heap [] := va_S.rf
  have w_0 := hts (.fieldLink RX4 9 "Dimfacts" "parents" "[I") (by decide +kernel)
  have win_X4 : ∀ w ∈ wsX40, w ∈ wsX4_hang := by decide +kernel
  have w_2 := hts (.fieldLink RX4 13 "Dimfacts" "weights" "[I") (by decide +kernel)
  have w_3 := hts (.classLink RX4 61 "java/lang/IllegalArgumentException") (by decide +kernel)
  have w_4 := hts (.initialized "java/lang/IllegalArgumentException") (by decide +kernel)
  have hat_1 : ∀ w ∈ (vx_atS RX4 65 "java/lang/IllegalArgumentException" gUp).filter goodWord, w.before _ s = true := fun w h => hts w (List.mem_cons_of_mem _ (List.mem_append_left _ (List.mem_append_right _ h)))
  have hl := lv_entry ([.ref (a 0), .int ci, .int pi, .int ui]) (n := 5) (Nat.le_of_ble_eq_true rfl)
  rw [lg_entry_eq]
  generalize (lg_sl ([.ref (a 0), .int ci, .int pi, .int ui]) ++ List.replicate (5 - (lg_sl ([.ref (a 0), .int ci, .int pi, .int ui])).length) Slot.unset).toArray = ls at hl ⊢
  have hl : lv_has ls 5 [(0, .ref (a 0)), (1, .int ci), (2, .int pi), (3, .int ui)] := hl
  refine lv_aload_n hx hb dX4_hang_0 rfl (lv_at hl 0 rfl) ?_
  refine lv_iload_n hx hb dX4_hang_1 rfl (lv_at hl 1 rfl) ?_
  refine g_cxv (vx_runV (As := [.int ci]) (rest := []) ⟨hx, hb, hml, hown, hts⟩ (c4_checkConcept l D cI cZ cO cL dt A a FA nC nR nL nF par wt stk flw hd rea sig ck cf cd cv nx R ci hlt hC12 hL8) (cwV 1 hts gX4_hang_X4_checkConcept rfl rfl rfl (by decide +kernel) ⟨Nat.le_of_ble_eq_true rfl, Nat.le_of_ble_eq_true rfl⟩) (gP.v hg hP 3 rfl (0) (rfl) hP) rfl rfl hl.1 rfl (lv_room (Nat.le_of_ble_eq_true rfl)) dX4_hang_2 ⟨Nat.le_of_ble_eq_true rfl, Nat.le_of_ble_eq_true rfl⟩) (fun E9 ce9 q9 H9 hE9 hz9 hk9 hc9 hv9 hf9 => g_outU hout hlocks (Or.inl ⟨hE9.1, fun q => hE9.2 q.1⟩) hz9 hk9 hc9 hv9 hf9 (fun _ h => nomatch h) (Nat.le_of_ble_eq_true rfl) (Nat.le_of_ble_eq_true rfl)) (fun hr_1 => ?_)
  refine W.widen (k := 1) (n := 6) (Nat.le_of_ble_eq_true rfl) (Nat.le_of_ble_eq_true rfl) ?_
  obtain ⟨c1, rfl, hc1⟩ := hr_1
  refine lv_aload_n hx hb dX4_hang_5 rfl (lv_at hl 0 rfl) ?_
  refine lv_iload_n hx hb dX4_hang_6 rfl (lv_at hl 2 rfl) ?_
  refine g_cxv (vx_runV (As := [.int pi]) (rest := []) ⟨hx, hb, hml, hown, hts⟩ (c4_checkConcept l D cI cZ cO cL dt A a FA nC nR nL nF par wt stk flw hd rea sig ck cf cd cv nx R pi hlt hC12 hL8) (cwV 1 hts gX4_hang_X4_checkConcept rfl rfl rfl (by decide +kernel) ⟨Nat.le_of_ble_eq_true rfl, Nat.le_of_ble_eq_true rfl⟩) (gP.v hg hP 3 rfl (0) (rfl) hP) rfl rfl hl.1 rfl (lv_room (Nat.le_of_ble_eq_true rfl)) dX4_hang_7 ⟨Nat.le_of_ble_eq_true rfl, Nat.le_of_ble_eq_true rfl⟩) (fun E9 ce9 q9 H9 hE9 hz9 hk9 hc9 hv9 hf9 => g_outU hout hlocks (Or.inl ⟨hE9.1, fun q => hE9.2 q.2⟩) hz9 hk9 hc9 hv9 hf9 (fun _ h => nomatch h) (Nat.le_of_ble_eq_true rfl) (Nat.le_of_ble_eq_true rfl)) (fun hr_2 => ?_)
  refine W.widen (k := 2) (n := 12) (Nat.le_of_ble_eq_true rfl) (Nat.le_of_ble_eq_true rfl) ?_
  obtain ⟨p1, rfl, hp1⟩ := hr_2
  refine lv_aload_n hx hb dX4_hang_10 rfl (lv_at hl 0 rfl) ?_
  refine lv_iload_n hx hb dX4_hang_11 rfl (lv_at hl 2 rfl) ?_
  refine lv_iload_n hx hb dX4_hang_12 rfl (lv_at hl 1 rfl) ?_
  refine g_csi (va_runV (As := [.int (nI p1), .int (nI c1)]) (rest := []) ⟨hx, hb, hml, hown, hts⟩ (c4_isAtOrUnder l D cI cZ cO cL dt A a FA nC nR nL nF par wt stk flw hd rea sig ck cf cd cv nx R p1 c1 L hT hC12 hp1) (cwV 2 hts gX4_hang_X4_isAtOrUnder rfl rfl rfl (by decide +kernel) ⟨Nat.le_of_ble_eq_true rfl, Nat.le_of_ble_eq_true rfl⟩) (gP.v hg hP 3 rfl (0) (rfl) hP) rfl rfl hl.1 rfl (lv_room (Nat.le_of_ble_eq_true rfl)) dX4_hang_13 ⟨Nat.le_of_ble_eq_true rfl, Nat.le_of_ble_eq_true rfl⟩) (fun r_3 hr_3 => ?_)
  obtain rfl : r_3 = bI (anc par (nI c1) L (nI p1) = true) := hr_3
  refine lv_if_eq (tgt := 29) hx hb dX4_hang_16 (by decide) (fun c_16 => ?_) (fun c_16 => ?_)
  · skip
    have c_16 := bI_z c_16
    have hno : anc par (nI c1) L (nI p1) = false := by simpa using c_16
    refine lv_aload_n hx hb dX4_hang_29 rfl (lv_at hl 0 rfl) ?_
    refine va_get (D := D) (ci := 3) (v := .ref (a 1)) (C := RX4) (T := TX4) (N := 11) hx hb hts win_X4 hown hK hP (0) (rfl) rfl 0 (by decide) w_0 (fun _ h9 => h9) rfl dX4_hang_30 ?_
    refine lv_iload_n hx hb dX4_hang_33 rfl (lv_at hl 1 rfl) ?_
    refine g_iald hx hb hK hP (1) 0 (n := 12) (f := par) (rfl) rfl c1 rfl (by omega) (by decide) dX4_hang_34 ?_
    refine lv_istore (lv' := [(4, .int (par c1)), (0, .ref (a 0)), (1, .int (nI c1)), (2, .int (nI p1)), (3, .int ui)]) hx hb dX4_hang_35 hl (by decide) rfl (fun ls hl => ?_)
    refine lv_aload_n hx hb dX4_hang_37 rfl (lv_at hl 1 rfl) ?_
    refine va_get (D := D) (ci := 3) (v := .ref (a 1)) (C := RX4) (T := TX4) (N := 11) hx hb hts win_X4 hown hK hP (0) (rfl) rfl 0 (by decide) w_0 (fun _ h9 => h9) rfl dX4_hang_38 ?_
    refine lv_iload_n hx hb dX4_hang_41 rfl (lv_at hl 2 rfl) ?_
    refine lv_iload_n hx hb dX4_hang_42 rfl (lv_at hl 3 rfl) ?_
    refine g_iast hx hb hK hP hD hS (1) 0 (n := 12) (f := par) (rfl) rfl c1 rfl (by omega) (by decide) dX4_hang_43 (WD cI cO a FA nC nR nL nF (upd par c1 (nI p1)) wt stk flw hd rea sig ++ (WF FA ck cf cd cv nx nF ++ R)) rfl (fun H locs hP hD hS => ?_)
    refine lv_aload_n hx hb dX4_hang_44 rfl (lv_at hl 1 rfl) ?_
    refine va_get (D := D) (ci := 3) (v := .ref (a 2)) (C := RX4) (T := TX4) (N := 11) hx hb hts win_X4 hown hK hP (0) (rfl) rfl 1 (by decide) w_2 (fun _ h9 => h9) rfl dX4_hang_45 ?_
    refine lv_iload_n hx hb dX4_hang_48 rfl (lv_at hl 2 rfl) ?_
    refine lv_iload_n hx hb dX4_hang_49 rfl (lv_at hl 4 rfl) ?_
    refine lv_if_eq (tgt := 57) hx hb dX4_hang_50 (by decide) (fun c_50 => ?_) (fun c_50 => ?_)
    · skip
      have eu : (-1 : Int32) = (if ui = 0 then -1 else 1) := (if_pos c_50).symm
      refine lv_iconst (v := (-1)) hx hb dX4_hang_57 (by decide) ?_
      refine lv_topi (fun dv edv => ?_)
      obtain rfl : dv = (if ui = 0 then -1 else 1) := by rw [edv]; exact eu
      refine g_iast hx hb hK hP hD hS (2) 0 (n := 12) (f := wt) (rfl) rfl c1 rfl (by omega) (by decide) dX4_hang_58 (WD cI cO a FA nC nR nL nF (upd par c1 (nI p1)) (upd wt c1 (if ui = 0 then -1 else 1)) stk flw hd rea sig ++ (WF FA ck cf cd cv nx nF ++ R)) rfl (fun H locs hP hD hS => ?_)
      refine lv_iload hx hb dX4_hang_59 (lv_at hl 0 rfl) ?_
      exact vx_ret (W.widen (k := 3) (n := 18) (Nat.le_of_ble_eq_true rfl) (Nat.le_of_ble_eq_true rfl) (W.iret (v := par c1) hx hb hr (fun t ht hW => ⟨⟨par c1, (c1, p1), rfl, ⟨⟨rfl, hc1⟩, ⟨rfl, hp1⟩, hno, rfl⟩, g_PD ht hP hD⟩, hS.F ht⟩) hS.2.2 dX4_hang_61))
    · skip
      have eu : (1 : Int32) = (if ui = 0 then -1 else 1) := (if_neg c_50).symm
      refine lv_iconst (v := 1) hx hb dX4_hang_53 (by decide) ?_
      refine lv_goto (tgt := 58) hx hb dX4_hang_54 (by decide) ?_
      refine lv_topi (fun dv edv => ?_)
      obtain rfl : dv = (if ui = 0 then -1 else 1) := by rw [edv]; exact eu
      refine g_iast hx hb hK hP hD hS (2) 0 (n := 12) (f := wt) (rfl) rfl c1 rfl (by omega) (by decide) dX4_hang_58 (WD cI cO a FA nC nR nL nF (upd par c1 (nI p1)) (upd wt c1 (if ui = 0 then -1 else 1)) stk flw hd rea sig ++ (WF FA ck cf cd cv nx nF ++ R)) rfl (fun H locs hP hD hS => ?_)
      refine lv_iload hx hb dX4_hang_59 (lv_at hl 0 rfl) ?_
      exact vx_ret (W.widen (k := 3) (n := 18) (Nat.le_of_ble_eq_true rfl) (Nat.le_of_ble_eq_true rfl) (W.iret (v := par c1) hx hb hr (fun t ht hW => ⟨⟨par c1, (c1, p1), rfl, ⟨⟨rfl, hc1⟩, ⟨rfl, hp1⟩, hno, rfl⟩, g_PD ht hP hD⟩, hS.F ht⟩) hS.2.2 dX4_hang_61))
  · skip
    have c_16 := bI_n c_16
    exact g_throw (D := D) (cI := cI) (cZ := cZ) (cO := cO) (cL := cL) (dt := dt) (A := A) (text := "the parent is the concept or hangs under it") hx hb hlt hown (by decide +kernel) w_3 w_4 (by decide +kernel) hg hat_1 gE_at1 hg.2.1.2.2.2.2.2.2.2.1 gE_ot1 (hl.1.trans hml.symm) dX4_hang_19 dX4_hang_22 dX4_hang_23 dX4_hang_25 dX4_hang_28 hout (Nat.le_of_ble_eq_true rfl) (Nat.le_of_ble_eq_true rfl) (Nat.le_of_ble_eq_true rfl) (Nat.le_of_ble_eq_true rfl) hlocks (Or.inr ⟨rfl, c1, p1, ⟨rfl, hc1⟩, ⟨rfl, hp1⟩, c_16⟩) (Nat.le_of_ble_eq_true rfl) (Nat.le_of_ble_eq_true rfl)
set_option maxHeartbeats 4000000 in
set_option maxRecDepth 100000 in
/-- a rule more -/
theorem c4_addRoll (l : Launch) (D : va_G) (cI cZ cO cL : ClassId) (dt : Nat) (A : Nat → Prop) (a FA : Nat → Nat) (nC nR nL nF : Nat) (par wt stk flw : Nat → Int32) (hd : Nat → Option Nat) (rea sig : Nat → Int32) (ck cf cd : Nat → Nat) (cv : Nat → Int32) (nx : Nat → Option Nat) (R : va_W) (si fi : Int32) (hlt : l.stackTraces = false) (hC12 : nC ≤ 12) (hL8 : nL < 8) (hR : nR ≤ 5) : vx_Met l yX4_addRoll wsX4_addRoll ({ frames := 7, cells := 3, slots := 18, locals := 111 } : Room) (gP D cI cZ cO cL dt A [.ref (a 0), .int si, .int fi] (fun H => va_P D vwCl (WD cI cO a FA nC nR nL nF par wt stk flw hd rea sig ++ (WF FA ck cf cd cv nx nF ++ R)) H ∧ va_D A (WD cI cO a FA nC nR nL nF par wt stk flw hd rea sig ++ (WF FA ck cf cd cv nx nF ++ R)))) (va_Qi (fun (r : Int32) (u : Nat × Nat) => (si = nI u.1 ∧ u.1 < nC) ∧ (fi = nI u.2 ∧ u.2 < nC) ∧ ¬ si = fi ∧ nR < 5 ∧ r = nI nR) (fun u t => va_P D vwCl (WD cI cO a FA nC (nR + 1) nL nF par wt (upd stk nR (nI u.1)) (upd flw nR (nI u.2)) hd rea sig ++ (WF FA ck cf cd cv nx nF ++ R)) t.heap ∧ va_D A (WD cI cO a FA nC (nR + 1) nL nF par wt (upd stk nR (nI u.1)) (upd flw nR (nI u.2)) hd rea sig ++ (WF FA ck cf cd cv nx nF ++ R))) A) (xU (fun E => (E = "java/lang/IndexOutOfBoundsException" ∧ ¬ (cOk nC si ∧ cOk nC fi)) ∨ (E = "java/lang/IllegalArgumentException" ∧ (cOk nC si ∧ cOk nC fi) ∧ si = fi) ∨ (E = "java/lang/IllegalStateException" ∧ (cOk nC si ∧ cOk nC fi) ∧ ¬ si = fi ∧ ¬ nR < 5))) 3 18 A := by
  refine vx_ofW (cc := cX4_addRoll) (maxL := 4) (ret := (some .int)) (by decide) rfl ?_
  intro p9 e9 s m9 args below meth c9 s₁ B hml hout hv
  obtain ⟨rfl, hg, hP, hD⟩ := hv
  have hx := B.exec
  have hb := B.bytes
  have hr := B.returns
  have hts := atoms_spec (ws := wsX4_addRoll) B.pre
  have hown : s.vm.findClass RX4 = some m9.cls := findClass_of_methodNamed B.named
  have hlocks := B.notSynchronized
  have hK := hg.1
  have hS : va_S A s.heap s.heap [] := va_S.rf
  have w_0 := hts (.fieldLink RX4 68 "Dimfacts" "ruleCount" "I") (by decide +kernel)
  have win_X4 : ∀ w ∈ wsX40, w ∈ wsX4_addRoll := by decide +kernel
  have w_2 := hts (.fieldLink RX4 16 "Dimfacts" "stocks" "[I") (by decide +kernel)
  have w_3 := hts (.fieldLink RX4 19 "Dimfacts" "flows" "[I") (by decide +kernel)
  have w_4 := hts (.classLink RX4 46 "java/lang/IllegalStateException") (by decide +kernel)
  have w_5 := hts (.initialized "java/lang/IllegalStateException") (by decide +kernel)
  have hat_0 : ∀ w ∈ (vx_atS RX4 50 "java/lang/IllegalStateException" gUp).filter goodWord, w.before _ s = true := fun w h => hts w (List.mem_cons_of_mem _ (List.mem_append_left _ (List.mem_append_right _ h)))
  have w_7 := hts (.classLink RX4 61 "java/lang/IllegalArgumentException") (by decide +kernel)
  have w_8 := hts (.initialized "java/lang/IllegalArgumentException") (by decide +kernel)
  have hat_1 : ∀ w ∈ (vx_atS RX4 65 "java/lang/IllegalArgumentException" gUp).filter goodWord, w.before _ s = true := fun w h => hts w (List.mem_cons_of_mem _ (List.mem_append_left _ (List.mem_append_left _ (List.mem_append_right _ h))))
  have hl := lv_entry ([.ref (a 0), .int si, .int fi]) (n := 4) (Nat.le_of_ble_eq_true rfl)
  rw [lg_entry_eq]
  generalize (lg_sl ([.ref (a 0), .int si, .int fi]) ++ List.replicate (4 - (lg_sl ([.ref (a 0), .int si, .int fi])).length) Slot.unset).toArray = ls at hl ⊢
  have hl : lv_has ls 4 [(0, .ref (a 0)), (1, .int si), (2, .int fi)] := hl
  refine lv_aload_n hx hb dX4_addRoll_0 rfl (lv_at hl 0 rfl) ?_
  refine lv_iload_n hx hb dX4_addRoll_1 rfl (lv_at hl 1 rfl) ?_
  refine g_cxv (vx_runV (As := [.int si]) (rest := []) ⟨hx, hb, hml, hown, hts⟩ (c4_checkConcept l D cI cZ cO cL dt A a FA nC nR nL nF par wt stk flw hd rea sig ck cf cd cv nx R si hlt hC12 hL8) (cwV 1 hts gX4_addRoll_X4_checkConcept rfl rfl rfl (by decide +kernel) ⟨Nat.le_of_ble_eq_true rfl, Nat.le_of_ble_eq_true rfl⟩) (gP.v hg hP 3 rfl (0) (rfl) hP) rfl rfl hl.1 rfl (lv_room (Nat.le_of_ble_eq_true rfl)) dX4_addRoll_2 ⟨Nat.le_of_ble_eq_true rfl, Nat.le_of_ble_eq_true rfl⟩) (fun E9 ce9 q9 H9 hE9 hz9 hk9 hc9 hv9 hf9 => g_outU hout hlocks (Or.inl ⟨hE9.1, fun q => hE9.2 q.1⟩) hz9 hk9 hc9 hv9 hf9 (fun _ h => nomatch h) (Nat.le_of_ble_eq_true rfl) (Nat.le_of_ble_eq_true rfl)) (fun hr_1 => ?_)
  refine W.widen (k := 1) (n := 6) (Nat.le_of_ble_eq_true rfl) (Nat.le_of_ble_eq_true rfl) ?_
  obtain ⟨s1, rfl, hs1⟩ := hr_1
  refine lv_aload_n hx hb dX4_addRoll_5 rfl (lv_at hl 0 rfl) ?_
  refine lv_iload_n hx hb dX4_addRoll_6 rfl (lv_at hl 2 rfl) ?_
  refine g_cxv (vx_runV (As := [.int fi]) (rest := []) ⟨hx, hb, hml, hown, hts⟩ (c4_checkConcept l D cI cZ cO cL dt A a FA nC nR nL nF par wt stk flw hd rea sig ck cf cd cv nx R fi hlt hC12 hL8) (cwV 1 hts gX4_addRoll_X4_checkConcept rfl rfl rfl (by decide +kernel) ⟨Nat.le_of_ble_eq_true rfl, Nat.le_of_ble_eq_true rfl⟩) (gP.v hg hP 3 rfl (0) (rfl) hP) rfl rfl hl.1 rfl (lv_room (Nat.le_of_ble_eq_true rfl)) dX4_addRoll_7 ⟨Nat.le_of_ble_eq_true rfl, Nat.le_of_ble_eq_true rfl⟩) (fun E9 ce9 q9 H9 hE9 hz9 hk9 hc9 hv9 hf9 => g_outU hout hlocks (Or.inl ⟨hE9.1, fun q => hE9.2 q.2⟩) hz9 hk9 hc9 hv9 hf9 (fun _ h => nomatch h) (Nat.le_of_ble_eq_true rfl) (Nat.le_of_ble_eq_true rfl)) (fun hr_2 => ?_)
  refine W.widen (k := 2) (n := 12) (Nat.le_of_ble_eq_true rfl) (Nat.le_of_ble_eq_true rfl) ?_
  obtain ⟨f1, rfl, hf1⟩ := hr_2
  refine lv_iload_n hx hb dX4_addRoll_10 rfl (lv_at hl 1 rfl) ?_
  refine lv_iload_n hx hb dX4_addRoll_11 rfl (lv_at hl 2 rfl) ?_
  refine lv_icmp_ne (tgt := 25) hx hb dX4_addRoll_12 (by decide) (fun c_12 => ?_) (fun c_12 => ?_)
  · skip
    refine lv_aload_n hx hb dX4_addRoll_25 rfl (lv_at hl 0 rfl) ?_
    refine va_get (D := D) (ci := 3) (v := .int (nI nR)) (C := RX4) (T := TX4) (N := 11) hx hb hts win_X4 hown hK hP (0) (rfl) rfl 5 (by decide) w_0 (fun _ h9 => h9) rfl dX4_addRoll_26 ?_
    refine lv_iconst (v := 5) hx hb dX4_addRoll_29 (by decide) ?_
    refine lv_icmp_lt (tgt := 43) hx hb dX4_addRoll_30 (by decide) (fun c_30 => ?_) (fun c_30 => ?_)
    · skip
      have h5 : nR < 5 := (nI_ltI (a := nR) (b := 5) (by omega) (by decide)).mp c_30
      refine lv_aload_n hx hb dX4_addRoll_43 rfl (lv_at hl 0 rfl) ?_
      refine va_get (D := D) (ci := 3) (v := .int (nI nR)) (C := RX4) (T := TX4) (N := 11) hx hb hts win_X4 hown hK hP (0) (rfl) rfl 5 (by decide) w_0 (fun _ h9 => h9) rfl dX4_addRoll_44 ?_
      refine lv_istore_n (lv' := [(3, .int (nI nR)), (0, .ref (a 0)), (1, .int (nI s1)), (2, .int (nI f1))]) hx hb dX4_addRoll_47 rfl hl (by decide) rfl (fun ls hl => ?_)
      refine lv_aload_n hx hb dX4_addRoll_48 rfl (lv_at hl 1 rfl) ?_
      refine va_get (D := D) (ci := 3) (v := .ref (a 3)) (C := RX4) (T := TX4) (N := 11) hx hb hts win_X4 hown hK hP (0) (rfl) rfl 3 (by decide) w_2 (fun _ h9 => h9) rfl dX4_addRoll_49 ?_
      refine lv_iload_n hx hb dX4_addRoll_52 rfl (lv_at hl 0 rfl) ?_
      refine lv_iload_n hx hb dX4_addRoll_53 rfl (lv_at hl 2 rfl) ?_
      refine g_iast hx hb hK hP hD hS (3) 0 (n := 5) (f := stk) (rfl) rfl nR rfl (by omega) (by decide) dX4_addRoll_54 (WD cI cO a FA nC nR nL nF par wt (upd stk nR (nI s1)) flw hd rea sig ++ (WF FA ck cf cd cv nx nF ++ R)) rfl (fun H locs hP hD hS => ?_)
      refine lv_aload_n hx hb dX4_addRoll_55 rfl (lv_at hl 1 rfl) ?_
      refine va_get (D := D) (ci := 3) (v := .ref (a 4)) (C := RX4) (T := TX4) (N := 11) hx hb hts win_X4 hown hK hP (0) (rfl) rfl 4 (by decide) w_3 (fun _ h9 => h9) rfl dX4_addRoll_56 ?_
      refine lv_iload_n hx hb dX4_addRoll_59 rfl (lv_at hl 0 rfl) ?_
      refine lv_iload_n hx hb dX4_addRoll_60 rfl (lv_at hl 3 rfl) ?_
      refine g_iast hx hb hK hP hD hS (4) 0 (n := 5) (f := flw) (rfl) rfl nR rfl (by omega) (by decide) dX4_addRoll_61 (WD cI cO a FA nC nR nL nF par wt (upd stk nR (nI s1)) (upd flw nR (nI f1)) hd rea sig ++ (WF FA ck cf cd cv nx nF ++ R)) rfl (fun H locs hP hD hS => ?_)
      refine lv_aload_n hx hb dX4_addRoll_62 rfl (lv_at hl 1 rfl) ?_
      refine lv_dup hx hb dX4_addRoll_63 rfl ?_
      refine va_get (D := D) (ci := 3) (v := .int (nI nR)) (C := RX4) (T := TX4) (N := 11) hx hb hts win_X4 hown hK hP (0) (rfl) rfl 5 (by decide) w_0 (fun _ h9 => h9) rfl dX4_addRoll_64 ?_
      refine lv_iconst (v := 1) hx hb dX4_addRoll_67 (by decide) ?_
      refine lv_iadd hx hb dX4_addRoll_68 ?_
      refine lv_topi (fun dv edv => ?_)
      obtain rfl : dv = nI (nR + 1) := by rw [edv]; exact nI_1 nR
      refine va_put (D := D) (ci := 3) (v := .int (nI (nR + 1))) (ty := .int) (C := RX4) (T := TX4) (N := 11) hx hb hts win_X4 tyX4 tyX4_ok nmX4 hown hK hP hD hS (0) (rfl) rfl 5 (by decide) w_0 (fun _ h9 => h9) rfl (by decide +kernel) rfl rfl (Nat.le_of_ble_eq_true rfl) dX4_addRoll_69 (fun H locs hP hD hS => ?_)
      have hP : va_P D vwCl (WD cI cO a FA nC (nR + 1) nL nF par wt (upd stk nR (nI s1)) (upd flw nR (nI f1)) hd rea sig ++ (WF FA ck cf cd cv nx nF ++ R)) H := hP
      have hD : va_D A (WD cI cO a FA nC (nR + 1) nL nF par wt (upd stk nR (nI s1)) (upd flw nR (nI f1)) hd rea sig ++ (WF FA ck cf cd cv nx nF ++ R)) := hD
      refine lv_iload_n hx hb dX4_addRoll_72 rfl (lv_at hl 0 rfl) ?_
      exact vx_ret (W.widen (k := 3) (n := 18) (Nat.le_of_ble_eq_true rfl) (Nat.le_of_ble_eq_true rfl) (W.iret (v := nI nR) hx hb hr (fun t ht hW => ⟨⟨nI nR, (s1, f1), rfl, ⟨⟨rfl, hs1⟩, ⟨rfl, hf1⟩, c_12, h5, rfl⟩, g_PD ht hP hD⟩, hS.F ht⟩) hS.2.2 dX4_addRoll_73))
    · skip
      have h5 : ¬ nR < 5 := mt (nI_ltI (a := nR) (b := 5) (by omega) (by decide)).mpr c_30
      exact g_throw (D := D) (cI := cI) (cZ := cZ) (cO := cO) (cL := cL) (dt := dt) (A := A) (text := "there are 5 rules") hx hb hlt hown (by decide +kernel) w_4 w_5 (by decide +kernel) hg hat_0 gE_at0 hg.2.1.2.2.2.2.2.2.1 gE_ot0 (hl.1.trans hml.symm) dX4_addRoll_33 dX4_addRoll_36 dX4_addRoll_37 dX4_addRoll_39 dX4_addRoll_42 hout (Nat.le_of_ble_eq_true rfl) (Nat.le_of_ble_eq_true rfl) (Nat.le_of_ble_eq_true rfl) (Nat.le_of_ble_eq_true rfl) hlocks (Or.inr (Or.inr ⟨rfl, ⟨⟨s1, rfl, hs1⟩, ⟨f1, rfl, hf1⟩⟩, c_12, h5⟩)) (Nat.le_of_ble_eq_true rfl) (Nat.le_of_ble_eq_true rfl)
  · skip
    exact g_throw (D := D) (cI := cI) (cZ := cZ) (cO := cO) (cL := cL) (dt := dt) (A := A) (text := "stock and flow are the same") hx hb hlt hown (by decide +kernel) w_7 w_8 (by decide +kernel) hg hat_1 gE_at1 hg.2.1.2.2.2.2.2.2.2.1 gE_ot1 (hl.1.trans hml.symm) dX4_addRoll_15 dX4_addRoll_18 dX4_addRoll_19 dX4_addRoll_21 dX4_addRoll_24 hout (Nat.le_of_ble_eq_true rfl) (Nat.le_of_ble_eq_true rfl) (Nat.le_of_ble_eq_true rfl) (Nat.le_of_ble_eq_true rfl) hlocks (Or.inr (Or.inl ⟨rfl, ⟨⟨s1, rfl, hs1⟩, ⟨f1, rfl, hf1⟩⟩, c_12⟩)) (Nat.le_of_ble_eq_true rfl) (Nat.le_of_ble_eq_true rfl)
