set_option maxHeartbeats 4000000 in
set_option maxRecDepth 100000 in
/-- the fact that holds -/
theorem c4_heldFact (l : Launch) (D : va_G) (cI cZ cO cL : ClassId) (dt : Nat) (A : Nat → Prop) (a FA : Nat → Nat) (nC nR nL nF : Nat) (par wt stk flw : Nat → Int32) (hd : Nat → Option Nat) (rea sig : Nat → Int32) (ck cf cd : Nat → Nat) (cv : Nat → Int32) (nx : Nat → Option Nat) (R : va_W) (ci pi mi fi : Int32) (hlt : l.stackTraces = false) (hF : nF ≤ 80) (hC12 : nC ≤ 12) (hck : ∀ k, ck k < 480) (hcf : ∀ k, cf k < 2 ^ 31) (hcd : ∀ k, cd k ≤ 4) (hcv : ∀ k, vOk (cv k)) (hwt : ∀ k, wOk (wt k)) (hCh : chOk ck cf cd hd nx nF) (hL8 : nL < 8) : vx_Met l yX4_heldFact wsX4_heldFact ({ frames := 8, cells := 4, slots := 24, locals := 134 } : Room) (gP D cI cZ cO cL dt A [.ref (a 0), .int ci, .int pi, .int mi, .int fi] (fun H => va_P D vwCl (WD cI cO a FA nC nR nL nF par wt stk flw hd rea sig ++ (WF FA ck cf cd cv nx nF ++ R)) H)) (va_Sq (fun r => ∃ c p m f : Nat, kV nC nL ci pi mi fi c p m f ∧ ∃ j : Nat, hC ck cf cd nF (nI (c * 40 + p * 4 + m)) (nI f) = some j ∧ r = some (FA j))) (xU (fun E => (E = "java/lang/IndexOutOfBoundsException" ∧ kNo nC nL ci pi mi fi) ∨ (E = "java/util/NoSuchElementException" ∧ ∃ c p m f : Nat, kV nC nL ci pi mi fi c p m f ∧ hC ck cf cd nF (nI (c * 40 + p * 4 + m)) (nI f) = none))) 4 24 (fun _ => False) := by
  refine vx_ofW (cc := cX4_heldFact) (maxL := 6) (ret := (some (.object "Dimfacts$Fact"))) (by decide) rfl ?_
  intro p9 e9 s m9 args below meth c9 s₁ B hml hout hv
  obtain ⟨rfl, hg, hP⟩ := hv
  have hx := B.exec
  have hb := B.bytes
  have hr := B.returns
  have hts := atoms_spec (ws := wsX4_heldFact) B.pre
  have hown : s.vm.findClass RX4 = some m9.cls := findClass_of_methodNamed B.named
  have hlocks := B.notSynchronized
  have hK := hg.1
  have w_0 := hts (.fieldLink RX4 32 "Dimfacts" "keyed" "LDimfacts$KeyedFacts;") (by decide +kernel)
  have win_X4 : ∀ w ∈ wsX40, w ∈ wsX4_heldFact := by decide +kernel
  have w_2 := hts (.classLink RX4 153 "java/util/NoSuchElementException") (by decide +kernel)
  have w_3 := hts (.initialized "java/util/NoSuchElementException") (by decide +kernel)
  have hat_3 : ∀ w ∈ (nx_at RX4 157).filter goodWord, w.before _ s = true := fun w h => hts w (List.mem_cons_of_mem _ (List.mem_append_left _ (List.mem_append_right _ h)))
  have hl := lv_entry ([.ref (a 0), .int ci, .int pi, .int mi, .int fi]) (n := 6) (Nat.le_of_ble_eq_true rfl)
  rw [lg_entry_eq]
  generalize (lg_sl ([.ref (a 0), .int ci, .int pi, .int mi, .int fi]) ++ List.replicate (6 - (lg_sl ([.ref (a 0), .int ci, .int pi, .int mi, .int fi])).length) Slot.unset).toArray = ls at hl ⊢
  have hl : lv_has ls 6 [(0, .ref (a 0)), (1, .int ci), (2, .int pi), (3, .int mi), (4, .int fi)] := hl
  refine lv_aload_n hx hb dX4_heldFact_0 rfl (lv_at hl 0 rfl) ?_
  refine lv_iload_n hx hb dX4_heldFact_1 rfl (lv_at hl 1 rfl) ?_
  refine lv_iload_n hx hb dX4_heldFact_2 rfl (lv_at hl 2 rfl) ?_
  refine lv_iload_n hx hb dX4_heldFact_3 rfl (lv_at hl 3 rfl) ?_
  refine g_cxv (vx_runV (As := [.int ci, .int pi, .int mi]) (rest := []) ⟨hx, hb, hml, hown, hts⟩ (c4_checkKey l D cI cZ cO cL dt A a FA nC nR nL nF par wt stk flw hd rea sig ck cf cd cv nx R ci pi mi hlt hC12 hL8) (cwV 3 hts gX4_heldFact_X4_checkKey rfl rfl rfl (by decide +kernel) ⟨Nat.le_of_ble_eq_true rfl, Nat.le_of_ble_eq_true rfl⟩) (gP.v hg hP 3 rfl (0) (rfl) hP) rfl rfl hl.1 rfl (lv_room (Nat.le_of_ble_eq_true rfl)) dX4_heldFact_4 ⟨Nat.le_of_ble_eq_true rfl, Nat.le_of_ble_eq_true rfl⟩) (fun E9 ce9 q9 H9 hE9 hz9 hk9 hc9 hv9 hf9 => g_outU hout hlocks (Or.inl ⟨hE9.1, fun q => hE9.2 q.1⟩) hz9 hk9 hc9 hv9 hf9 (fun _ h => nomatch h) (Nat.le_of_ble_eq_true rfl) (Nat.le_of_ble_eq_true rfl)) (fun hr_1 => ?_)
  refine W.widen (k := 2) (n := 12) (Nat.le_of_ble_eq_true rfl) (Nat.le_of_ble_eq_true rfl) ?_
  obtain ⟨⟨c1, rfl, hc1⟩, ⟨p1, rfl, hp1⟩, ⟨m1, rfl, hm1⟩⟩ := hr_1
  refine lv_aload_n hx hb dX4_heldFact_7 rfl (lv_at hl 0 rfl) ?_
  refine lv_iload hx hb dX4_heldFact_8 (lv_at hl 4 rfl) ?_
  refine g_cxv (vx_runV (As := [.int fi]) (rest := []) ⟨hx, hb, hml, hown, hts⟩ (c4_checkFiling l D cI cZ cO cL dt A a FA nC nR nL nF par wt stk flw hd rea sig ck cf cd cv nx R fi hlt hC12 hL8) (cwV 1 hts gX4_heldFact_X4_checkFiling rfl rfl rfl (by decide +kernel) ⟨Nat.le_of_ble_eq_true rfl, Nat.le_of_ble_eq_true rfl⟩) (gP.v hg hP 3 rfl (0) (rfl) hP) rfl rfl hl.1 rfl (lv_room (Nat.le_of_ble_eq_true rfl)) dX4_heldFact_10 ⟨Nat.le_of_ble_eq_true rfl, Nat.le_of_ble_eq_true rfl⟩) (fun E9 ce9 q9 H9 hE9 hz9 hk9 hc9 hv9 hf9 => g_outU hout hlocks (Or.inl ⟨hE9.1, fun q => hE9.2 q.2⟩) hz9 hk9 hc9 hv9 hf9 (fun _ h => nomatch h) (Nat.le_of_ble_eq_true rfl) (Nat.le_of_ble_eq_true rfl)) (fun hr_2 => ?_)
  refine W.widen (k := 3) (n := 18) (Nat.le_of_ble_eq_true rfl) (Nat.le_of_ble_eq_true rfl) ?_
  obtain ⟨f1, rfl, hf1⟩ := hr_2
  refine lv_aload_n hx hb dX4_heldFact_13 rfl (lv_at hl 0 rfl) ?_
  refine va_get (D := D) (ci := 3) (v := .ref (a 6)) (C := RX4) (T := TX4) (N := 11) hx hb hts win_X4 hown hK hP (0) (rfl) rfl 8 (by decide) w_0 (fun _ h9 => h9) rfl dX4_heldFact_14 ?_
  refine lv_iload_n hx hb dX4_heldFact_17 rfl (lv_at hl 1 rfl) ?_
  refine lv_iload_n hx hb dX4_heldFact_18 rfl (lv_at hl 2 rfl) ?_
  refine lv_iload_n hx hb dX4_heldFact_19 rfl (lv_at hl 3 rfl) ?_
  refine g_csi (va_runS (As := [.int (nI c1), .int (nI p1), .int (nI m1)]) (rest := [.ref (a 6)]) ⟨hx, hb, hml, hown, hts⟩ (c4_keyOf l D cI cZ cO cL dt A c1 p1 m1 (WD cI cO a FA nC nR nL nF par wt stk flw hd rea sig ++ (WF FA ck cf cd cv nx nF ++ R))) (va_cwS 3 hts gX4_heldFact_X4_keyOf rfl rfl rfl (by decide +kernel) ⟨Nat.le_of_ble_eq_true rfl, Nat.le_of_ble_eq_true rfl⟩) (gP.s hg hP) rfl rfl hl.1 rfl (lv_room (Nat.le_of_ble_eq_true rfl)) dX4_heldFact_20 ⟨Nat.le_of_ble_eq_true rfl, Nat.le_of_ble_eq_true rfl⟩) (fun r_3 hr_3 => ?_)
  obtain rfl : r_3 = nI (c1 * 40 + p1 * 4 + m1) := hr_3
  refine lv_iload hx hb dX4_heldFact_23 (lv_at hl 4 rfl) ?_
  refine g_csq (va_runV (As := [.int (nI (c1 * 40 + p1 * 4 + m1)), .int (nI f1)]) (rest := []) ⟨hx, hb, hml, hown, hts⟩ (c2_holding l D cI cZ cO cL dt A a FA nC nR nL nF par wt stk flw hd rea sig ck cf cd cv nx R (c1 * 40 + p1 * 4 + m1) (nI f1) (by omega) hck hCh) (cwV 2 hts gX4_heldFact_X2_holding rfl rfl rfl (by decide +kernel) ⟨Nat.le_of_ble_eq_true rfl, Nat.le_of_ble_eq_true rfl⟩) (gP.v hg hP 1 rfl (6) (rfl) hP) rfl rfl hl.1 rfl (lv_room (Nat.le_of_ble_eq_true rfl)) dX4_heldFact_25 ⟨Nat.le_of_ble_eq_true rfl, Nat.le_of_ble_eq_true rfl⟩) (fun r_4 hr_4 => ?_)
  obtain ⟨o_r_4, hH⟩ : ∃ z, hC ck cf cd nF (nI (c1 * 40 + p1 * 4 + m1)) (nI f1) = z := ⟨_, rfl⟩
  rcases o_r_4 with _ | j
  · skip
    obtain rfl : r_4 = none := hr_4.trans (congrArg (Option.map FA) hH)
    refine lv_astoreN (lv' := [(5, .null), (0, .ref (a 0)), (1, .int (nI c1)), (2, .int (nI p1)), (3, .int (nI m1)), (4, .int (nI f1))]) hx hb dX4_heldFact_28 hl (by decide) rfl (fun ls hl => ?_)
    refine lv_aloadN hx hb dX4_heldFact_30 (lv_at hl 0 rfl) ?_
    refine lv_ifnonnullN hx hb dX4_heldFact_32 ?_
    exact g_throwN (D := D) (cI := cI) (cZ := cZ) (cO := cO) (cL := cL) (dt := dt) (A := A) (text := "no fact holds") hx hb hlt hown (by decide +kernel) w_2 w_3 (by decide +kernel) hg hat_3 hg.2.1.2.2.2.2.2.2.2.2.2.1 (hl.1.trans hml.symm) dX4_heldFact_35 dX4_heldFact_38 dX4_heldFact_39 dX4_heldFact_41 dX4_heldFact_44 hout (Nat.le_of_ble_eq_true rfl) (Nat.le_of_ble_eq_true rfl) (Nat.le_of_ble_eq_true rfl) (Nat.le_of_ble_eq_true rfl) hlocks (Or.inr ⟨rfl, c1, p1, m1, f1, ⟨⟨rfl, hc1⟩, ⟨rfl, hp1⟩, ⟨rfl, hm1⟩, ⟨rfl, hf1⟩⟩, hH⟩) (Nat.le_of_ble_eq_true rfl) (Nat.le_of_ble_eq_true rfl)
  · skip
    obtain rfl : r_4 = some (FA j) := hr_4.trans (congrArg (Option.map FA) hH)
    refine lv_astore (lv' := [(5, .ref (FA j)), (0, .ref (a 0)), (1, .int (nI c1)), (2, .int (nI p1)), (3, .int (nI m1)), (4, .int (nI f1))]) hx hb dX4_heldFact_28 hl (by decide) rfl (fun ls hl => ?_)
    refine lv_aload hx hb dX4_heldFact_30 (lv_at hl 0 rfl) ?_
    refine lv_ifnonnull (tgt := 45) hx hb dX4_heldFact_32 (by decide) ?_
    refine lv_aload hx hb dX4_heldFact_45 (lv_at hl 0 rfl) ?_
    exact vx_ret (W.widen (k := 4) (n := 24) (Nat.le_of_ble_eq_true rfl) (Nat.le_of_ble_eq_true rfl) (W.aret (v := .ref (FA j)) hx hb hr (Or.inl ⟨_, rfl⟩) (Or.inr ⟨_, rfl⟩) (fun t ht hW => ⟨some (FA j), rfl, ⟨c1, p1, m1, f1, ⟨⟨rfl, hc1⟩, ⟨rfl, hp1⟩, ⟨rfl, hm1⟩, ⟨rfl, hf1⟩⟩, j, hH, rfl⟩, ht⟩) (fun q h => nomatch h) dX4_heldFact_47))
set_option maxHeartbeats 4000000 in
set_option maxRecDepth 100000 in
/-- value -/
theorem c4_value (l : Launch) (D : va_G) (cI cZ cO cL : ClassId) (dt : Nat) (A : Nat → Prop) (a FA : Nat → Nat) (nC nR nL nF : Nat) (par wt stk flw : Nat → Int32) (hd : Nat → Option Nat) (rea sig : Nat → Int32) (ck cf cd : Nat → Nat) (cv : Nat → Int32) (nx : Nat → Option Nat) (R : va_W) (ci pi mi fi : Int32) (hlt : l.stackTraces = false) (hF : nF ≤ 80) (hC12 : nC ≤ 12) (hck : ∀ k, ck k < 480) (hcf : ∀ k, cf k < 2 ^ 31) (hcd : ∀ k, cd k ≤ 4) (hcv : ∀ k, vOk (cv k)) (hwt : ∀ k, wOk (wt k)) (hCh : chOk ck cf cd hd nx nF) (hL8 : nL < 8) : vx_Met l yX4_value wsX4_value ({ frames := 9, cells := 4, slots := 24, locals := 159 } : Room) (gP D cI cZ cO cL dt A [.ref (a 0), .int ci, .int pi, .int mi, .int fi] (fun H => va_P D vwCl (WD cI cO a FA nC nR nL nF par wt stk flw hd rea sig ++ (WF FA ck cf cd cv nx nF ++ R)) H)) (vp_Si (fun r => ∃ c p m f : Nat, kV nC nL ci pi mi fi c p m f ∧ ∃ j : Nat, hC ck cf cd nF (nI (c * 40 + p * 4 + m)) (nI f) = some j ∧ r = cv j)) (xU (fun E => (E = "java/lang/IndexOutOfBoundsException" ∧ kNo nC nL ci pi mi fi) ∨ (E = "java/util/NoSuchElementException" ∧ ∃ c p m f : Nat, kV nC nL ci pi mi fi c p m f ∧ hC ck cf cd nF (nI (c * 40 + p * 4 + m)) (nI f) = none))) 4 24 (fun _ => False) := by
  refine vx_ofW (cc := cX4_value) (maxL := 5) (ret := (some .int)) (by decide) rfl ?_
  intro p9 e9 s m9 args below meth c9 s₁ B hml hout hv
  obtain ⟨rfl, hg, hP⟩ := hv
  have hx := B.exec
  have hb := B.bytes
  have hr := B.returns
  have hts := atoms_spec (ws := wsX4_value) B.pre
  have hown : s.vm.findClass RX4 = some m9.cls := findClass_of_methodNamed B.named
  have hlocks := B.notSynchronized
  have hK := hg.1
  have w_0 := hts (.fieldLink RX4 135 "Dimfacts$Fact" "value" "I") (by decide +kernel)
  have win_X0 : ∀ w ∈ wsX00, w ∈ wsX4_value := by decide +kernel
  have hl := lv_entry ([.ref (a 0), .int ci, .int pi, .int mi, .int fi]) (n := 5) (Nat.le_of_ble_eq_true rfl)
  rw [lg_entry_eq]
  generalize (lg_sl ([.ref (a 0), .int ci, .int pi, .int mi, .int fi]) ++ List.replicate (5 - (lg_sl ([.ref (a 0), .int ci, .int pi, .int mi, .int fi])).length) Slot.unset).toArray = ls at hl ⊢
  have hl : lv_has ls 5 [(0, .ref (a 0)), (1, .int ci), (2, .int pi), (3, .int mi), (4, .int fi)] := hl
  refine lv_aload_n hx hb dX4_value_0 rfl (lv_at hl 0 rfl) ?_
  refine lv_iload_n hx hb dX4_value_1 rfl (lv_at hl 1 rfl) ?_
  refine lv_iload_n hx hb dX4_value_2 rfl (lv_at hl 2 rfl) ?_
  refine lv_iload_n hx hb dX4_value_3 rfl (lv_at hl 3 rfl) ?_
  refine lv_iload hx hb dX4_value_4 (lv_at hl 4 rfl) ?_
  refine g_cxq (vx_runV (As := [.int ci, .int pi, .int mi, .int fi]) (rest := []) ⟨hx, hb, hml, hown, hts⟩ (c4_heldFact l D cI cZ cO cL dt A a FA nC nR nL nF par wt stk flw hd rea sig ck cf cd cv nx R ci pi mi fi hlt hF hC12 hck hcf hcd hcv hwt hCh hL8) (cwV 4 hts gX4_value_X4_heldFact rfl rfl rfl (by decide +kernel) ⟨Nat.le_of_ble_eq_true rfl, Nat.le_of_ble_eq_true rfl⟩) (gP.v hg hP 3 rfl (0) (rfl) hP) rfl rfl hl.1 rfl (lv_room (Nat.le_of_ble_eq_true rfl)) dX4_value_6 ⟨Nat.le_of_ble_eq_true rfl, Nat.le_of_ble_eq_true rfl⟩) (fun E9 ce9 q9 H9 hE9 hz9 hk9 hc9 hv9 hf9 => g_outU hout hlocks hE9 hz9 hk9 hc9 hv9 hf9 (fun _ h => nomatch h) (Nat.le_of_ble_eq_true rfl) (Nat.le_of_ble_eq_true rfl)) (fun r_1 hr_1 => ?_)
  refine W.widen (k := 4) (n := 24) (Nat.le_of_ble_eq_true rfl) (Nat.le_of_ble_eq_true rfl) ?_
  obtain ⟨c1, p1, m1, f1, hv, j, hj9, rfl⟩ := hr_1
  have hj := (sel_lt hj9).1
  refine va_get (D := D) (ci := 0) (v := .int (cv j)) (C := RX0) (T := TX0) (N := 5) hx hb hts win_X0 hown hK hP (11 + j) (WDF_at (by omega)) rfl 2 (by decide) w_0 (fun _ h9 => h9) rfl dX4_value_9 ?_
  exact vx_ret (W.widen (k := 4) (n := 24) (Nat.le_of_ble_eq_true rfl) (Nat.le_of_ble_eq_true rfl) (W.iret (v := cv j) hx hb hr (fun t ht hW => ⟨cv j, rfl, ⟨c1, p1, m1, f1, hv, j, hj9, rfl⟩, ht⟩) (fun q h => nomatch h) dX4_value_12))
set_option maxHeartbeats 4000000 in
set_option maxRecDepth 100000 in
/-- doubt -/
theorem c4_doubt (l : Launch) (D : va_G) (cI cZ cO cL : ClassId) (dt : Nat) (A : Nat → Prop) (a FA : Nat → Nat) (nC nR nL nF : Nat) (par wt stk flw : Nat → Int32) (hd : Nat → Option Nat) (rea sig : Nat → Int32) (ck cf cd : Nat → Nat) (cv : Nat → Int32) (nx : Nat → Option Nat) (R : va_W) (ci pi mi fi : Int32) (hlt : l.stackTraces = false) (hF : nF ≤ 80) (hC12 : nC ≤ 12) (hck : ∀ k, ck k < 480) (hcf : ∀ k, cf k < 2 ^ 31) (hcd : ∀ k, cd k ≤ 4) (hcv : ∀ k, vOk (cv k)) (hwt : ∀ k, wOk (wt k)) (hCh : chOk ck cf cd hd nx nF) (hL8 : nL < 8) : vx_Met l yX4_doubt wsX4_doubt ({ frames := 9, cells := 4, slots := 24, locals := 159 } : Room) (gP D cI cZ cO cL dt A [.ref (a 0), .int ci, .int pi, .int mi, .int fi] (fun H => va_P D vwCl (WD cI cO a FA nC nR nL nF par wt stk flw hd rea sig ++ (WF FA ck cf cd cv nx nF ++ R)) H)) (vp_Si (fun r => ∃ c p m f : Nat, kV nC nL ci pi mi fi c p m f ∧ ∃ j : Nat, hC ck cf cd nF (nI (c * 40 + p * 4 + m)) (nI f) = some j ∧ r = nI (10 ^ cd j))) (xU (fun E => (E = "java/lang/IndexOutOfBoundsException" ∧ kNo nC nL ci pi mi fi) ∨ (E = "java/util/NoSuchElementException" ∧ ∃ c p m f : Nat, kV nC nL ci pi mi fi c p m f ∧ hC ck cf cd nF (nI (c * 40 + p * 4 + m)) (nI f) = none))) 4 24 (fun _ => False) := by
  refine vx_ofW (cc := cX4_doubt) (maxL := 5) (ret := (some .int)) (by decide) rfl ?_
  intro p9 e9 s m9 args below meth c9 s₁ B hml hout hv
  obtain ⟨rfl, hg, hP⟩ := hv
  have hx := B.exec
  have hb := B.bytes
  have hr := B.returns
  have hts := atoms_spec (ws := wsX4_doubt) B.pre
  have hown : s.vm.findClass RX4 = some m9.cls := findClass_of_methodNamed B.named
  have hlocks := B.notSynchronized
  have hK := hg.1
  have w_0 := hts (.fieldLink RX4 138 "Dimfacts$Fact" "doubt" "I") (by decide +kernel)
  have win_X0 : ∀ w ∈ wsX00, w ∈ wsX4_doubt := by decide +kernel
  have hl := lv_entry ([.ref (a 0), .int ci, .int pi, .int mi, .int fi]) (n := 5) (Nat.le_of_ble_eq_true rfl)
  rw [lg_entry_eq]
  generalize (lg_sl ([.ref (a 0), .int ci, .int pi, .int mi, .int fi]) ++ List.replicate (5 - (lg_sl ([.ref (a 0), .int ci, .int pi, .int mi, .int fi])).length) Slot.unset).toArray = ls at hl ⊢
  have hl : lv_has ls 5 [(0, .ref (a 0)), (1, .int ci), (2, .int pi), (3, .int mi), (4, .int fi)] := hl
  refine lv_aload_n hx hb dX4_doubt_0 rfl (lv_at hl 0 rfl) ?_
  refine lv_iload_n hx hb dX4_doubt_1 rfl (lv_at hl 1 rfl) ?_
  refine lv_iload_n hx hb dX4_doubt_2 rfl (lv_at hl 2 rfl) ?_
  refine lv_iload_n hx hb dX4_doubt_3 rfl (lv_at hl 3 rfl) ?_
  refine lv_iload hx hb dX4_doubt_4 (lv_at hl 4 rfl) ?_
  refine g_cxq (vx_runV (As := [.int ci, .int pi, .int mi, .int fi]) (rest := []) ⟨hx, hb, hml, hown, hts⟩ (c4_heldFact l D cI cZ cO cL dt A a FA nC nR nL nF par wt stk flw hd rea sig ck cf cd cv nx R ci pi mi fi hlt hF hC12 hck hcf hcd hcv hwt hCh hL8) (cwV 4 hts gX4_doubt_X4_heldFact rfl rfl rfl (by decide +kernel) ⟨Nat.le_of_ble_eq_true rfl, Nat.le_of_ble_eq_true rfl⟩) (gP.v hg hP 3 rfl (0) (rfl) hP) rfl rfl hl.1 rfl (lv_room (Nat.le_of_ble_eq_true rfl)) dX4_doubt_6 ⟨Nat.le_of_ble_eq_true rfl, Nat.le_of_ble_eq_true rfl⟩) (fun E9 ce9 q9 H9 hE9 hz9 hk9 hc9 hv9 hf9 => g_outU hout hlocks hE9 hz9 hk9 hc9 hv9 hf9 (fun _ h => nomatch h) (Nat.le_of_ble_eq_true rfl) (Nat.le_of_ble_eq_true rfl)) (fun r_1 hr_1 => ?_)
  refine W.widen (k := 4) (n := 24) (Nat.le_of_ble_eq_true rfl) (Nat.le_of_ble_eq_true rfl) ?_
  obtain ⟨c1, p1, m1, f1, hv, j, hj9, rfl⟩ := hr_1
  have hj := (sel_lt hj9).1
  refine va_get (D := D) (ci := 0) (v := .int (nI (10 ^ cd j))) (C := RX0) (T := TX0) (N := 5) hx hb hts win_X0 hown hK hP (11 + j) (WDF_at (by omega)) rfl 3 (by decide) w_0 (fun _ h9 => h9) rfl dX4_doubt_9 ?_
  exact vx_ret (W.widen (k := 4) (n := 24) (Nat.le_of_ble_eq_true rfl) (Nat.le_of_ble_eq_true rfl) (W.iret (v := nI (10 ^ cd j)) hx hb hr (fun t ht hW => ⟨nI (10 ^ cd j), rfl, ⟨c1, p1, m1, f1, hv, j, hj9, rfl⟩, ht⟩) (fun q h => nomatch h) dX4_doubt_12))
