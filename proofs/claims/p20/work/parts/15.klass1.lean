set_option maxHeartbeats 4000000 in
set_option maxRecDepth 100000 in
/-- one fact replaces another -/
theorem c0_replaces (l : Launch) (D : va_G) (cI cZ cO cL : ClassId) (dt : Nat) (A : Nat → Prop) (a FA : Nat → Nat) (nC nR nL nF : Nat) (par wt stk flw : Nat → Int32) (hd : Nat → Option Nat) (rea sig : Nat → Int32) (ck cf cd : Nat → Nat) (cv : Nat → Int32) (nx : Nat → Option Nat) (R : va_W) (j k : Nat) (hj : j < nF) (hk : k < nF) (hcf : ∀ k, cf k < 2 ^ 31) (hcd : ∀ k, cd k ≤ 4) : Met l yX0_replaces wsX0_replaces ({ frames := 0, cells := 0, slots := 0, locals := 0 } : Room) (gP D cI cZ cO cL dt A [.ref (FA j), .ref (FA k)] (fun H => va_P D vwCl (WD cI cO a FA nC nR nL nF par wt stk flw hd rea sig ++ (WF FA ck cf cd cv nx nF ++ R)) H)) (vp_Si (fun r => r = bI (rpl cf cd j k = true))) 0 0 (fun _ => False) := by
  refine Met.ofW (cc := cX0_replaces) (maxL := 2) (ret := (some .boolean)) (by decide) rfl ?_
  intro p9 e9 s m9 args below meth c9 s₁ B hml hv
  obtain ⟨rfl, hg, hP⟩ := hv
  have hx := B.exec
  have hb := B.bytes
  have hr := B.returns
  have hts := atoms_spec (ws := wsX0_replaces) B.pre
  have hown : s.vm.findClass RX0 = some m9.cls := findClass_of_methodNamed B.named
  have hlocks := B.notSynchronized
  have hK := hg.1
  have w_0 := hts (.fieldLink RX0 13 "Dimfacts$Fact" "filing" "I") (by decide +kernel)
  have win_X0 : ∀ w ∈ wsX00, w ∈ wsX0_replaces := by decide +kernel
  have w_2 := hts (.fieldLink RX0 19 "Dimfacts$Fact" "doubt" "I") (by decide +kernel)
  have hl := lv_entry ([.ref (FA j), .ref (FA k)]) (n := 2) (Nat.le_of_ble_eq_true rfl)
  rw [lg_entry_eq]
  generalize (lg_sl ([.ref (FA j), .ref (FA k)]) ++ List.replicate (2 - (lg_sl ([.ref (FA j), .ref (FA k)])).length) Slot.unset).toArray = ls at hl ⊢
  have hl : lv_has ls 2 [(0, .ref (FA j)), (1, .ref (FA k))] := hl
  refine lv_aload_n hx hb dX0_replaces_0 rfl (lv_at hl 0 rfl) ?_
  refine va_get (D := D) (ci := 0) (v := .int (nI (cf j))) (C := RX0) (T := TX0) (N := 5) hx hb hts win_X0 hown hK hP (11 + j) (WDF_at (by omega)) rfl 1 (by decide) w_0 (fun _ h9 => h9) rfl dX0_replaces_1 ?_
  refine lv_aload_n hx hb dX0_replaces_4 rfl (lv_at hl 1 rfl) ?_
  refine va_get (D := D) (ci := 0) (v := .int (nI (cf k))) (C := RX0) (T := TX0) (N := 5) hx hb hts win_X0 hown hK hP (11 + k) (WDF_at (by omega)) rfl 1 (by decide) w_0 (fun _ h9 => h9) rfl dX0_replaces_5 ?_
  refine lv_icmp_gt (tgt := 33) hx hb dX0_replaces_8 (by decide) (fun c_8 => ?_) (fun c_8 => ?_)
  · skip
    have c_8 := (nI_ltI (hcf _) (hcf _)).mp c_8
    refine lv_iconst (v := 1) hx hb dX0_replaces_33 (by decide) ?_
    refine lv_goto (tgt := 38) hx hb dX0_replaces_34 (by decide) ?_
    exact W.zret (v := 1) hx hb hr (rfl) (fun t ht hW => ⟨1, rfl, (bI_t (rpl_t.mpr (by omega))), ht⟩) (fun q h => nomatch h) dX0_replaces_38
  · skip
    have c_8 := mt (nI_ltI (hcf _) (hcf _)).mpr c_8
    refine lv_aload_n hx hb dX0_replaces_11 rfl (lv_at hl 0 rfl) ?_
    refine va_get (D := D) (ci := 0) (v := .int (nI (cf j))) (C := RX0) (T := TX0) (N := 5) hx hb hts win_X0 hown hK hP (11 + j) (WDF_at (by omega)) rfl 1 (by decide) w_0 (fun _ h9 => h9) rfl dX0_replaces_12 ?_
    refine lv_aload_n hx hb dX0_replaces_15 rfl (lv_at hl 1 rfl) ?_
    refine va_get (D := D) (ci := 0) (v := .int (nI (cf k))) (C := RX0) (T := TX0) (N := 5) hx hb hts win_X0 hown hK hP (11 + k) (WDF_at (by omega)) rfl 1 (by decide) w_0 (fun _ h9 => h9) rfl dX0_replaces_16 ?_
    refine lv_icmp_ne (tgt := 37) hx hb dX0_replaces_19 (by decide) (fun c_19 => ?_) (fun c_19 => ?_)
    · skip
      have c_19 := mt (nI_eq (hcf _) (hcf _)).mpr c_19
      refine lv_iconst (v := 0) hx hb dX0_replaces_37 (by decide) ?_
      exact W.zret (v := 0) hx hb hr (rfl) (fun t ht hW => ⟨0, rfl, (bI_f (mt rpl_t.mp (by omega))), ht⟩) (fun q h => nomatch h) dX0_replaces_38
    · skip
      have c_19 := (nI_eq (hcf _) (hcf _)).mp c_19
      refine lv_aload_n hx hb dX0_replaces_22 rfl (lv_at hl 0 rfl) ?_
      refine va_get (D := D) (ci := 0) (v := .int (nI (10 ^ cd j))) (C := RX0) (T := TX0) (N := 5) hx hb hts win_X0 hown hK hP (11 + j) (WDF_at (by omega)) rfl 3 (by decide) w_2 (fun _ h9 => h9) rfl dX0_replaces_23 ?_
      refine lv_aload_n hx hb dX0_replaces_26 rfl (lv_at hl 1 rfl) ?_
      refine va_get (D := D) (ci := 0) (v := .int (nI (10 ^ cd k))) (C := RX0) (T := TX0) (N := 5) hx hb hts win_X0 hown hK hP (11 + k) (WDF_at (by omega)) rfl 3 (by decide) w_2 (fun _ h9 => h9) rfl dX0_replaces_27 ?_
      refine lv_icmp_ge (tgt := 37) hx hb dX0_replaces_30 (by decide) (fun c_30 => ?_) (fun c_30 => ?_)
      · skip
        have c_30 := (p10_le (hcd _) (hcd _)).mp c_30
        refine lv_iconst (v := 0) hx hb dX0_replaces_37 (by decide) ?_
        exact W.zret (v := 0) hx hb hr (rfl) (fun t ht hW => ⟨0, rfl, (bI_f (mt rpl_t.mp (by omega))), ht⟩) (fun q h => nomatch h) dX0_replaces_38
      · skip
        have c_30 := mt (p10_le (hcd _) (hcd _)).mpr c_30
        refine lv_iconst (v := 1) hx hb dX0_replaces_33 (by decide) ?_
        refine lv_goto (tgt := 38) hx hb dX0_replaces_34 (by decide) ?_
        exact W.zret (v := 1) hx hb hr (rfl) (fun t ht hW => ⟨1, rfl, (bI_t (rpl_t.mpr (by omega))), ht⟩) (fun q h => nomatch h) dX0_replaces_38
set_option maxHeartbeats 4000000 in
set_option maxRecDepth 100000 in
/-- far apart -/
theorem c4_isApart (l : Launch) (D : va_G) (cI cZ cO cL : ClassId) (dt : Nat) (A : Nat → Prop) (one other d : Int32) (ws : va_W) (h1 : small one) (h2 : small other) : Met l yX4_isApart wsX4_isApart ({ frames := 1, cells := 0, slots := 0, locals := 40 } : Room) (gP D cI cZ cO cL dt A [.int one, .int other, .int d] (fun H => va_P D vwCl (ws) H)) (vp_Si (fun r => r = bI (d < 2 * farI one other))) 0 0 (fun _ => False) := by
  refine Met.ofW (cc := cX4_isApart) (maxL := 3) (ret := (some .boolean)) (by decide) rfl ?_
  intro p9 e9 s m9 args below meth c9 s₁ B hml hv
  obtain ⟨rfl, hg, hP⟩ := hv
  have hx := B.exec
  have hb := B.bytes
  have hr := B.returns
  have hts := atoms_spec (ws := wsX4_isApart) B.pre
  have hown : s.vm.findClass RX4 = some m9.cls := findClass_of_methodNamed B.named
  have hlocks := B.notSynchronized
  have hK := hg.1
  have w_0 := hts (.methodLink RX4 203 Lib.Math.abs.name) (by decide +kernel)
  have w_1 := hts (.static Lib.Math.abs.name) (by decide +kernel)
  have w_2 := hts (.initialized "java/lang/Math") (by decide +kernel)
  have w_3 := hts (.code Lib.Math.abs.name Lib.Math.abs.code 1 (some .int)) (by decide +kernel)
  have hl := lv_entry ([.int one, .int other, .int d]) (n := 3) (Nat.le_of_ble_eq_true rfl)
  rw [lg_entry_eq]
  generalize (lg_sl ([.int one, .int other, .int d]) ++ List.replicate (3 - (lg_sl ([.int one, .int other, .int d])).length) Slot.unset).toArray = ls at hl ⊢
  have hl : lv_has ls 3 [(0, .int one), (1, .int other), (2, .int d)] := hl
  refine lv_iconst (v := 2) hx hb dX4_isApart_0 (by decide) ?_
  refine lv_iload_n hx hb dX4_isApart_1 rfl (lv_at hl 0 rfl) ?_
  refine lv_iload_n hx hb dX4_isApart_2 rfl (lv_at hl 1 rfl) ?_
  refine lv_isub hx hb dX4_isApart_3 ?_
  refine va_mabs hx hb (hml.trans hl.1.symm) hown w_0 w_1 w_2 w_3 (Nat.le_of_ble_eq_true rfl) (Nat.le_of_ble_eq_true rfl) (Nat.le_of_ble_eq_true rfl) (Nat.le_of_ble_eq_true rfl) dX4_isApart_4 ?_
  refine lv_imul hx hb dX4_isApart_7 ?_
  refine lv_iload_n hx hb dX4_isApart_8 rfl (lv_at hl 2 rfl) ?_
  refine lv_icmp_le (tgt := 16) hx hb dX4_isApart_9 (by decide) (fun c_9 => ?_) (fun c_9 => ?_)
  · skip
    refine lv_iconst (v := 0) hx hb dX4_isApart_16 (by decide) ?_
    exact W.zret (v := 0) hx hb hr (rfl) (fun t ht hW => ⟨0, rfl, (bI_f (by rw [← abs_far h1 h2]; exact i_len c_9)), ht⟩) (fun q h => nomatch h) dX4_isApart_17
  · skip
    refine lv_iconst (v := 1) hx hb dX4_isApart_12 (by decide) ?_
    refine lv_goto (tgt := 17) hx hb dX4_isApart_13 (by decide) ?_
    exact W.zret (v := 1) hx hb hr (rfl) (fun t ht hW => ⟨1, rfl, (bI_t (by rw [← abs_far h1 h2]; exact i_nle c_9)), ht⟩) (fun q h => nomatch h) dX4_isApart_17
set_option maxHeartbeats 4000000 in
set_option maxRecDepth 100000 in
/-- two facts disagree -/
theorem c0_disagreesWith (l : Launch) (D : va_G) (cI cZ cO cL : ClassId) (dt : Nat) (A : Nat → Prop) (a FA : Nat → Nat) (nC nR nL nF : Nat) (par wt stk flw : Nat → Int32) (hd : Nat → Option Nat) (rea sig : Nat → Int32) (ck cf cd : Nat → Nat) (cv : Nat → Int32) (nx : Nat → Option Nat) (R : va_W) (j k : Nat) (hj : j < nF) (hk : k < nF) (hcv : ∀ k, vOk (cv k)) : Met l yX0_disagreesWith wsX0_disagreesWith ({ frames := 2, cells := 0, slots := 0, locals := 62 } : Room) (gP D cI cZ cO cL dt A [.ref (FA j), .ref (FA k)] (fun H => va_P D vwCl (WD cI cO a FA nC nR nL nF par wt stk flw hd rea sig ++ (WF FA ck cf cd cv nx nF ++ R)) H)) (vp_Si (fun r => r = bI (nI (cf j) = nI (cf k) ∧ nI (ck j) = nI (ck k) ∧ nI (10 ^ cd j) + nI (10 ^ cd k) < 2 * farI (cv j) (cv k)))) 0 0 (fun _ => False) := by
  refine Met.ofW (cc := cX0_disagreesWith) (maxL := 2) (ret := (some .boolean)) (by decide) rfl ?_
  intro p9 e9 s m9 args below meth c9 s₁ B hml hv
  obtain ⟨rfl, hg, hP⟩ := hv
  have hx := B.exec
  have hb := B.bytes
  have hr := B.returns
  have hts := atoms_spec (ws := wsX0_disagreesWith) B.pre
  have hown : s.vm.findClass RX0 = some m9.cls := findClass_of_methodNamed B.named
  have hlocks := B.notSynchronized
  have hK := hg.1
  have w_0 := hts (.fieldLink RX0 13 "Dimfacts$Fact" "filing" "I") (by decide +kernel)
  have win_X0 : ∀ w ∈ wsX00, w ∈ wsX0_disagreesWith := by decide +kernel
  have w_2 := hts (.fieldLink RX0 7 "Dimfacts$Fact" "key" "I") (by decide +kernel)
  have w_3 := hts (.fieldLink RX0 16 "Dimfacts$Fact" "value" "I") (by decide +kernel)
  have w_4 := hts (.fieldLink RX0 19 "Dimfacts$Fact" "doubt" "I") (by decide +kernel)
  have hl := lv_entry ([.ref (FA j), .ref (FA k)]) (n := 2) (Nat.le_of_ble_eq_true rfl)
  rw [lg_entry_eq]
  generalize (lg_sl ([.ref (FA j), .ref (FA k)]) ++ List.replicate (2 - (lg_sl ([.ref (FA j), .ref (FA k)])).length) Slot.unset).toArray = ls at hl ⊢
  have hl : lv_has ls 2 [(0, .ref (FA j)), (1, .ref (FA k))] := hl
  refine lv_aload_n hx hb dX0_disagreesWith_0 rfl (lv_at hl 0 rfl) ?_
  refine va_get (D := D) (ci := 0) (v := .int (nI (cf j))) (C := RX0) (T := TX0) (N := 5) hx hb hts win_X0 hown hK hP (11 + j) (WDF_at (by omega)) rfl 1 (by decide) w_0 (fun _ h9 => h9) rfl dX0_disagreesWith_1 ?_
  refine lv_aload_n hx hb dX0_disagreesWith_4 rfl (lv_at hl 1 rfl) ?_
  refine va_get (D := D) (ci := 0) (v := .int (nI (cf k))) (C := RX0) (T := TX0) (N := 5) hx hb hts win_X0 hown hK hP (11 + k) (WDF_at (by omega)) rfl 1 (by decide) w_0 (fun _ h9 => h9) rfl dX0_disagreesWith_5 ?_
  refine lv_icmp_ne (tgt := 49) hx hb dX0_disagreesWith_8 (by decide) (fun c_8 => ?_) (fun c_8 => ?_)
  · skip
    refine lv_iconst (v := 0) hx hb dX0_disagreesWith_49 (by decide) ?_
    exact W.zret (v := 0) hx hb hr (rfl) (fun t ht hW => ⟨0, rfl, (bI_f (fun q => by first | exact c_8 q.1 | exact c_19 q.2.1 | exact c_42 q.2.2)), ht⟩) (fun q h => nomatch h) dX0_disagreesWith_50
  · skip
    refine lv_aload_n hx hb dX0_disagreesWith_11 rfl (lv_at hl 0 rfl) ?_
    refine va_get (D := D) (ci := 0) (v := .int (nI (ck j))) (C := RX0) (T := TX0) (N := 5) hx hb hts win_X0 hown hK hP (11 + j) (WDF_at (by omega)) rfl 0 (by decide) w_2 (fun _ h9 => h9) rfl dX0_disagreesWith_12 ?_
    refine lv_aload_n hx hb dX0_disagreesWith_15 rfl (lv_at hl 1 rfl) ?_
    refine va_get (D := D) (ci := 0) (v := .int (nI (ck k))) (C := RX0) (T := TX0) (N := 5) hx hb hts win_X0 hown hK hP (11 + k) (WDF_at (by omega)) rfl 0 (by decide) w_2 (fun _ h9 => h9) rfl dX0_disagreesWith_16 ?_
    refine lv_icmp_ne (tgt := 49) hx hb dX0_disagreesWith_19 (by decide) (fun c_19 => ?_) (fun c_19 => ?_)
    · skip
      refine lv_iconst (v := 0) hx hb dX0_disagreesWith_49 (by decide) ?_
      exact W.zret (v := 0) hx hb hr (rfl) (fun t ht hW => ⟨0, rfl, (bI_f (fun q => by first | exact c_8 q.1 | exact c_19 q.2.1 | exact c_42 q.2.2)), ht⟩) (fun q h => nomatch h) dX0_disagreesWith_50
    · skip
      refine lv_aload_n hx hb dX0_disagreesWith_22 rfl (lv_at hl 0 rfl) ?_
      refine va_get (D := D) (ci := 0) (v := .int (cv j)) (C := RX0) (T := TX0) (N := 5) hx hb hts win_X0 hown hK hP (11 + j) (WDF_at (by omega)) rfl 2 (by decide) w_3 (fun _ h9 => h9) rfl dX0_disagreesWith_23 ?_
      refine lv_aload_n hx hb dX0_disagreesWith_26 rfl (lv_at hl 1 rfl) ?_
      refine va_get (D := D) (ci := 0) (v := .int (cv k)) (C := RX0) (T := TX0) (N := 5) hx hb hts win_X0 hown hK hP (11 + k) (WDF_at (by omega)) rfl 2 (by decide) w_3 (fun _ h9 => h9) rfl dX0_disagreesWith_27 ?_
      refine lv_aload_n hx hb dX0_disagreesWith_30 rfl (lv_at hl 0 rfl) ?_
      refine va_get (D := D) (ci := 0) (v := .int (nI (10 ^ cd j))) (C := RX0) (T := TX0) (N := 5) hx hb hts win_X0 hown hK hP (11 + j) (WDF_at (by omega)) rfl 3 (by decide) w_4 (fun _ h9 => h9) rfl dX0_disagreesWith_31 ?_
      refine lv_aload_n hx hb dX0_disagreesWith_34 rfl (lv_at hl 1 rfl) ?_
      refine va_get (D := D) (ci := 0) (v := .int (nI (10 ^ cd k))) (C := RX0) (T := TX0) (N := 5) hx hb hts win_X0 hown hK hP (11 + k) (WDF_at (by omega)) rfl 3 (by decide) w_4 (fun _ h9 => h9) rfl dX0_disagreesWith_35 ?_
      refine lv_iadd hx hb dX0_disagreesWith_38 ?_
      refine g_csi (va_runSN (As := [.int (cv j), .int (cv k), .int ((nI (10 ^ cd j)) + (nI (10 ^ cd k)))]) (rest := []) ⟨hx, hb, hml, hown, hts⟩ (c4_isApart l D cI cZ cO cL dt A (cv j) (cv k) (nI (10 ^ cd j) + nI (10 ^ cd k)) (WD cI cO a FA nC nR nL nF par wt stk flw hd rea sig ++ (WF FA ck cf cd cv nx nF ++ R)) ((hcv j).small) ((hcv k).small)) (⟨va_cnB 3 hts gX0_disagreesWith_X4_isApart_n22 rfl rfl rfl hg.2.1.2.2.1 (hts (.initialized RX4) (by decide +kernel)) (by decide +kernel) ⟨Nat.le_of_ble_eq_true rfl, Nat.le_of_ble_eq_true rfl⟩, hts (.static yX4_isApart) (by decide +kernel), trivial⟩) (gP.s hg hP) rfl rfl hl.1 rfl (lv_room (Nat.le_of_ble_eq_true rfl)) dX0_disagreesWith_39 ⟨Nat.le_of_ble_eq_true rfl, Nat.le_of_ble_eq_true rfl⟩) (fun r_1 hr_1 => ?_)
      obtain rfl : r_1 = bI (nI (10 ^ cd j) + nI (10 ^ cd k) < 2 * farI (cv j) (cv k)) := hr_1
      refine lv_if_eq (tgt := 49) hx hb dX0_disagreesWith_42 (by decide) (fun c_42 => ?_) (fun c_42 => ?_)
      · skip
        have c_42 := bI_z c_42
        refine lv_iconst (v := 0) hx hb dX0_disagreesWith_49 (by decide) ?_
        exact W.zret (v := 0) hx hb hr (rfl) (fun t ht hW => ⟨0, rfl, (bI_f (fun q => by first | exact c_8 q.1 | exact c_19 q.2.1 | exact c_42 q.2.2)), ht⟩) (fun q h => nomatch h) dX0_disagreesWith_50
      · skip
        have c_42 := bI_n c_42
        refine lv_iconst (v := 1) hx hb dX0_disagreesWith_45 (by decide) ?_
        refine lv_goto (tgt := 50) hx hb dX0_disagreesWith_46 (by decide) ?_
        exact W.zret (v := 1) hx hb hr (rfl) (fun t ht hW => ⟨1, rfl, (bI_t ⟨c_8, c_19, c_42⟩), ht⟩) (fun q h => nomatch h) dX0_disagreesWith_50
set_option maxHeartbeats 4000000 in
set_option maxRecDepth 100000 in
/-- what holds, by the chain of the key -/
theorem c2_holding (l : Launch) (D : va_G) (cI cZ cO cL : ClassId) (dt : Nat) (A : Nat → Prop) (a FA : Nat → Nat) (nC nR nL nF : Nat) (par wt stk flw : Nat → Int32) (hd : Nat → Option Nat) (rea sig : Nat → Int32) (ck cf cd : Nat → Nat) (cv : Nat → Int32) (nx : Nat → Option Nat) (R : va_W) (K : Nat) (f : Int32) (hKb : K < 480) (hck : ∀ k, ck k < 480) (hCh : chOk ck cf cd hd nx nF) : Met l yX2_holding wsX2_holding ({ frames := 0, cells := 0, slots := 0, locals := 0 } : Room) (gP D cI cZ cO cL dt A [.ref (a 6), .int (nI K), .int f] (fun H => va_P D vwCl (WD cI cO a FA nC nR nL nF par wt stk flw hd rea sig ++ (WF FA ck cf cd cv nx nF ++ R)) H)) (va_Sq (fun r => r = (hC ck cf cd nF (nI K) f).map FA)) 0 0 (fun _ => False) := by
  refine Met.ofW (cc := cX2_holding) (maxL := 4) (ret := (some (.object "Dimfacts$Fact"))) (by decide) rfl ?_
  intro p9 e9 s m9 args below meth c9 s₁ B hml hv
  obtain ⟨rfl, hg, hP⟩ := hv
  have hx := B.exec
  have hb := B.bytes
  have hr := B.returns
  have hts := atoms_spec (ws := wsX2_holding) B.pre
  have hown : s.vm.findClass RX2 = some m9.cls := findClass_of_methodNamed B.named
  have hlocks := B.notSynchronized
  have hK := hg.1
  have w_0 := hts (.fieldLink RX2 29 "Dimfacts$Fact" "filing" "I") (by decide +kernel)
  have win_X0 : ∀ w ∈ wsX00, w ∈ wsX2_holding := by decide +kernel
  have w_2 := hts (.fieldLink RX2 25 "Dimfacts$Fact" "next" "LDimfacts$Fact;") (by decide +kernel)
  have w_3 := hts (.fieldLink RX2 11 "Dimfacts$KeyedFacts" "firsts" "[LDimfacts$Fact;") (by decide +kernel)
  have win_X2 : ∀ w ∈ wsX20, w ∈ wsX2_holding := by decide +kernel
  have hl := lv_entry ([.ref (a 6), .int (nI K), .int f]) (n := 4) (Nat.le_of_ble_eq_true rfl)
  rw [lg_entry_eq]
  generalize (lg_sl ([.ref (a 6), .int (nI K), .int f]) ++ List.replicate (4 - (lg_sl ([.ref (a 6), .int (nI K), .int f])).length) Slot.unset).toArray = ls at hl ⊢
  have hl : lv_has ls 4 [(0, .ref (a 6)), (1, .int (nI K)), (2, .int f)] := hl
  have lp : ∀ (L : List Nat) (o : Option Nat), lk nx o L → (∀ j ∈ L, j < nF) → hC ck cf cd nF (nI K) f = L.find? (fun j => decide (nI (cf j) ≤ f)) → ∀ ls : Array Slot, lv_has ls 4 [(3, va_rf (o.map FA)), (0, .ref (a 6)), (1, .int (nI K)), (2, .int f)] → W p9 l e9 (headSpec wsX2_holding ({ frames := 0, cells := 0, slots := 0, locals := 0 } : Room)).room s m9 ([.ref (a 6), .int (nI K), .int f] : List Value).toArray below meth c9 s.heap [] 0 0 (MQ below (va_Sq (fun r => r = (hC ck cf cd nF (nI K) f).map FA)) ([.ref (a 6), .int (nI K), .int f] : List Value).toArray s 0 0 (fun _ => False)) (F0 m9 7 ls []) := by
    intro L
    induction L with
    | nil =>
      intro o ho _ he ls hl
      obtain rfl : o = none := ho
      have hl : lv_has ls 4 [(3, .null), (0, .ref (a 6)), (1, .int (nI K)), (2, .int f)] := hl
      refine lv_aload_nN hx hb dX2_holding_7 rfl (lv_at hl 0 rfl) ?_
      refine lv_ifnullN (tgt := 27) hx hb dX2_holding_8 (by decide) ?_
      refine lv_aload_nN hx hb dX2_holding_27 rfl (lv_at hl 0 rfl) ?_
      exact W.aret (v := .null) hx hb hr (Or.inl ⟨_, rfl⟩) (Or.inl rfl) (fun t ht hW => ⟨none, rfl, (by rw [he]; rfl), ht⟩) (fun q h => nomatch h) dX2_holding_28
    | cons b L ih =>
      intro o ho hm he ls hl
      obtain ⟨rfl, ho⟩ := ho
      have hbF : b < nF := hm b List.mem_cons_self
      have hl : lv_has ls 4 [(3, .ref (FA b)), (0, .ref (a 6)), (1, .int (nI K)), (2, .int f)] := hl
      refine lv_aload_n hx hb dX2_holding_7 rfl (lv_at hl 0 rfl) ?_
      refine lv_ifnull hx hb dX2_holding_8 ?_
      refine lv_aload_n hx hb dX2_holding_11 rfl (lv_at hl 0 rfl) ?_
      refine va_get (D := D) (ci := 0) (v := .int (nI (cf b))) (C := RX0) (T := TX0) (N := 5) hx hb hts win_X0 hown hK hP (11 + b) (WDF_at (by omega)) rfl 1 (by decide) w_0 (fun _ h9 => h9) rfl dX2_holding_12 ?_
      refine lv_iload_n hx hb dX2_holding_15 rfl (lv_at hl 3 rfl) ?_
      refine lv_icmp_le (tgt := 27) hx hb dX2_holding_16 (by decide) (fun c_16 => ?_) (fun c_16 => ?_)
      · skip
        refine lv_aload_n hx hb dX2_holding_27 rfl (lv_at hl 0 rfl) ?_
        exact W.aret (v := .ref (FA b)) hx hb hr (Or.inl ⟨_, rfl⟩) (Or.inr ⟨_, rfl⟩) (fun t ht hW => ⟨some (FA b), rfl, (by rw [he, List.find?_cons_of_pos (by simpa using c_16)]; rfl), ht⟩) (fun q h => nomatch h) dX2_holding_28
      · skip
        have hno : ¬ nI (cf b) ≤ f := c_16
        refine lv_aload_n hx hb dX2_holding_19 rfl (lv_at hl 0 rfl) ?_
        refine va_get (D := D) (ci := 0) (v := va_rf ((nx b).map FA)) (C := RX0) (T := TX0) (N := 5) hx hb hts win_X0 hown hK hP (11 + b) (WDF_at (by omega)) rfl 4 (by decide) w_2 (fun _ h9 => h9) rfl dX2_holding_20 ?_
        refine g_astq_n (lv' := [(3, va_rf ((nx b).map FA)), (0, .ref (a 6)), (1, .int (nI K)), (2, .int f)]) hx hb dX2_holding_23 rfl hl (by decide) rfl (fun ls hl => ?_)
        refine lv_goto (tgt := 7) hx hb dX2_holding_24 (by decide) ?_
        exact ih (nx b) ho (fun j hj => hm j (List.mem_cons_of_mem _ hj)) (by rw [he, List.find?_cons_of_neg (by simpa using hno)]) _ (lv_sub hl [0, 1, 2, 3] rfl)
  refine lv_aload_n hx hb dX2_holding_0 rfl (lv_at hl 0 rfl) ?_
  refine va_get (D := D) (ci := 1) (v := .ref (a 10)) (C := RX2) (T := TX2) (N := 1) hx hb hts win_X2 hown hK hP (6) (rfl) rfl 0 (by decide) w_3 (fun _ h9 => h9) rfl dX2_holding_1 ?_
  refine lv_iload_n hx hb dX2_holding_4 rfl (lv_at hl 1 rfl) ?_
  refine g_aald hx hb hK hP (10) 2 (n := 480) (f := (fun K => (hd K).map FA)) (rfl) rfl K rfl (by omega) (by decide) dX2_holding_5 ?_
  refine g_astq_n (lv' := [(3, va_rf ((hd K).map FA)), (0, .ref (a 6)), (1, .int (nI K)), (2, .int f)]) hx hb dX2_holding_6 rfl hl (by decide) rfl (fun ls hl => ?_)
  exact lp _ (hd K) (hCh.1 K hKb) (fun j hj => (chn_mem hj).1) (chn_find (by omega) (fun k => by have := hck k; omega) nF hCh.2).symm _ hl
set_option maxHeartbeats 4000000 in
set_option maxRecDepth 100000 in
/-- what holds, by the list -/
theorem c3_holding (l : Launch) (D : va_G) (cI cZ cO cL : ClassId) (dt : Nat) (A : Nat → Prop) (a FA : Nat → Nat) (nC nR nL nF : Nat) (par wt stk flw : Nat → Int32) (hd : Nat → Option Nat) (rea sig : Nat → Int32) (ck cf cd : Nat → Nat) (cv : Nat → Int32) (nx : Nat → Option Nat) (R : va_W) (K f : Int32) (hF : nF ≤ 80) (hcf : ∀ k, cf k < 2 ^ 31) (hcd : ∀ k, cd k ≤ 4) : Met l yX3_holding wsX3_holding ({ frames := 1, cells := 0, slots := 0, locals := 21 } : Room) (gP D cI cZ cO cL dt A [.ref (a 5), .int K, .int f] (fun H => va_P D vwCl (WD cI cO a FA nC nR nL nF par wt stk flw hd rea sig ++ (WF FA ck cf cd cv nx nF ++ R)) H)) (va_Sq (fun r => r = (hC ck cf cd nF K f).map FA)) 0 0 (fun _ => False) := by
  refine Met.ofW (cc := cX3_holding) (maxL := 6) (ret := (some (.object "Dimfacts$Fact"))) (by decide) rfl ?_
  intro p9 e9 s m9 args below meth c9 s₁ B hml hv
  obtain ⟨rfl, hg, hP⟩ := hv
  have hx := B.exec
  have hb := B.bytes
  have hr := B.returns
  have hts := atoms_spec (ws := wsX3_holding) B.pre
  have hown : s.vm.findClass RX3 = some m9.cls := findClass_of_methodNamed B.named
  have hlocks := B.notSynchronized
  have hK := hg.1
  have w_0 := hts (.fieldLink RX3 17 "Dimfacts$ListedFacts" "count" "I") (by decide +kernel)
  have win_X3 : ∀ w ∈ wsX30, w ∈ wsX3_holding := by decide +kernel
  have w_2 := hts (.fieldLink RX3 11 "Dimfacts$ListedFacts" "facts" "[LDimfacts$Fact;") (by decide +kernel)
  have w_3 := hts (.fieldLink RX3 21 "Dimfacts$Fact" "key" "I") (by decide +kernel)
  have win_X0 : ∀ w ∈ wsX00, w ∈ wsX3_holding := by decide +kernel
  have w_5 := hts (.fieldLink RX3 24 "Dimfacts$Fact" "filing" "I") (by decide +kernel)
  have hl := lv_entry ([.ref (a 5), .int K, .int f]) (n := 6) (Nat.le_of_ble_eq_true rfl)
  rw [lg_entry_eq]
  generalize (lg_sl ([.ref (a 5), .int K, .int f]) ++ List.replicate (6 - (lg_sl ([.ref (a 5), .int K, .int f])).length) Slot.unset).toArray = ls at hl ⊢
  have hl : lv_has ls 6 [(0, .ref (a 5)), (1, .int K), (2, .int f)] := hl
  have lp : ∀ (n k : Nat) (o : Option Nat), nF < k + n → k ≤ nF → o = sel (qC ck cf K f) cf cd k → ∀ ls : Array Slot, lv_has ls 6 [(4, .int (nI k)), (3, va_rf (o.map FA)), (2, .int f), (1, .int K), (0, .ref (a 5))] → W p9 l e9 (headSpec wsX3_holding ({ frames := 1, cells := 0, slots := 0, locals := 21 } : Room)).room s m9 ([.ref (a 5), .int K, .int f] : List Value).toArray below meth c9 s.heap [] 0 0 (MQ below (va_Sq (fun r => r = (hC ck cf cd nF K f).map FA)) ([.ref (a 5), .int K, .int f] : List Value).toArray s 0 0 (fun _ => False)) (F0 m9 5 ls []) := by
    intro n
    induction n with
    | zero => intro k o h1 h2; exact absurd h1 (by omega)
    | succ n ih =>
      intro k o hn hk eo ls hl
      cases o with
      | none =>
        have hl : lv_has ls 6 [(4, .int (nI k)), (3, .null), (2, .int f), (1, .int K), (0, .ref (a 5))] := hl
        refine lv_iload hx hb dX3_holding_5 (lv_at hl 0 rfl) ?_
        refine lv_aload_n hx hb dX3_holding_7 rfl (lv_at hl 4 rfl) ?_
        refine va_get (D := D) (ci := 2) (v := .int (nI nF)) (C := RX3) (T := TX3) (N := 2) hx hb hts win_X3 hown hK hP (5) (rfl) rfl 1 (by decide) w_0 (fun _ h9 => h9) rfl dX3_holding_8 ?_
        refine lv_icmp_ge (tgt := 68) hx hb dX3_holding_11 (by decide) (fun c_11 => ?_) (fun c_11 => ?_)
        · skip
          have hkF : k = nF := by have := (nI_leI (by omega) (by omega)).mp c_11; omega
          subst hkF
          refine lv_aload_nN hx hb dX3_holding_68 rfl (lv_at hl 1 rfl) ?_
          exact W.aret (v := .null) hx hb hr (Or.inl ⟨_, rfl⟩) (Or.inl rfl) (fun t ht hW => ⟨none, rfl, (congrArg (Option.map FA) eo), ht⟩) (fun q h => nomatch h) dX3_holding_69
        · skip
          have hkF : k < nF := by have := mt (nI_leI (a := nF) (b := k) (by omega) (by omega)).mpr c_11; omega
          refine lv_aload_n hx hb dX3_holding_14 rfl (lv_at hl 4 rfl) ?_
          refine va_get (D := D) (ci := 2) (v := .ref (a 9)) (C := RX3) (T := TX3) (N := 2) hx hb hts win_X3 hown hK hP (5) (rfl) rfl 0 (by decide) w_2 (fun _ h9 => h9) rfl dX3_holding_15 ?_
          refine lv_iload hx hb dX3_holding_18 (lv_at hl 0 rfl) ?_
          refine g_aalds hx hb hK hP (9) 2 (n := 80) (f := (fun k => if k < nF then some (FA k) else none)) (rfl) rfl k (FA k) (if_pos hkF) rfl (by omega) (by decide) dX3_holding_20 ?_
          refine lv_astore (lv' := [(5, .ref (FA k)), (4, .int (nI k)), (3, .null), (2, .int f), (1, .int K), (0, .ref (a 5))]) hx hb dX3_holding_21 hl (by decide) rfl (fun ls hl => ?_)
          refine lv_aload hx hb dX3_holding_23 (lv_at hl 0 rfl) ?_
          refine lv_ifnull hx hb dX3_holding_25 ?_
          refine lv_aload hx hb dX3_holding_28 (lv_at hl 0 rfl) ?_
          refine va_get (D := D) (ci := 0) (v := .int (nI (ck k))) (C := RX0) (T := TX0) (N := 5) hx hb hts win_X0 hown hK hP (11 + k) (WDF_at (by omega)) rfl 0 (by decide) w_3 (fun _ h9 => h9) rfl dX3_holding_30 ?_
          refine lv_iload_n hx hb dX3_holding_33 rfl (lv_at hl 4 rfl) ?_
          refine lv_icmp_ne (tgt := 62) hx hb dX3_holding_34 (by decide) (fun c_34 => ?_) (fun c_34 => ?_)
          · skip
            have hst : sel (qC ck cf K f) cf cd (k + 1) = sel (qC ck cf K f) cf cd k := sel_no (by unfold qC; exact decide_eq_false (fun q => c_34 q.1))
            refine lv_iinc (v := nI (k + 1)) (lv' := [(4, .int (nI (k + 1))), (5, .ref (FA k)), (3, .null), (2, .int f), (1, .int K), (0, .ref (a 5))]) hx hb dX3_holding_62 hl (k := 1) rfl (nI_1 k) (by decide) rfl (fun ls hl => ?_)
            refine lv_goto (tgt := 5) hx hb dX3_holding_65 (by decide) ?_
            exact ih (k + 1) none (by omega) (by omega) (by rw [hst]; first | done | exact eo) _ (lv_sub hl [0, 2, 3, 4, 5] rfl)
          · skip
            refine lv_aload hx hb dX3_holding_37 (lv_at hl 0 rfl) ?_
            refine va_get (D := D) (ci := 0) (v := .int (nI (cf k))) (C := RX0) (T := TX0) (N := 5) hx hb hts win_X0 hown hK hP (11 + k) (WDF_at (by omega)) rfl 1 (by decide) w_5 (fun _ h9 => h9) rfl dX3_holding_39 ?_
            refine lv_iload_n hx hb dX3_holding_42 rfl (lv_at hl 3 rfl) ?_
            refine lv_icmp_gt (tgt := 62) hx hb dX3_holding_43 (by decide) (fun c_43 => ?_) (fun c_43 => ?_)
            · skip
              have hst : sel (qC ck cf K f) cf cd (k + 1) = sel (qC ck cf K f) cf cd k := sel_no (by unfold qC; exact decide_eq_false (fun q => i_ltn c_43 q.2))
              refine lv_iinc (v := nI (k + 1)) (lv' := [(4, .int (nI (k + 1))), (5, .ref (FA k)), (3, .null), (2, .int f), (1, .int K), (0, .ref (a 5))]) hx hb dX3_holding_62 hl (k := 1) rfl (nI_1 k) (by decide) rfl (fun ls hl => ?_)
              refine lv_goto (tgt := 5) hx hb dX3_holding_65 (by decide) ?_
              exact ih (k + 1) none (by omega) (by omega) (by rw [hst]; first | done | exact eo) _ (lv_sub hl [0, 2, 3, 4, 5] rfl)
            · skip
              have hq : qC ck cf K f k = true := by unfold qC; exact decide_eq_true ⟨c_34, i_nlt c_43⟩
              have hst := sel_new0 eo.symm hq
              refine lv_aload_nN hx hb dX3_holding_46 rfl (lv_at hl 2 rfl) ?_
              refine lv_ifnullN (tgt := 59) hx hb dX3_holding_47 (by decide) ?_
              refine lv_aload hx hb dX3_holding_59 (lv_at hl 0 rfl) ?_
              refine lv_astore_n (lv' := [(3, .ref (FA k)), (5, .ref (FA k)), (4, .int (nI k)), (2, .int f), (1, .int K), (0, .ref (a 5))]) hx hb dX3_holding_61 rfl hl (by decide) rfl (fun ls hl => ?_)
              refine lv_iinc (v := nI (k + 1)) (lv' := [(4, .int (nI (k + 1))), (3, .ref (FA k)), (5, .ref (FA k)), (2, .int f), (1, .int K), (0, .ref (a 5))]) hx hb dX3_holding_62 hl (k := 2) rfl (nI_1 k) (by decide) rfl (fun ls hl => ?_)
              refine lv_goto (tgt := 5) hx hb dX3_holding_65 (by decide) ?_
              exact ih (k + 1) (some k) (by omega) (by omega) (by rw [hst]; first | done | exact eo) _ (lv_sub hl [0, 1, 3, 4, 5] rfl)
      | some b =>
        have hl : lv_has ls 6 [(4, .int (nI k)), (3, .ref (FA b)), (2, .int f), (1, .int K), (0, .ref (a 5))] := hl
        have hbF := (sel_lt eo.symm).1
        refine lv_iload hx hb dX3_holding_5 (lv_at hl 0 rfl) ?_
        refine lv_aload_n hx hb dX3_holding_7 rfl (lv_at hl 4 rfl) ?_
        refine va_get (D := D) (ci := 2) (v := .int (nI nF)) (C := RX3) (T := TX3) (N := 2) hx hb hts win_X3 hown hK hP (5) (rfl) rfl 1 (by decide) w_0 (fun _ h9 => h9) rfl dX3_holding_8 ?_
        refine lv_icmp_ge (tgt := 68) hx hb dX3_holding_11 (by decide) (fun c_11 => ?_) (fun c_11 => ?_)
        · skip
          have hkF : k = nF := by have := (nI_leI (by omega) (by omega)).mp c_11; omega
          subst hkF
          refine lv_aload_n hx hb dX3_holding_68 rfl (lv_at hl 1 rfl) ?_
          exact W.aret (v := .ref (FA b)) hx hb hr (Or.inl ⟨_, rfl⟩) (Or.inr ⟨_, rfl⟩) (fun t ht hW => ⟨some (FA b), rfl, (congrArg (Option.map FA) eo), ht⟩) (fun q h => nomatch h) dX3_holding_69
        · skip
          have hkF : k < nF := by have := mt (nI_leI (a := nF) (b := k) (by omega) (by omega)).mpr c_11; omega
          refine lv_aload_n hx hb dX3_holding_14 rfl (lv_at hl 4 rfl) ?_
          refine va_get (D := D) (ci := 2) (v := .ref (a 9)) (C := RX3) (T := TX3) (N := 2) hx hb hts win_X3 hown hK hP (5) (rfl) rfl 0 (by decide) w_2 (fun _ h9 => h9) rfl dX3_holding_15 ?_
          refine lv_iload hx hb dX3_holding_18 (lv_at hl 0 rfl) ?_
          refine g_aalds hx hb hK hP (9) 2 (n := 80) (f := (fun k => if k < nF then some (FA k) else none)) (rfl) rfl k (FA k) (if_pos hkF) rfl (by omega) (by decide) dX3_holding_20 ?_
          refine lv_astore (lv' := [(5, .ref (FA k)), (4, .int (nI k)), (3, .ref (FA b)), (2, .int f), (1, .int K), (0, .ref (a 5))]) hx hb dX3_holding_21 hl (by decide) rfl (fun ls hl => ?_)
          refine lv_aload hx hb dX3_holding_23 (lv_at hl 0 rfl) ?_
          refine lv_ifnull hx hb dX3_holding_25 ?_
          refine lv_aload hx hb dX3_holding_28 (lv_at hl 0 rfl) ?_
          refine va_get (D := D) (ci := 0) (v := .int (nI (ck k))) (C := RX0) (T := TX0) (N := 5) hx hb hts win_X0 hown hK hP (11 + k) (WDF_at (by omega)) rfl 0 (by decide) w_3 (fun _ h9 => h9) rfl dX3_holding_30 ?_
          refine lv_iload_n hx hb dX3_holding_33 rfl (lv_at hl 4 rfl) ?_
          refine lv_icmp_ne (tgt := 62) hx hb dX3_holding_34 (by decide) (fun c_34 => ?_) (fun c_34 => ?_)
          · skip
            have hst : sel (qC ck cf K f) cf cd (k + 1) = sel (qC ck cf K f) cf cd k := sel_no (by unfold qC; exact decide_eq_false (fun q => c_34 q.1))
            refine lv_iinc (v := nI (k + 1)) (lv' := [(4, .int (nI (k + 1))), (5, .ref (FA k)), (3, .ref (FA b)), (2, .int f), (1, .int K), (0, .ref (a 5))]) hx hb dX3_holding_62 hl (k := 1) rfl (nI_1 k) (by decide) rfl (fun ls hl => ?_)
            refine lv_goto (tgt := 5) hx hb dX3_holding_65 (by decide) ?_
            exact ih (k + 1) (some b) (by omega) (by omega) (by rw [hst]; first | done | exact eo) _ (lv_sub hl [0, 2, 3, 4, 5] rfl)
          · skip
            refine lv_aload hx hb dX3_holding_37 (lv_at hl 0 rfl) ?_
            refine va_get (D := D) (ci := 0) (v := .int (nI (cf k))) (C := RX0) (T := TX0) (N := 5) hx hb hts win_X0 hown hK hP (11 + k) (WDF_at (by omega)) rfl 1 (by decide) w_5 (fun _ h9 => h9) rfl dX3_holding_39 ?_
            refine lv_iload_n hx hb dX3_holding_42 rfl (lv_at hl 3 rfl) ?_
            refine lv_icmp_gt (tgt := 62) hx hb dX3_holding_43 (by decide) (fun c_43 => ?_) (fun c_43 => ?_)
            · skip
              have hst : sel (qC ck cf K f) cf cd (k + 1) = sel (qC ck cf K f) cf cd k := sel_no (by unfold qC; exact decide_eq_false (fun q => i_ltn c_43 q.2))
              refine lv_iinc (v := nI (k + 1)) (lv' := [(4, .int (nI (k + 1))), (5, .ref (FA k)), (3, .ref (FA b)), (2, .int f), (1, .int K), (0, .ref (a 5))]) hx hb dX3_holding_62 hl (k := 1) rfl (nI_1 k) (by decide) rfl (fun ls hl => ?_)
              refine lv_goto (tgt := 5) hx hb dX3_holding_65 (by decide) ?_
              exact ih (k + 1) (some b) (by omega) (by omega) (by rw [hst]; first | done | exact eo) _ (lv_sub hl [0, 2, 3, 4, 5] rfl)
            · skip
              have hq : qC ck cf K f k = true := by unfold qC; exact decide_eq_true ⟨c_34, i_nlt c_43⟩
              refine lv_aload_n hx hb dX3_holding_46 rfl (lv_at hl 2 rfl) ?_
              refine lv_ifnull hx hb dX3_holding_47 ?_
              refine lv_aload hx hb dX3_holding_50 (lv_at hl 0 rfl) ?_
              refine lv_aload_n hx hb dX3_holding_52 rfl (lv_at hl 2 rfl) ?_
              refine g_csi (va_runV (As := [.ref (FA b)]) (rest := []) ⟨hx, hb, hml, hown, hts⟩ (c0_replaces l D cI cZ cO cL dt A a FA nC nR nL nF par wt stk flw hd rea sig ck cf cd cv nx R k b (by omega) (by omega) hcf hcd) (cwV 1 hts gX3_holding_X0_replaces rfl rfl rfl (by decide +kernel) ⟨Nat.le_of_ble_eq_true rfl, Nat.le_of_ble_eq_true rfl⟩) (gP.v hg hP 0 rfl (11 + k) (WDF_at (by omega)) hP) rfl rfl hl.1 rfl (lv_room (Nat.le_of_ble_eq_true rfl)) dX3_holding_53 ⟨Nat.le_of_ble_eq_true rfl, Nat.le_of_ble_eq_true rfl⟩) (fun r_1 hr_1 => ?_)
              obtain rfl : r_1 = bI (rpl cf cd k b = true) := hr_1
              refine lv_if_eq (tgt := 62) hx hb dX3_holding_56 (by decide) (fun c_56 => ?_) (fun c_56 => ?_)
              · skip
                have c_56 := bI_z c_56
                have hst := sel_keep eo.symm (mt rpl_t.mpr c_56)
                refine lv_iinc (v := nI (k + 1)) (lv' := [(4, .int (nI (k + 1))), (5, .ref (FA k)), (3, .ref (FA b)), (2, .int f), (1, .int K), (0, .ref (a 5))]) hx hb dX3_holding_62 hl (k := 1) rfl (nI_1 k) (by decide) rfl (fun ls hl => ?_)
                refine lv_goto (tgt := 5) hx hb dX3_holding_65 (by decide) ?_
                exact ih (k + 1) (some b) (by omega) (by omega) (by rw [hst]; first | done | exact eo) _ (lv_sub hl [0, 2, 3, 4, 5] rfl)
              · skip
                have c_56 := bI_n c_56
                have hst := sel_newer eo.symm hq (rpl_t.mp c_56)
                refine lv_aload hx hb dX3_holding_59 (lv_at hl 0 rfl) ?_
                refine lv_astore_n (lv' := [(3, .ref (FA k)), (5, .ref (FA k)), (4, .int (nI k)), (2, .int f), (1, .int K), (0, .ref (a 5))]) hx hb dX3_holding_61 rfl hl (by decide) rfl (fun ls hl => ?_)
                refine lv_iinc (v := nI (k + 1)) (lv' := [(4, .int (nI (k + 1))), (3, .ref (FA k)), (5, .ref (FA k)), (2, .int f), (1, .int K), (0, .ref (a 5))]) hx hb dX3_holding_62 hl (k := 2) rfl (nI_1 k) (by decide) rfl (fun ls hl => ?_)
                refine lv_goto (tgt := 5) hx hb dX3_holding_65 (by decide) ?_
                exact ih (k + 1) (some k) (by omega) (by omega) (by rw [hst]; first | done | exact eo) _ (lv_sub hl [0, 1, 3, 4, 5] rfl)
  refine lv_null hx hb dX3_holding_0 ?_
  refine lv_astore_nN (lv' := [(3, .null), (0, .ref (a 5)), (1, .int K), (2, .int f)]) hx hb dX3_holding_1 rfl hl (by decide) rfl (fun ls hl => ?_)
  refine lv_iconst (v := 0) hx hb dX3_holding_2 (by decide) ?_
  refine lv_istore (lv' := [(4, .int 0), (3, .null), (0, .ref (a 5)), (1, .int K), (2, .int f)]) hx hb dX3_holding_3 hl (by decide) rfl (fun ls hl => ?_)
  exact lp (nF + 1) 0 none (by omega) (Nat.zero_le _) rfl _ (lv_sub hl [0, 1, 4, 3, 2] rfl)
set_option maxHeartbeats 4000000 in
set_option maxRecDepth 100000 in
/-- the list is full -/
theorem c3_isFull (l : Launch) (D : va_G) (cI cZ cO cL : ClassId) (dt : Nat) (A : Nat → Prop) (a FA : Nat → Nat) (nC nR nL nF : Nat) (par wt stk flw : Nat → Int32) (hd : Nat → Option Nat) (rea sig : Nat → Int32) (ck cf cd : Nat → Nat) (cv : Nat → Int32) (nx : Nat → Option Nat) (R : va_W)  (hF : nF ≤ 80) : Met l yX3_isFull wsX3_isFull ({ frames := 0, cells := 0, slots := 0, locals := 0 } : Room) (gP D cI cZ cO cL dt A [.ref (a 5)] (fun H => va_P D vwCl (WD cI cO a FA nC nR nL nF par wt stk flw hd rea sig ++ (WF FA ck cf cd cv nx nF ++ R)) H)) (vp_Si (fun r => r = bI (80 ≤ nF))) 0 0 (fun _ => False) := by
  refine Met.ofW (cc := cX3_isFull) (maxL := 1) (ret := (some .boolean)) (by decide) rfl ?_
  intro p9 e9 s m9 args below meth c9 s₁ B hml hv
  obtain ⟨rfl, hg, hP⟩ := hv
  have hx := B.exec
  have hb := B.bytes
  have hr := B.returns
  have hts := atoms_spec (ws := wsX3_isFull) B.pre
  have hown : s.vm.findClass RX3 = some m9.cls := findClass_of_methodNamed B.named
  have hlocks := B.notSynchronized
  have hK := hg.1
  have w_0 := hts (.fieldLink RX3 17 "Dimfacts$ListedFacts" "count" "I") (by decide +kernel)
  have win_X3 : ∀ w ∈ wsX30, w ∈ wsX3_isFull := by decide +kernel
  have hl := lv_entry ([.ref (a 5)]) (n := 1) (Nat.le_of_ble_eq_true rfl)
  rw [lg_entry_eq]
  generalize (lg_sl ([.ref (a 5)]) ++ List.replicate (1 - (lg_sl ([.ref (a 5)])).length) Slot.unset).toArray = ls at hl ⊢
  have hl : lv_has ls 1 [(0, .ref (a 5))] := hl
  refine lv_aload_n hx hb dX3_isFull_0 rfl (lv_at hl 0 rfl) ?_
  refine va_get (D := D) (ci := 2) (v := .int (nI nF)) (C := RX3) (T := TX3) (N := 2) hx hb hts win_X3 hown hK hP (5) (rfl) rfl 1 (by decide) w_0 (fun _ h9 => h9) rfl dX3_isFull_1 ?_
  refine lv_bipush (v := 80) hx hb dX3_isFull_4 (by decide) ?_
  refine lv_icmp_lt (tgt := 13) hx hb dX3_isFull_6 (by decide) (fun c_6 => ?_) (fun c_6 => ?_)
  · skip
    refine lv_iconst (v := 0) hx hb dX3_isFull_13 (by decide) ?_
    exact W.zret (v := 0) hx hb hr (rfl) (fun t ht hW => ⟨0, rfl, (bI_f (by have := (nI_ltI (a := nF) (b := 80) (by omega) (by decide)).mp c_6; omega)), ht⟩) (fun q h => nomatch h) dX3_isFull_14
  · skip
    refine lv_iconst (v := 1) hx hb dX3_isFull_9 (by decide) ?_
    refine lv_goto (tgt := 14) hx hb dX3_isFull_10 (by decide) ?_
    exact W.zret (v := 1) hx hb hr (rfl) (fun t ht hW => ⟨1, rfl, (bI_t (by have := mt (nI_ltI (a := nF) (b := 80) (by omega) (by decide)).mpr c_6; omega)), ht⟩) (fun q h => nomatch h) dX3_isFull_14
set_option maxHeartbeats 4000000 in
set_option maxRecDepth 100000 in
/-- how many of the first facts disagree with one -/
theorem c3_countAgainst (l : Launch) (D : va_G) (cI cZ cO cL : ClassId) (dt : Nat) (A : Nat → Prop) (a FA : Nat → Nat) (nC nR nL nF : Nat) (par wt stk flw : Nat → Int32) (hd : Nat → Option Nat) (rea sig : Nat → Int32) (ck cf cd : Nat → Nat) (cv : Nat → Int32) (nx : Nat → Option Nat) (R : va_W) (j n : Nat) (hj : j < nF) (hn : n ≤ nF) (hF : nF ≤ 80) (hcv : ∀ k, vOk (cv k)) : Met l yX3_countAgainst wsX3_countAgainst ({ frames := 3, cells := 0, slots := 0, locals := 83 } : Room) (gP D cI cZ cO cL dt A [.ref (a 5), .ref (FA j), .int (nI n)] (fun H => va_P D vwCl (WD cI cO a FA nC nR nL nF par wt stk flw hd rea sig ++ (WF FA ck cf cd cv nx nF ++ R)) H)) (vp_Si (fun r => r = sT (fun k => bI (nI (cf j) = nI (cf k) ∧ nI (ck j) = nI (ck k) ∧ nI (10 ^ cd j) + nI (10 ^ cd k) < 2 * farI (cv j) (cv k))) n)) 0 0 (fun _ => False) := by
  refine Met.ofW (cc := cX3_countAgainst) (maxL := 6) (ret := (some .int)) (by decide) rfl ?_
  intro p9 e9 s m9 args below meth c9 s₁ B hml hv
  obtain ⟨rfl, hg, hP⟩ := hv
  have hx := B.exec
  have hb := B.bytes
  have hr := B.returns
  have hts := atoms_spec (ws := wsX3_countAgainst) B.pre
  have hown : s.vm.findClass RX3 = some m9.cls := findClass_of_methodNamed B.named
  have hlocks := B.notSynchronized
  have hK := hg.1
  have w_0 := hts (.fieldLink RX3 11 "Dimfacts$ListedFacts" "facts" "[LDimfacts$Fact;") (by decide +kernel)
  have win_X3 : ∀ w ∈ wsX30, w ∈ wsX3_countAgainst := by decide +kernel
  have hl := lv_entry ([.ref (a 5), .ref (FA j), .int (nI n)]) (n := 6) (Nat.le_of_ble_eq_true rfl)
  rw [lg_entry_eq]
  generalize (lg_sl ([.ref (a 5), .ref (FA j), .int (nI n)]) ++ List.replicate (6 - (lg_sl ([.ref (a 5), .ref (FA j), .int (nI n)])).length) Slot.unset).toArray = ls at hl ⊢
  have hl : lv_has ls 6 [(0, .ref (a 5)), (1, .ref (FA j)), (2, .int (nI n))] := hl
  refine lv_iconst (v := 0) hx hb dX3_countAgainst_0 (by decide) ?_
  refine lv_istore_n (lv' := [(3, .int 0), (0, .ref (a 5)), (1, .ref (FA j)), (2, .int (nI n))]) hx hb dX3_countAgainst_1 rfl hl (by decide) rfl (fun ls hl => ?_)
  refine lv_iconst (v := 0) hx hb dX3_countAgainst_2 (by decide) ?_
  refine lv_istore (lv' := [(4, .int 0), (3, .int 0), (0, .ref (a 5)), (1, .ref (FA j)), (2, .int (nI n))]) hx hb dX3_countAgainst_3 hl (by decide) rfl (fun ls hl => ?_)
  have lp5 : ∀ (n5 k : Nat)  (x3 : Int32), n < k + n5 → k ≤ n → x3 = sT (fun k => bI (nI (cf j) = nI (cf k) ∧ nI (ck j) = nI (ck k) ∧ nI (10 ^ cd j) + nI (10 ^ cd k) < 2 * farI (cv j) (cv k))) k → ∀ ls : Array Slot, lv_has ls 6 [(4, .int (nI k)), (3, .int x3), (2, .int (nI n)), (1, .ref (FA j)), (0, .ref (a 5))] → W p9 l e9 (headSpec wsX3_countAgainst ({ frames := 3, cells := 0, slots := 0, locals := 83 } : Room)).room s m9 ([.ref (a 5), .ref (FA j), .int (nI n)] : List Value).toArray below meth c9 s.heap [] 0 0 (MQ below (vp_Si (fun r => r = sT (fun k => bI (nI (cf j) = nI (cf k) ∧ nI (ck j) = nI (ck k) ∧ nI (10 ^ cd j) + nI (10 ^ cd k) < 2 * farI (cv j) (cv k))) n)) ([.ref (a 5), .ref (FA j), .int (nI n)] : List Value).toArray s 0 0 (fun _ => False)) (F0 m9 5 ls []) := by
    intro n5
    induction n5 with
    | zero => intro k  x3 h1 h2; exact absurd h1 (by omega)
    | succ n5 ih5 =>
      intro k  x3 hn5 hk5 e5_3  ls hl
      refine lv_iload hx hb dX3_countAgainst_5 (lv_at hl 0 rfl) ?_
      refine lv_iload_n hx hb dX3_countAgainst_7 rfl (lv_at hl 2 rfl) ?_
      refine lv_icmp_ge (tgt := 43) hx hb dX3_countAgainst_8 (by decide) (fun c_8 => ?_) (fun c_8 => ?_)
      · skip
        have hkF : k = n := by have := (nI_leI (by omega) (by omega)).mp c_8; omega
        rw [hkF] at e5_3
        refine lv_iload_n hx hb dX3_countAgainst_43 rfl (lv_at hl 1 rfl) ?_
        exact W.iret (v := x3) hx hb hr (fun t ht hW => ⟨x3, rfl, e5_3, ht⟩) (fun q h => nomatch h) dX3_countAgainst_44
      · skip
        have hkF : k < n := by have := mt (nI_leI (a := n) (b := k) (by omega) (by omega)).mpr c_8; omega
        refine lv_aload_n hx hb dX3_countAgainst_11 rfl (lv_at hl 4 rfl) ?_
        refine va_get (D := D) (ci := 2) (v := .ref (a 9)) (C := RX3) (T := TX3) (N := 2) hx hb hts win_X3 hown hK hP (5) (rfl) rfl 0 (by decide) w_0 (fun _ h9 => h9) rfl dX3_countAgainst_12 ?_
        refine lv_iload hx hb dX3_countAgainst_15 (lv_at hl 0 rfl) ?_
        refine g_aalds hx hb hK hP (9) 2 (n := 80) (f := (fun k => if k < nF then some (FA k) else none)) (rfl) rfl k (FA k) (if_pos (by omega)) rfl (by omega) (by decide) dX3_countAgainst_17 ?_
        refine lv_astore (lv' := [(5, .ref (FA k)), (4, .int (nI k)), (3, .int x3), (2, .int (nI n)), (1, .ref (FA j)), (0, .ref (a 5))]) hx hb dX3_countAgainst_18 hl (by decide) rfl (fun ls hl => ?_)
        refine lv_aload hx hb dX3_countAgainst_20 (lv_at hl 0 rfl) ?_
        refine lv_ifnull hx hb dX3_countAgainst_22 ?_
        refine lv_aload_n hx hb dX3_countAgainst_25 rfl (lv_at hl 4 rfl) ?_
        refine lv_aload hx hb dX3_countAgainst_26 (lv_at hl 0 rfl) ?_
        refine g_csi (va_runV (As := [.ref (FA k)]) (rest := []) ⟨hx, hb, hml, hown, hts⟩ (c0_disagreesWith l D cI cZ cO cL dt A a FA nC nR nL nF par wt stk flw hd rea sig ck cf cd cv nx R j k (by omega) (by omega) hcv) (cwV 1 hts gX3_countAgainst_X0_disagreesWith rfl rfl rfl (by decide +kernel) ⟨Nat.le_of_ble_eq_true rfl, Nat.le_of_ble_eq_true rfl⟩) (gP.v hg hP 0 rfl (11 + j) (WDF_at (by omega)) hP) rfl rfl hl.1 rfl (lv_room (Nat.le_of_ble_eq_true rfl)) dX3_countAgainst_28 ⟨Nat.le_of_ble_eq_true rfl, Nat.le_of_ble_eq_true rfl⟩) (fun r_1 hr_1 => ?_)
        obtain rfl : r_1 = bI (nI (cf j) = nI (cf k) ∧ nI (ck j) = nI (ck k) ∧ nI (10 ^ cd j) + nI (10 ^ cd k) < 2 * farI (cv j) (cv k)) := hr_1
        refine lv_if_eq (tgt := 37) hx hb dX3_countAgainst_31 (by decide) (fun c_31 => ?_) (fun c_31 => ?_)
        · skip
          have c_31 := bI_z c_31
          refine lv_iinc (v := nI (k + 1)) (lv' := [(4, .int (nI (k + 1))), (5, .ref (FA k)), (3, .int x3), (2, .int (nI n)), (1, .ref (FA j)), (0, .ref (a 5))]) hx hb dX3_countAgainst_37 hl (k := 1) rfl (nI_1 k) (by decide) rfl (fun ls hl => ?_)
          refine lv_goto (tgt := 5) hx hb dX3_countAgainst_40 (by decide) ?_
          exact ih5 (k + 1)  x3 (by omega) (by omega) (by show _ = sT _ k + bI _; first | rw [e5_3, ← bI_t c_31] | (rw [e5_3, ← bI_f c_31]; exact (Int32.add_zero _).symm))  _ (lv_sub hl [0, 2, 3, 4, 5] rfl)
        · skip
          have c_31 := bI_n c_31
          refine lv_iinc (v := x3 + 1) (lv' := [(3, .int (x3 + 1)), (5, .ref (FA k)), (4, .int (nI k)), (2, .int (nI n)), (1, .ref (FA j)), (0, .ref (a 5))]) hx hb dX3_countAgainst_34 hl (k := 2) rfl (rfl) (by decide) rfl (fun ls hl => ?_)
          refine lv_iinc (v := nI (k + 1)) (lv' := [(4, .int (nI (k + 1))), (3, .int (x3 + 1)), (5, .ref (FA k)), (2, .int (nI n)), (1, .ref (FA j)), (0, .ref (a 5))]) hx hb dX3_countAgainst_37 hl (k := 2) rfl (nI_1 k) (by decide) rfl (fun ls hl => ?_)
          refine lv_goto (tgt := 5) hx hb dX3_countAgainst_40 (by decide) ?_
          exact ih5 (k + 1)  (x3 + 1) (by omega) (by omega) (by show _ = sT _ k + bI _; first | rw [e5_3, ← bI_t c_31] | (rw [e5_3, ← bI_f c_31]; exact (Int32.add_zero _).symm))  _ (lv_sub hl [0, 1, 3, 4, 5] rfl)
  exact lp5 (n + 1) 0  0 (by omega) (by omega) rfl  _ (lv_sub hl [0, 1, 4, 3, 2] rfl)
set_option maxHeartbeats 4000000 in
set_option maxRecDepth 100000 in
/-- the number of a key -/
theorem c4_keyOf (l : Launch) (D : va_G) (cI cZ cO cL : ClassId) (dt : Nat) (A : Nat → Prop) (c p m : Nat) (ws : va_W)  : Met l yX4_keyOf wsX4_keyOf ({ frames := 0, cells := 0, slots := 0, locals := 0 } : Room) (gP D cI cZ cO cL dt A [.int (nI c), .int (nI p), .int (nI m)] (fun H => va_P D vwCl (ws) H)) (vp_Si (fun r => r = nI (c * 40 + p * 4 + m))) 0 0 (fun _ => False) := by
  refine Met.ofW (cc := cX4_keyOf) (maxL := 3) (ret := (some .int)) (by decide) rfl ?_
  intro p9 e9 s m9 args below meth c9 s₁ B hml hv
  obtain ⟨rfl, hg, hP⟩ := hv
  have hx := B.exec
  have hb := B.bytes
  have hr := B.returns
  have hts := atoms_spec (ws := wsX4_keyOf) B.pre
  have hown : s.vm.findClass RX4 = some m9.cls := findClass_of_methodNamed B.named
  have hlocks := B.notSynchronized
  have hK := hg.1
  have hl := lv_entry ([.int (nI c), .int (nI p), .int (nI m)]) (n := 3) (Nat.le_of_ble_eq_true rfl)
  rw [lg_entry_eq]
  generalize (lg_sl ([.int (nI c), .int (nI p), .int (nI m)]) ++ List.replicate (3 - (lg_sl ([.int (nI c), .int (nI p), .int (nI m)])).length) Slot.unset).toArray = ls at hl ⊢
  have hl : lv_has ls 3 [(0, .int (nI c)), (1, .int (nI p)), (2, .int (nI m))] := hl
  refine lv_iload_n hx hb dX4_keyOf_0 rfl (lv_at hl 0 rfl) ?_
  refine lv_bipush (v := 10) hx hb dX4_keyOf_1 (by decide) ?_
  refine lv_imul hx hb dX4_keyOf_3 ?_
  refine lv_iload_n hx hb dX4_keyOf_4 rfl (lv_at hl 1 rfl) ?_
  refine lv_iadd hx hb dX4_keyOf_5 ?_
  refine lv_iconst (v := 4) hx hb dX4_keyOf_6 (by decide) ?_
  refine lv_imul hx hb dX4_keyOf_7 ?_
  refine lv_iload_n hx hb dX4_keyOf_8 rfl (lv_at hl 2 rfl) ?_
  refine lv_iadd hx hb dX4_keyOf_9 ?_
  exact W.iret (v := ((((nI c) * 10) + (nI p)) * 4) + (nI m)) hx hb hr (fun t ht hW => ⟨((((nI c) * 10) + (nI p)) * 4) + (nI m), rfl, (by show (nI c * nI 10 + nI p) * nI 4 + nI m = _; rw [pk_mul, nI_add, pk_mul, nI_add]; congr 1; omega), ht⟩) (fun q h => nomatch h) dX4_keyOf_10
