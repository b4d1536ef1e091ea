set_option maxHeartbeats 4000000 in
set_option maxRecDepth 100000 in
/-- the fact of a part -/
theorem c4_partHolding_L (l : Launch) (D : va_G) (cI cZ cO cL : ClassId) (dt : Nat) (A : Nat → Prop) (a FA : Nat → Nat) (nC nR nL nF : Nat) (par wt stk flw : Nat → Int32) (hd : Nat → Option Nat) (rea sig : Nat → Int32) (ck cf cd : Nat → Nat) (cv : Nat → Int32) (nx : Nat → Option Nat) (R : va_W) (c k K : Nat) (f : Int32) (hF : nF ≤ 80) (hC12 : nC ≤ 12) (hck : ∀ k, ck k < 480) (hcf : ∀ k, cf k < 2 ^ 31) (hcd : ∀ k, cd k ≤ 4) (hcv : ∀ k, vOk (cv k)) (hwt : ∀ k, wOk (wt k)) (hCh : chOk ck cf cd hd nx nF) (hk : k < 12) (hKb : K < 480) : Met l yX4_partHolding wsX4_partHolding ({ frames := 2, cells := 0, slots := 0, locals := 46 } : Room) (gP D cI cZ cO cL dt A [.ref (a 0), .ref (a 5), .int (nI c), .int (nI k), .int (nI K), .int f] (fun H => va_P D vwCl (WD cI cO a FA nC nR nL nF par wt stk flw hd rea sig ++ (WF FA ck cf cd cv nx nF ++ R)) H)) (va_Sq (fun r => r = (if par k = nI c then hC ck cf cd nF (nI K) f else none).map FA)) 0 0 (fun _ => False) := by
  refine Met.ofW (cc := cX4_partHolding) (maxL := 6) (ret := (some (.object "Dimfacts$Fact"))) (by decide) rfl ?_
  intro p9 e9 s m9 args below meth c9 s₁ B hml hv
  obtain ⟨rfl, hg, hP⟩ := hv
  have hx := B.exec
  have hb := B.bytes
  have hr := B.returns
  have hts := atoms_spec (ws := wsX4_partHolding) B.pre
  have hown : s.vm.findClass RX4 = some m9.cls := findClass_of_methodNamed B.named
  have hlocks := B.notSynchronized
  have hK := hg.1
  have w_0 := hts (.fieldLink RX4 9 "Dimfacts" "parents" "[I") (by decide +kernel)
  have win_X4 : ∀ w ∈ wsX40, w ∈ wsX4_partHolding := by decide +kernel
  have hl := lv_entry ([.ref (a 0), .ref (a 5), .int (nI c), .int (nI k), .int (nI K), .int f]) (n := 6) (Nat.le_of_ble_eq_true rfl)
  rw [lg_entry_eq]
  generalize (lg_sl ([.ref (a 0), .ref (a 5), .int (nI c), .int (nI k), .int (nI K), .int f]) ++ List.replicate (6 - (lg_sl ([.ref (a 0), .ref (a 5), .int (nI c), .int (nI k), .int (nI K), .int f])).length) Slot.unset).toArray = ls at hl ⊢
  have hl : lv_has ls 6 [(0, .ref (a 0)), (1, .ref (a 5)), (2, .int (nI c)), (3, .int (nI k)), (4, .int (nI K)), (5, .int f)] := hl
  refine lv_aload_n hx hb dX4_partHolding_0 rfl (lv_at hl 0 rfl) ?_
  refine va_get (D := D) (ci := 3) (v := .ref (a 1)) (C := RX4) (T := TX4) (N := 11) hx hb hts win_X4 hown hK hP (0) (rfl) rfl 0 (by decide) w_0 (fun _ h9 => h9) rfl dX4_partHolding_1 ?_
  refine lv_iload_n hx hb dX4_partHolding_4 rfl (lv_at hl 3 rfl) ?_
  refine g_iald hx hb hK hP (1) 0 (n := 12) (f := par) (rfl) rfl k rfl (by omega) (by decide) dX4_partHolding_5 ?_
  refine lv_iload_n hx hb dX4_partHolding_6 rfl (lv_at hl 2 rfl) ?_
  refine lv_icmp_ne (tgt := 21) hx hb dX4_partHolding_7 (by decide) (fun c_7 => ?_) (fun c_7 => ?_)
  · skip
    refine lv_null hx hb dX4_partHolding_21 ?_
    exact W.aret (v := .null) hx hb hr (Or.inl ⟨_, rfl⟩) (Or.inl rfl) (fun t ht hW => ⟨none, rfl, (by first | (rw [if_neg c_7]; rfl) | (rw [if_pos c_7, hH]; rfl)), ht⟩) (fun q h => nomatch h) dX4_partHolding_22
  · skip
    refine lv_aload_n hx hb dX4_partHolding_10 rfl (lv_at hl 1 rfl) ?_
    refine lv_iload hx hb dX4_partHolding_11 (lv_at hl 4 rfl) ?_
    refine lv_iload hx hb dX4_partHolding_13 (lv_at hl 5 rfl) ?_
    refine g_csq (va_runU (As := [.int (nI K), .int f]) (rest := []) ⟨hx, hb, hml, hown, hts⟩ (c3_holding l D cI cZ cO cL dt A a FA nC nR nL nF par wt stk flw hd rea sig ck cf cd cv nx R (nI K) f hF hcf hcd) (va_cwA 2 hts gX4_partHolding_X3_holding_u196X3 rfl rfl rfl hg.2.1.2.2.2.2.2.1 (by decide +kernel) ⟨Nat.le_of_ble_eq_true rfl, Nat.le_of_ble_eq_true rfl⟩) (gP.v hg hP 2 rfl (5) (rfl) hP) rfl rfl hl.1 rfl (lv_room (Nat.le_of_ble_eq_true rfl)) dX4_partHolding_15 ⟨Nat.le_of_ble_eq_true rfl, Nat.le_of_ble_eq_true rfl⟩) (fun r_1 hr_1 => ?_)
    obtain ⟨o_r_1, hH⟩ : ∃ z, hC ck cf cd nF (nI K) f = z := ⟨_, rfl⟩
    rcases o_r_1 with _ | j
    · skip
      obtain rfl : r_1 = none := hr_1.trans (congrArg (Option.map FA) hH)
      refine lv_goto (tgt := 22) hx hb dX4_partHolding_18 (by decide) ?_
      exact W.aret (v := .null) hx hb hr (Or.inl ⟨_, rfl⟩) (Or.inl rfl) (fun t ht hW => ⟨none, rfl, (by first | (rw [if_neg c_7]; rfl) | (rw [if_pos c_7, hH]; rfl)), ht⟩) (fun q h => nomatch h) dX4_partHolding_22
    · skip
      obtain rfl : r_1 = some (FA j) := hr_1.trans (congrArg (Option.map FA) hH)
      have hj := (sel_lt hH).1
      refine lv_goto (tgt := 22) hx hb dX4_partHolding_18 (by decide) ?_
      exact W.aret (v := .ref (FA j)) hx hb hr (Or.inl ⟨_, rfl⟩) (Or.inr ⟨_, rfl⟩) (fun t ht hW => ⟨some (FA j), rfl, (by first | (rw [if_neg c_7]; rfl) | (rw [if_pos c_7, hH]; rfl)), ht⟩) (fun q h => nomatch h) dX4_partHolding_22
set_option maxHeartbeats 4000000 in
set_option maxRecDepth 100000 in
/-- a sum is off -/
theorem c4_sumFails_L (l : Launch) (D : va_G) (cI cZ cO cL : ClassId) (dt : Nat) (A : Nat → Prop) (a FA : Nat → Nat) (nC nR nL nF : Nat) (par wt stk flw : Nat → Int32) (hd : Nat → Option Nat) (rea sig : Nat → Int32) (ck cf cd : Nat → Nat) (cv : Nat → Int32) (nx : Nat → Option Nat) (R : va_W) (c p m : Nat) (f : Int32) (hF : nF ≤ 80) (hC12 : nC ≤ 12) (hck : ∀ k, ck k < 480) (hcf : ∀ k, cf k < 2 ^ 31) (hcd : ∀ k, cd k ≤ 4) (hcv : ∀ k, vOk (cv k)) (hwt : ∀ k, wOk (wt k)) (hCh : chOk ck cf cd hd nx nF) (hc : c < nC) (hp : p < 10) (hm : m < 4) : Met l yX4_sumFails wsX4_sumFails ({ frames := 3, cells := 0, slots := 0, locals := 71 } : Room) (gP D cI cZ cO cL dt A [.ref (a 0), .ref (a 5), .int (nI c), .int (nI p), .int (nI m), .int f] (fun H => va_P D vwCl (WD cI cO a FA nC nR nL nF par wt stk flw hd rea sig ++ (WF FA ck cf cd cv nx nF ++ R)) H)) (vp_Si (fun r => r = bI (sumOff nC par wt (fun k => hC ck cf cd nF (nI (k * 40 + p * 4 + m)) f) cd cv (nI c) (hC ck cf cd nF (nI (c * 40 + p * 4 + m)) f) = true))) 0 0 (fun _ => False) := by
  refine Met.ofW (cc := cX4_sumFails) (maxL := 12) (ret := (some .boolean)) (by decide) rfl ?_
  intro p9 e9 s m9 args below meth c9 s₁ B hml hv
  obtain ⟨rfl, hg, hP⟩ := hv
  have hx := B.exec
  have hb := B.bytes
  have hr := B.returns
  have hts := atoms_spec (ws := wsX4_sumFails) B.pre
  have hown : s.vm.findClass RX4 = some m9.cls := findClass_of_methodNamed B.named
  have hlocks := B.notSynchronized
  have hK := hg.1
  have w_0 := hts (.fieldLink RX4 138 "Dimfacts$Fact" "doubt" "I") (by decide +kernel)
  have win_X0 : ∀ w ∈ wsX00, w ∈ wsX4_sumFails := by decide +kernel
  have w_2 := hts (.fieldLink RX4 42 "Dimfacts" "conceptCount" "I") (by decide +kernel)
  have win_X4 : ∀ w ∈ wsX40, w ∈ wsX4_sumFails := by decide +kernel
  have w_4 := hts (.fieldLink RX4 135 "Dimfacts$Fact" "value" "I") (by decide +kernel)
  have w_5 := hts (.fieldLink RX4 13 "Dimfacts" "weights" "[I") (by decide +kernel)
  have hl := lv_entry ([.ref (a 0), .ref (a 5), .int (nI c), .int (nI p), .int (nI m), .int f]) (n := 12) (Nat.le_of_ble_eq_true rfl)
  rw [lg_entry_eq]
  generalize (lg_sl ([.ref (a 0), .ref (a 5), .int (nI c), .int (nI p), .int (nI m), .int f]) ++ List.replicate (12 - (lg_sl ([.ref (a 0), .ref (a 5), .int (nI c), .int (nI p), .int (nI m), .int f])).length) Slot.unset).toArray = ls at hl ⊢
  have hl : lv_has ls 12 [(0, .ref (a 0)), (1, .ref (a 5)), (2, .int (nI c)), (3, .int (nI p)), (4, .int (nI m)), (5, .int f)] := hl
  refine lv_aload_n hx hb dX4_sumFails_0 rfl (lv_at hl 1 rfl) ?_
  refine lv_iload_n hx hb dX4_sumFails_1 rfl (lv_at hl 2 rfl) ?_
  refine lv_iload_n hx hb dX4_sumFails_2 rfl (lv_at hl 3 rfl) ?_
  refine lv_iload hx hb dX4_sumFails_3 (lv_at hl 4 rfl) ?_
  refine g_csi (va_runS (As := [.int (nI c), .int (nI p), .int (nI m)]) (rest := [.ref (a 5)]) ⟨hx, hb, hml, hown, hts⟩ (c4_keyOf l D cI cZ cO cL dt A c p m (WD cI cO a FA nC nR nL nF par wt stk flw hd rea sig ++ (WF FA ck cf cd cv nx nF ++ R))) (va_cwS 3 hts gX4_sumFails_X4_keyOf rfl rfl rfl (by decide +kernel) ⟨Nat.le_of_ble_eq_true rfl, Nat.le_of_ble_eq_true rfl⟩) (gP.s hg hP) rfl rfl hl.1 rfl (lv_room (Nat.le_of_ble_eq_true rfl)) dX4_sumFails_5 ⟨Nat.le_of_ble_eq_true rfl, Nat.le_of_ble_eq_true rfl⟩) (fun r_1 hr_1 => ?_)
  obtain rfl : r_1 = nI (c * 40 + p * 4 + m) := hr_1
  refine lv_iload hx hb dX4_sumFails_8 (lv_at hl 5 rfl) ?_
  refine g_csq (va_runU (As := [.int (nI (c * 40 + p * 4 + m)), .int f]) (rest := []) ⟨hx, hb, hml, hown, hts⟩ (c3_holding l D cI cZ cO cL dt A a FA nC nR nL nF par wt stk flw hd rea sig ck cf cd cv nx R (nI (c * 40 + p * 4 + m)) f hF hcf hcd) (va_cwA 2 hts gX4_sumFails_X3_holding_u196X3 rfl rfl rfl hg.2.1.2.2.2.2.2.1 (by decide +kernel) ⟨Nat.le_of_ble_eq_true rfl, Nat.le_of_ble_eq_true rfl⟩) (gP.v hg hP 2 rfl (5) (rfl) hP) rfl rfl hl.1 rfl (lv_room (Nat.le_of_ble_eq_true rfl)) dX4_sumFails_10 ⟨Nat.le_of_ble_eq_true rfl, Nat.le_of_ble_eq_true rfl⟩) (fun r_2 hr_2 => ?_)
  obtain ⟨o_r_2, hO⟩ : ∃ z, hC ck cf cd nF (nI (c * 40 + p * 4 + m)) f = z := ⟨_, rfl⟩
  rcases o_r_2 with _ | o
  · skip
    obtain rfl : r_2 = none := hr_2.trans (congrArg (Option.map FA) hO)
    refine lv_astoreN (lv' := [(6, .null), (0, .ref (a 0)), (1, .ref (a 5)), (2, .int (nI c)), (3, .int (nI p)), (4, .int (nI m)), (5, .int f)]) hx hb dX4_sumFails_13 hl (by decide) rfl (fun ls hl => ?_)
    refine lv_aloadN hx hb dX4_sumFails_15 (lv_at hl 0 rfl) ?_
    refine lv_ifnonnullN hx hb dX4_sumFails_17 ?_
    refine lv_iconst (v := 0) hx hb dX4_sumFails_20 (by decide) ?_
    exact W.zret (v := 0) hx hb hr (rfl) (fun t ht hW => ⟨0, rfl, (bI_f (by unfold sumOff; rw [hO]; simp)), ht⟩) (fun q h => nomatch h) dX4_sumFails_21
  · skip
    obtain rfl : r_2 = some (FA o) := hr_2.trans (congrArg (Option.map FA) hO)
    have ho := (sel_lt hO).1
    refine lv_astore (lv' := [(6, .ref (FA o)), (0, .ref (a 0)), (1, .ref (a 5)), (2, .int (nI c)), (3, .int (nI p)), (4, .int (nI m)), (5, .int f)]) hx hb dX4_sumFails_13 hl (by decide) rfl (fun ls hl => ?_)
    refine lv_aload hx hb dX4_sumFails_15 (lv_at hl 0 rfl) ?_
    refine lv_ifnonnull (tgt := 22) hx hb dX4_sumFails_17 (by decide) ?_
    refine lv_iconst (v := 0) hx hb dX4_sumFails_22 (by decide) ?_
    refine lv_istore (lv' := [(7, .int 0), (6, .ref (FA o)), (0, .ref (a 0)), (1, .ref (a 5)), (2, .int (nI c)), (3, .int (nI p)), (4, .int (nI m)), (5, .int f)]) hx hb dX4_sumFails_23 hl (by decide) rfl (fun ls hl => ?_)
    refine lv_aload hx hb dX4_sumFails_25 (lv_at hl 1 rfl) ?_
    refine va_get (D := D) (ci := 0) (v := .int (nI (10 ^ cd o))) (C := RX0) (T := TX0) (N := 5) hx hb hts win_X0 hown hK hP (11 + o) (WDF_at (by omega)) rfl 3 (by decide) w_0 (fun _ h9 => h9) rfl dX4_sumFails_27 ?_
    refine lv_istore (lv' := [(8, .int (nI (10 ^ cd o))), (7, .int 0), (6, .ref (FA o)), (0, .ref (a 0)), (1, .ref (a 5)), (2, .int (nI c)), (3, .int (nI p)), (4, .int (nI m)), (5, .int f)]) hx hb dX4_sumFails_30 hl (by decide) rfl (fun ls hl => ?_)
    refine lv_iconst (v := 0) hx hb dX4_sumFails_32 (by decide) ?_
    refine lv_istore (lv' := [(9, .int 0), (8, .int (nI (10 ^ cd o))), (7, .int 0), (6, .ref (FA o)), (0, .ref (a 0)), (1, .ref (a 5)), (2, .int (nI c)), (3, .int (nI p)), (4, .int (nI m)), (5, .int f)]) hx hb dX4_sumFails_33 hl (by decide) rfl (fun ls hl => ?_)
    refine lv_iconst (v := 0) hx hb dX4_sumFails_35 (by decide) ?_
    refine lv_istore (lv' := [(10, .int 0), (9, .int 0), (8, .int (nI (10 ^ cd o))), (7, .int 0), (6, .ref (FA o)), (0, .ref (a 0)), (1, .ref (a 5)), (2, .int (nI c)), (3, .int (nI p)), (4, .int (nI m)), (5, .int f)]) hx hb dX4_sumFails_36 hl (by decide) rfl (fun ls hl => ?_)
    have lp38 : ∀ (n38 k : Nat)  (x7 : Int32) (x8 : Int32) (x9 : Int32), nC < k + n38 → k ≤ nC → x7 = sumN par wt (fun k => hC ck cf cd nF (nI (k * 40 + p * 4 + m)) f) cv (nI c) k → x8 = nI (10 ^ cd o) + dbtN par (fun k => hC ck cf cd nF (nI (k * 40 + p * 4 + m)) f) cd (nI c) k → x9 = bI (0 < cntN par (fun k => hC ck cf cd nF (nI (k * 40 + p * 4 + m)) f) (nI c) k) → ∀ ls : Array Slot, lv_has ls 12 [(10, .int (nI k)), (7, .int x7), (8, .int x8), (9, .int x9), (6, .ref (FA o)), (5, .int f), (4, .int (nI m)), (3, .int (nI p)), (2, .int (nI c)), (1, .ref (a 5)), (0, .ref (a 0))] → W p9 l e9 (headSpec wsX4_sumFails ({ frames := 3, cells := 0, slots := 0, locals := 71 } : Room)).room s m9 ([.ref (a 0), .ref (a 5), .int (nI c), .int (nI p), .int (nI m), .int f] : List Value).toArray below meth c9 s.heap [] 0 0 (MQ below (vp_Si (fun r => r = bI (sumOff nC par wt (fun k => hC ck cf cd nF (nI (k * 40 + p * 4 + m)) f) cd cv (nI c) (hC ck cf cd nF (nI (c * 40 + p * 4 + m)) f) = true))) ([.ref (a 0), .ref (a 5), .int (nI c), .int (nI p), .int (nI m), .int f] : List Value).toArray s 0 0 (fun _ => False)) (F0 m9 38 ls []) := by
      intro n38
      induction n38 with
      | zero => intro k  x7 x8 x9 h1 h2; exact absurd h1 (by omega)
      | succ n38 ih38 =>
        intro k  x7 x8 x9 hn38 hk38 e38_7 e38_8 e38_9  ls hl
        refine lv_iload hx hb dX4_sumFails_38 (lv_at hl 0 rfl) ?_
        refine lv_aload_n hx hb dX4_sumFails_40 rfl (lv_at hl 10 rfl) ?_
        refine va_get (D := D) (ci := 3) (v := .int (nI nC)) (C := RX4) (T := TX4) (N := 11) hx hb hts win_X4 hown hK hP (0) (rfl) rfl 2 (by decide) w_2 (fun _ h9 => h9) rfl dX4_sumFails_41 ?_
        refine lv_icmp_ge (tgt := 109) hx hb dX4_sumFails_44 (by decide) (fun c_44 => ?_) (fun c_44 => ?_)
        · skip
          have hkF : k = nC := by have := (nI_leI (a := nC) (b := k) (by omega) (by omega)).mp c_44; omega
          rw [hkF] at e38_7
          rw [hkF] at e38_8
          rw [hkF] at e38_9
          refine lv_iload hx hb dX4_sumFails_109 (lv_at hl 3 rfl) ?_
          refine lv_if_eq (tgt := 133) hx hb dX4_sumFails_111 (by decide) (fun c_111 => ?_) (fun c_111 => ?_)
          · skip
            rw [e38_9] at c_111
            have h0 := bI_z c_111
            refine lv_iconst (v := 0) hx hb dX4_sumFails_133 (by decide) ?_
            exact W.zret (v := 0) hx hb hr (rfl) (fun t ht hW => ⟨0, rfl, (bI_f (by unfold sumOff; rw [hO]; simp only [Bool.and_eq_true, decide_eq_true_eq]; intro q; first | exact h0 q.1 | exact c_126 (by rw [e38_7, e38_8]; exact q.2))), ht⟩) (fun q h => nomatch h) dX4_sumFails_134
          · skip
            rw [e38_9] at c_111
            have h0 := bI_n c_111
            refine lv_aload hx hb dX4_sumFails_114 (lv_at hl 4 rfl) ?_
            refine va_get (D := D) (ci := 0) (v := .int (cv o)) (C := RX0) (T := TX0) (N := 5) hx hb hts win_X0 hown hK hP (11 + o) (WDF_at (by omega)) rfl 2 (by decide) w_4 (fun _ h9 => h9) rfl dX4_sumFails_116 ?_
            refine lv_iload hx hb dX4_sumFails_119 (lv_at hl 1 rfl) ?_
            refine lv_iload hx hb dX4_sumFails_121 (lv_at hl 2 rfl) ?_
            refine g_csi (va_runS (As := [.int (cv o), .int x7, .int x8]) (rest := []) ⟨hx, hb, hml, hown, hts⟩ (c4_isApart l D cI cZ cO cL dt A (cv o) x7 x8 (WD cI cO a FA nC nR nL nF par wt stk flw hd rea sig ++ (WF FA ck cf cd cv nx nF ++ R)) ((hcv o).small) (by rw [e38_7]; exact sumN_small hwt hcv (by omega))) (va_cwS 3 hts gX4_sumFails_X4_isApart rfl rfl rfl (by decide +kernel) ⟨Nat.le_of_ble_eq_true rfl, Nat.le_of_ble_eq_true rfl⟩) (gP.s hg hP) rfl rfl hl.1 rfl (lv_room (Nat.le_of_ble_eq_true rfl)) dX4_sumFails_123 ⟨Nat.le_of_ble_eq_true rfl, Nat.le_of_ble_eq_true rfl⟩) (fun r_3 hr_3 => ?_)
            obtain rfl : r_3 = bI (x8 < 2 * farI (cv o) x7) := hr_3
            refine lv_if_eq (tgt := 133) hx hb dX4_sumFails_126 (by decide) (fun c_126 => ?_) (fun c_126 => ?_)
            · skip
              have c_126 := bI_z c_126
              refine lv_iconst (v := 0) hx hb dX4_sumFails_133 (by decide) ?_
              exact W.zret (v := 0) hx hb hr (rfl) (fun t ht hW => ⟨0, rfl, (bI_f (by unfold sumOff; rw [hO]; simp only [Bool.and_eq_true, decide_eq_true_eq]; intro q; first | exact h0 q.1 | exact c_126 (by rw [e38_7, e38_8]; exact q.2))), ht⟩) (fun q h => nomatch h) dX4_sumFails_134
            · skip
              have c_126 := bI_n c_126
              refine lv_iconst (v := 1) hx hb dX4_sumFails_129 (by decide) ?_
              refine lv_goto (tgt := 134) hx hb dX4_sumFails_130 (by decide) ?_
              exact W.zret (v := 1) hx hb hr (rfl) (fun t ht hW => ⟨1, rfl, (bI_t (by unfold sumOff; rw [hO]; simp only [Bool.and_eq_true, decide_eq_true_eq]; exact ⟨h0, by rw [← e38_7, ← e38_8]; exact c_126⟩)), ht⟩) (fun q h => nomatch h) dX4_sumFails_134
        · skip
          have hkF : k < nC := by have := mt (nI_leI (a := nC) (b := k) (by omega) (by omega)).mpr c_44; omega
          refine lv_aload_n hx hb dX4_sumFails_47 rfl (lv_at hl 10 rfl) ?_
          refine lv_aload_n hx hb dX4_sumFails_48 rfl (lv_at hl 9 rfl) ?_
          refine lv_iload_n hx hb dX4_sumFails_49 rfl (lv_at hl 8 rfl) ?_
          refine lv_iload hx hb dX4_sumFails_50 (lv_at hl 0 rfl) ?_
          refine lv_iload hx hb dX4_sumFails_52 (lv_at hl 0 rfl) ?_
          refine lv_iload_n hx hb dX4_sumFails_54 rfl (lv_at hl 7 rfl) ?_
          refine lv_iload hx hb dX4_sumFails_55 (lv_at hl 6 rfl) ?_
          refine g_csi (va_runS (As := [.int (nI k), .int (nI p), .int (nI m)]) (rest := [.int (nI k), .int (nI c), .ref (a 5), .ref (a 0)]) ⟨hx, hb, hml, hown, hts⟩ (c4_keyOf l D cI cZ cO cL dt A k p m (WD cI cO a FA nC nR nL nF par wt stk flw hd rea sig ++ (WF FA ck cf cd cv nx nF ++ R))) (va_cwS 3 hts gX4_sumFails_X4_keyOf rfl rfl rfl (by decide +kernel) ⟨Nat.le_of_ble_eq_true rfl, Nat.le_of_ble_eq_true rfl⟩) (gP.s hg hP) rfl rfl hl.1 rfl (lv_room (Nat.le_of_ble_eq_true rfl)) dX4_sumFails_57 ⟨Nat.le_of_ble_eq_true rfl, Nat.le_of_ble_eq_true rfl⟩) (fun r_4 hr_4 => ?_)
          obtain rfl : r_4 = nI (k * 40 + p * 4 + m) := hr_4
          refine lv_iload hx hb dX4_sumFails_60 (lv_at hl 5 rfl) ?_
          refine g_csq (va_runV (As := [.ref (a 5), .int (nI c), .int (nI k), .int (nI (k * 40 + p * 4 + m)), .int f]) (rest := []) ⟨hx, hb, hml, hown, hts⟩ (c4_partHolding_L l D cI cZ cO cL dt A a FA nC nR nL nF par wt stk flw hd rea sig ck cf cd cv nx R c k (k * 40 + p * 4 + m) f hF hC12 hck hcf hcd hcv hwt hCh (by omega) (by omega)) (cwV 5 hts gX4_sumFails_X4_partHolding rfl rfl rfl (by decide +kernel) ⟨Nat.le_of_ble_eq_true rfl, Nat.le_of_ble_eq_true rfl⟩) (gP.v hg hP 3 rfl (0) (rfl) hP) rfl rfl hl.1 rfl (lv_room (Nat.le_of_ble_eq_true rfl)) dX4_sumFails_62 ⟨Nat.le_of_ble_eq_true rfl, Nat.le_of_ble_eq_true rfl⟩) (fun r_5 hr_5 => ?_)
          obtain ⟨o_r_5, hS⟩ : ∃ z, (if par k = nI c then hC ck cf cd nF (nI (k * 40 + p * 4 + m)) f else none) = z := ⟨_, rfl⟩
          rcases o_r_5 with _ | j
          · skip
            obtain rfl : r_5 = none := hr_5.trans (congrArg (Option.map FA) hS)
            refine lv_astoreN (lv' := [(11, .null), (10, .int (nI k)), (7, .int x7), (8, .int x8), (9, .int x9), (6, .ref (FA o)), (5, .int f), (4, .int (nI m)), (3, .int (nI p)), (2, .int (nI c)), (1, .ref (a 5)), (0, .ref (a 0))]) hx hb dX4_sumFails_65 hl (by decide) rfl (fun ls hl => ?_)
            refine lv_aloadN hx hb dX4_sumFails_67 (lv_at hl 0 rfl) ?_
            refine lv_ifnullN (tgt := 103) hx hb dX4_sumFails_69 (by decide) ?_
            refine lv_iinc (v := nI (k + 1)) (lv' := [(10, .int (nI (k + 1))), (11, .null), (7, .int x7), (8, .int x8), (9, .int x9), (6, .ref (FA o)), (5, .int f), (4, .int (nI m)), (3, .int (nI p)), (2, .int (nI c)), (1, .ref (a 5)), (0, .ref (a 0))]) hx hb dX4_sumFails_103 hl (k := 1) rfl (nI_1 k) (by decide) rfl (fun ls hl => ?_)
            refine lv_goto (tgt := 38) hx hb dX4_sumFails_106 (by decide) ?_
            exact ih38 (k + 1)  x7 x8 x9 (by omega) (by omega) (by rw [sumN_s k, hS, e38_7]; first | done | rfl | exact (Int32.add_zero _).symm) (by rw [dbtN_s k, hS, e38_8]; first | done | exact Int32.add_assoc _ _ _ | exact (congrArg (fun z => _ + z) (Int32.add_zero _)).symm) (by rw [cntN_s k, hS, e38_9]; first | done | rfl)  _ (lv_sub hl [0, 2, 3, 4, 5, 6, 7, 8, 9, 10, 11] rfl)
          · skip
            obtain rfl : r_5 = some (FA j) := hr_5.trans (congrArg (Option.map FA) hS)
            have hj : j < nF := by
              by_cases hp : par k = nI c
              · rw [if_pos hp] at hS; exact (sel_lt hS).1
              · rw [if_neg hp] at hS; cases hS
            refine lv_astore (lv' := [(11, .ref (FA j)), (10, .int (nI k)), (7, .int x7), (8, .int x8), (9, .int x9), (6, .ref (FA o)), (5, .int f), (4, .int (nI m)), (3, .int (nI p)), (2, .int (nI c)), (1, .ref (a 5)), (0, .ref (a 0))]) hx hb dX4_sumFails_65 hl (by decide) rfl (fun ls hl => ?_)
            refine lv_aload hx hb dX4_sumFails_67 (lv_at hl 0 rfl) ?_
            refine lv_ifnull hx hb dX4_sumFails_69 ?_
            refine lv_iload hx hb dX4_sumFails_72 (lv_at hl 2 rfl) ?_
            refine lv_aload_n hx hb dX4_sumFails_74 rfl (lv_at hl 11 rfl) ?_
            refine va_get (D := D) (ci := 3) (v := .ref (a 2)) (C := RX4) (T := TX4) (N := 11) hx hb hts win_X4 hown hK hP (0) (rfl) rfl 1 (by decide) w_5 (fun _ h9 => h9) rfl dX4_sumFails_75 ?_
            refine lv_iload hx hb dX4_sumFails_78 (lv_at hl 1 rfl) ?_
            refine g_iald hx hb hK hP (2) 0 (n := 12) (f := wt) (rfl) rfl k rfl (by omega) (by decide) dX4_sumFails_80 ?_
            refine lv_aload hx hb dX4_sumFails_81 (lv_at hl 0 rfl) ?_
            refine va_get (D := D) (ci := 0) (v := .int (cv j)) (C := RX0) (T := TX0) (N := 5) hx hb hts win_X0 hown hK hP (11 + j) (WDF_at (by omega)) rfl 2 (by decide) w_4 (fun _ h9 => h9) rfl dX4_sumFails_83 ?_
            refine lv_imul hx hb dX4_sumFails_86 ?_
            refine lv_iadd hx hb dX4_sumFails_87 ?_
            refine lv_istore (lv' := [(7, .int (x7 + ((wt k) * (cv j)))), (11, .ref (FA j)), (10, .int (nI k)), (8, .int x8), (9, .int x9), (6, .ref (FA o)), (5, .int f), (4, .int (nI m)), (3, .int (nI p)), (2, .int (nI c)), (1, .ref (a 5)), (0, .ref (a 0))]) hx hb dX4_sumFails_88 hl (by decide) rfl (fun ls hl => ?_)
            refine lv_iload hx hb dX4_sumFails_90 (lv_at hl 3 rfl) ?_
            refine lv_aload hx hb dX4_sumFails_92 (lv_at hl 1 rfl) ?_
            refine va_get (D := D) (ci := 0) (v := .int (nI (10 ^ cd j))) (C := RX0) (T := TX0) (N := 5) hx hb hts win_X0 hown hK hP (11 + j) (WDF_at (by omega)) rfl 3 (by decide) w_0 (fun _ h9 => h9) rfl dX4_sumFails_94 ?_
            refine lv_iadd hx hb dX4_sumFails_97 ?_
            refine lv_istore (lv' := [(8, .int (x8 + (nI (10 ^ cd j)))), (7, .int (x7 + ((wt k) * (cv j)))), (11, .ref (FA j)), (10, .int (nI k)), (9, .int x9), (6, .ref (FA o)), (5, .int f), (4, .int (nI m)), (3, .int (nI p)), (2, .int (nI c)), (1, .ref (a 5)), (0, .ref (a 0))]) hx hb dX4_sumFails_98 hl (by decide) rfl (fun ls hl => ?_)
            refine lv_iconst (v := 1) hx hb dX4_sumFails_100 (by decide) ?_
            refine lv_istore (lv' := [(9, .int 1), (8, .int (x8 + (nI (10 ^ cd j)))), (7, .int (x7 + ((wt k) * (cv j)))), (11, .ref (FA j)), (10, .int (nI k)), (6, .ref (FA o)), (5, .int f), (4, .int (nI m)), (3, .int (nI p)), (2, .int (nI c)), (1, .ref (a 5)), (0, .ref (a 0))]) hx hb dX4_sumFails_101 hl (by decide) rfl (fun ls hl => ?_)
            refine lv_iinc (v := nI (k + 1)) (lv' := [(10, .int (nI (k + 1))), (9, .int 1), (8, .int (x8 + (nI (10 ^ cd j)))), (7, .int (x7 + ((wt k) * (cv j)))), (11, .ref (FA j)), (6, .ref (FA o)), (5, .int f), (4, .int (nI m)), (3, .int (nI p)), (2, .int (nI c)), (1, .ref (a 5)), (0, .ref (a 0))]) hx hb dX4_sumFails_103 hl (k := 4) rfl (nI_1 k) (by decide) rfl (fun ls hl => ?_)
            refine lv_goto (tgt := 38) hx hb dX4_sumFails_106 (by decide) ?_
            exact ih38 (k + 1)  (x7 + ((wt k) * (cv j))) (x8 + (nI (10 ^ cd j))) 1 (by omega) (by omega) (by rw [sumN_s k, hS, e38_7]; first | done | rfl | exact (Int32.add_zero _).symm) (by rw [dbtN_s k, hS, e38_8]; first | done | exact Int32.add_assoc _ _ _ | exact (congrArg (fun z => _ + z) (Int32.add_zero _)).symm) (bI_t (by rw [cntN_s k, hS]; show 0 < _ + 1; omega))  _ (lv_sub hl [0, 3, 2, 1, 5, 6, 7, 8, 9, 10, 11] rfl)
    exact lp38 (nC + 1) 0  0 (nI (10 ^ cd o)) 0 (by omega) (by omega) rfl (Int32.add_zero _).symm (bI_f (by show ¬ 0 < 0; omega))  _ (lv_sub hl [0, 3, 2, 1, 4, 10, 9, 8, 7, 6, 5] rfl)
set_option maxHeartbeats 4000000 in
set_option maxRecDepth 100000 in
/-- members are off -/
theorem c4_membersFail_L (l : Launch) (D : va_G) (cI cZ cO cL : ClassId) (dt : Nat) (A : Nat → Prop) (a FA : Nat → Nat) (nC nR nL nF : Nat) (par wt stk flw : Nat → Int32) (hd : Nat → Option Nat) (rea sig : Nat → Int32) (ck cf cd : Nat → Nat) (cv : Nat → Int32) (nx : Nat → Option Nat) (R : va_W) (c p : Nat) (f : Int32) (hF : nF ≤ 80) (hC12 : nC ≤ 12) (hck : ∀ k, ck k < 480) (hcf : ∀ k, cf k < 2 ^ 31) (hcd : ∀ k, cd k ≤ 4) (hcv : ∀ k, vOk (cv k)) (hwt : ∀ k, wOk (wt k)) (hCh : chOk ck cf cd hd nx nF) (hc : c < nC) (hp : p < 10) : Met l yX4_membersFail wsX4_membersFail ({ frames := 2, cells := 0, slots := 0, locals := 62 } : Room) (gP D cI cZ cO cL dt A [.ref (a 5), .int (nI c), .int (nI p), .int f] (fun H => va_P D vwCl (WD cI cO a FA nC nR nL nF par wt stk flw hd rea sig ++ (WF FA ck cf cd cv nx nF ++ R)) H)) (vp_Si (fun r => r = bI (memOff (fun q => hC ck cf cd nF (nI (c * 40 + p * 4 + q)) f) cd cv = true))) 0 0 (fun _ => False) := by
  refine Met.ofW (cc := cX4_membersFail) (maxL := 9) (ret := (some .boolean)) (by decide) rfl ?_
  intro p9 e9 s m9 args below meth c9 s₁ B hml hv
  obtain ⟨rfl, hg, hP⟩ := hv
  have hx := B.exec
  have hb := B.bytes
  have hr := B.returns
  have hts := atoms_spec (ws := wsX4_membersFail) B.pre
  have hown : s.vm.findClass RX4 = some m9.cls := findClass_of_methodNamed B.named
  have hlocks := B.notSynchronized
  have hK := hg.1
  have w_0 := hts (.fieldLink RX4 138 "Dimfacts$Fact" "doubt" "I") (by decide +kernel)
  have win_X0 : ∀ w ∈ wsX00, w ∈ wsX4_membersFail := by decide +kernel
  have w_2 := hts (.fieldLink RX4 135 "Dimfacts$Fact" "value" "I") (by decide +kernel)
  have hl := lv_entry ([.ref (a 5), .int (nI c), .int (nI p), .int f]) (n := 9) (Nat.le_of_ble_eq_true rfl)
  rw [lg_entry_eq]
  generalize (lg_sl ([.ref (a 5), .int (nI c), .int (nI p), .int f]) ++ List.replicate (9 - (lg_sl ([.ref (a 5), .int (nI c), .int (nI p), .int f])).length) Slot.unset).toArray = ls at hl ⊢
  have hl : lv_has ls 9 [(0, .ref (a 5)), (1, .int (nI c)), (2, .int (nI p)), (3, .int f)] := hl
  refine lv_aload_n hx hb dX4_membersFail_0 rfl (lv_at hl 0 rfl) ?_
  refine lv_iload_n hx hb dX4_membersFail_1 rfl (lv_at hl 1 rfl) ?_
  refine lv_iload_n hx hb dX4_membersFail_2 rfl (lv_at hl 2 rfl) ?_
  refine lv_iconst (v := 0) hx hb dX4_membersFail_3 (by decide) ?_
  refine g_csi (va_runS (As := [.int (nI c), .int (nI p), .int 0]) (rest := [.ref (a 5)]) ⟨hx, hb, hml, hown, hts⟩ (c4_keyOf l D cI cZ cO cL dt A c p 0 (WD cI cO a FA nC nR nL nF par wt stk flw hd rea sig ++ (WF FA ck cf cd cv nx nF ++ R))) (va_cwS 3 hts gX4_membersFail_X4_keyOf rfl rfl rfl (by decide +kernel) ⟨Nat.le_of_ble_eq_true rfl, Nat.le_of_ble_eq_true rfl⟩) (gP.s hg hP) rfl rfl hl.1 rfl (lv_room (Nat.le_of_ble_eq_true rfl)) dX4_membersFail_4 ⟨Nat.le_of_ble_eq_true rfl, Nat.le_of_ble_eq_true rfl⟩) (fun r_1 hr_1 => ?_)
  obtain rfl : r_1 = nI (c * 40 + p * 4 + 0) := hr_1
  refine lv_iload_n hx hb dX4_membersFail_7 rfl (lv_at hl 3 rfl) ?_
  refine g_csq (va_runU (As := [.int (nI (c * 40 + p * 4 + 0)), .int f]) (rest := []) ⟨hx, hb, hml, hown, hts⟩ (c3_holding l D cI cZ cO cL dt A a FA nC nR nL nF par wt stk flw hd rea sig ck cf cd cv nx R (nI (c * 40 + p * 4 + 0)) f hF hcf hcd) (va_cwA 2 hts gX4_membersFail_X3_holding_u196X3 rfl rfl rfl hg.2.1.2.2.2.2.2.1 (by decide +kernel) ⟨Nat.le_of_ble_eq_true rfl, Nat.le_of_ble_eq_true rfl⟩) (gP.v hg hP 2 rfl (5) (rfl) hP) rfl rfl hl.1 rfl (lv_room (Nat.le_of_ble_eq_true rfl)) dX4_membersFail_8 ⟨Nat.le_of_ble_eq_true rfl, Nat.le_of_ble_eq_true rfl⟩) (fun r_2 hr_2 => ?_)
  obtain ⟨o_r_2, hO⟩ : ∃ z, hC ck cf cd nF (nI (c * 40 + p * 4 + 0)) f = z := ⟨_, rfl⟩
  rcases o_r_2 with _ | o
  · skip
    obtain rfl : r_2 = none := hr_2.trans (congrArg (Option.map FA) hO)
    refine lv_astoreN (lv' := [(4, .null), (0, .ref (a 5)), (1, .int (nI c)), (2, .int (nI p)), (3, .int f)]) hx hb dX4_membersFail_11 hl (by decide) rfl (fun ls hl => ?_)
    refine lv_aloadN hx hb dX4_membersFail_13 (lv_at hl 0 rfl) ?_
    refine lv_ifnonnullN hx hb dX4_membersFail_15 ?_
    refine lv_iconst (v := 0) hx hb dX4_membersFail_18 (by decide) ?_
    exact W.zret (v := 0) hx hb hr (rfl) (fun t ht hW => ⟨0, rfl, (bI_f (by unfold memOff; rw [show (fun q => hC ck cf cd nF (nI (c * 40 + p * 4 + q)) f) 0 = none from hO]; simp)), ht⟩) (fun q h => nomatch h) dX4_membersFail_19
  · skip
    obtain rfl : r_2 = some (FA o) := hr_2.trans (congrArg (Option.map FA) hO)
    have ho := (sel_lt hO).1
    refine lv_astore (lv' := [(4, .ref (FA o)), (0, .ref (a 5)), (1, .int (nI c)), (2, .int (nI p)), (3, .int f)]) hx hb dX4_membersFail_11 hl (by decide) rfl (fun ls hl => ?_)
    refine lv_aload hx hb dX4_membersFail_13 (lv_at hl 0 rfl) ?_
    refine lv_ifnonnull (tgt := 20) hx hb dX4_membersFail_15 (by decide) ?_
    refine lv_iconst (v := 0) hx hb dX4_membersFail_20 (by decide) ?_
    refine lv_istore (lv' := [(5, .int 0), (4, .ref (FA o)), (0, .ref (a 5)), (1, .int (nI c)), (2, .int (nI p)), (3, .int f)]) hx hb dX4_membersFail_21 hl (by decide) rfl (fun ls hl => ?_)
    refine lv_aload hx hb dX4_membersFail_23 (lv_at hl 1 rfl) ?_
    refine va_get (D := D) (ci := 0) (v := .int (nI (10 ^ cd o))) (C := RX0) (T := TX0) (N := 5) hx hb hts win_X0 hown hK hP (11 + o) (WDF_at (by omega)) rfl 3 (by decide) w_0 (fun _ h9 => h9) rfl dX4_membersFail_25 ?_
    refine lv_istore (lv' := [(6, .int (nI (10 ^ cd o))), (5, .int 0), (4, .ref (FA o)), (0, .ref (a 5)), (1, .int (nI c)), (2, .int (nI p)), (3, .int f)]) hx hb dX4_membersFail_28 hl (by decide) rfl (fun ls hl => ?_)
    refine lv_iconst (v := 1) hx hb dX4_membersFail_30 (by decide) ?_
    refine lv_istore (lv' := [(7, .int 1), (6, .int (nI (10 ^ cd o))), (5, .int 0), (4, .ref (FA o)), (0, .ref (a 5)), (1, .int (nI c)), (2, .int (nI p)), (3, .int f)]) hx hb dX4_membersFail_31 hl (by decide) rfl (fun ls hl => ?_)
    have lp33 : ∀ (n33 k : Nat)  (x5 : Int32) (x6 : Int32), 4 < k + n33 → k ≤ 4 → x5 = mSum (fun q => hC ck cf cd nF (nI (c * 40 + p * 4 + q)) f) cv k → x6 = mDbt (fun q => hC ck cf cd nF (nI (c * 40 + p * 4 + q)) f) cd k → mAll (fun q => hC ck cf cd nF (nI (c * 40 + p * 4 + q)) f) k = true → 1 ≤ k → ∀ ls : Array Slot, lv_has ls 9 [(7, .int (nI k)), (5, .int x5), (6, .int x6), (4, .ref (FA o)), (3, .int f), (2, .int (nI p)), (1, .int (nI c)), (0, .ref (a 5))] → W p9 l e9 (headSpec wsX4_membersFail ({ frames := 2, cells := 0, slots := 0, locals := 62 } : Room)).room s m9 ([.ref (a 5), .int (nI c), .int (nI p), .int f] : List Value).toArray below meth c9 s.heap [] 0 0 (MQ below (vp_Si (fun r => r = bI (memOff (fun q => hC ck cf cd nF (nI (c * 40 + p * 4 + q)) f) cd cv = true))) ([.ref (a 5), .int (nI c), .int (nI p), .int f] : List Value).toArray s 0 0 (fun _ => False)) (F0 m9 33 ls []) := by
      intro n33
      induction n33 with
      | zero => intro k  x5 x6 h1 h2; exact absurd h1 (by omega)
      | succ n33 ih33 =>
        intro k  x5 x6 hn33 hk33 e33_5 e33_6 v33_0 v33_1 ls hl
        refine lv_iload hx hb dX4_membersFail_33 (lv_at hl 0 rfl) ?_
        refine lv_iconst (v := 4) hx hb dX4_membersFail_35 (by decide) ?_
        refine lv_icmp_ge (tgt := 86) hx hb dX4_membersFail_36 (by decide) (fun c_36 => ?_) (fun c_36 => ?_)
        · skip
          have hkF : k = 4 := by have := (nI_leI (a := 4) (b := k) (by omega) (by omega)).mp c_36; omega
          rw [hkF] at e33_5
          rw [hkF] at e33_6
          rw [hkF] at v33_0
          rw [hkF] at v33_1
          refine lv_aload hx hb dX4_membersFail_86 (lv_at hl 3 rfl) ?_
          refine va_get (D := D) (ci := 0) (v := .int (cv o)) (C := RX0) (T := TX0) (N := 5) hx hb hts win_X0 hown hK hP (11 + o) (WDF_at (by omega)) rfl 2 (by decide) w_2 (fun _ h9 => h9) rfl dX4_membersFail_88 ?_
          refine lv_iload hx hb dX4_membersFail_91 (lv_at hl 1 rfl) ?_
          refine lv_iload hx hb dX4_membersFail_93 (lv_at hl 2 rfl) ?_
          refine g_csi (va_runS (As := [.int (cv o), .int x5, .int x6]) (rest := []) ⟨hx, hb, hml, hown, hts⟩ (c4_isApart l D cI cZ cO cL dt A (cv o) x5 x6 (WD cI cO a FA nC nR nL nF par wt stk flw hd rea sig ++ (WF FA ck cf cd cv nx nF ++ R)) ((hcv o).small) (by rw [e33_5]; exact mSum_small hcv (by omega))) (va_cwS 3 hts gX4_membersFail_X4_isApart rfl rfl rfl (by decide +kernel) ⟨Nat.le_of_ble_eq_true rfl, Nat.le_of_ble_eq_true rfl⟩) (gP.s hg hP) rfl rfl hl.1 rfl (lv_room (Nat.le_of_ble_eq_true rfl)) dX4_membersFail_95 ⟨Nat.le_of_ble_eq_true rfl, Nat.le_of_ble_eq_true rfl⟩) (fun r_3 hr_3 => ?_)
          obtain rfl : r_3 = bI (x6 < 2 * farI (cv o) x5) := hr_3
          exact W.zret (v := bI (x6 < 2 * farI (cv o) x5)) hx hb hr (bI_nr _) (fun t ht hW => ⟨bI (x6 < 2 * farI (cv o) x5), rfl, (bI_congr (by unfold memOff; rw [show (fun q => hC ck cf cd nF (nI (c * 40 + p * 4 + q)) f) 0 = some o from hO]; simp only [Bool.and_eq_true, decide_eq_true_eq]; rw [← e33_5, ← e33_6]; exact ⟨fun q => ⟨v33_0, q⟩, fun q => q.2⟩)), ht⟩) (fun q h => nomatch h) dX4_membersFail_98
        · skip
          have hkF : k < 4 := by have := mt (nI_leI (a := 4) (b := k) (by omega) (by omega)).mpr c_36; omega
          refine lv_aload_n hx hb dX4_membersFail_39 rfl (lv_at hl 7 rfl) ?_
          refine lv_iload_n hx hb dX4_membersFail_40 rfl (lv_at hl 6 rfl) ?_
          refine lv_iload_n hx hb dX4_membersFail_41 rfl (lv_at hl 5 rfl) ?_
          refine lv_iload hx hb dX4_membersFail_42 (lv_at hl 0 rfl) ?_
          refine g_csi (va_runS (As := [.int (nI c), .int (nI p), .int (nI k)]) (rest := [.ref (a 5)]) ⟨hx, hb, hml, hown, hts⟩ (c4_keyOf l D cI cZ cO cL dt A c p k (WD cI cO a FA nC nR nL nF par wt stk flw hd rea sig ++ (WF FA ck cf cd cv nx nF ++ R))) (va_cwS 3 hts gX4_membersFail_X4_keyOf rfl rfl rfl (by decide +kernel) ⟨Nat.le_of_ble_eq_true rfl, Nat.le_of_ble_eq_true rfl⟩) (gP.s hg hP) rfl rfl hl.1 rfl (lv_room (Nat.le_of_ble_eq_true rfl)) dX4_membersFail_44 ⟨Nat.le_of_ble_eq_true rfl, Nat.le_of_ble_eq_true rfl⟩) (fun r_4 hr_4 => ?_)
          obtain rfl : r_4 = nI (c * 40 + p * 4 + k) := hr_4
          refine lv_iload_n hx hb dX4_membersFail_47 rfl (lv_at hl 4 rfl) ?_
          refine g_csq (va_runU (As := [.int (nI (c * 40 + p * 4 + k)), .int f]) (rest := []) ⟨hx, hb, hml, hown, hts⟩ (c3_holding l D cI cZ cO cL dt A a FA nC nR nL nF par wt stk flw hd rea sig ck cf cd cv nx R (nI (c * 40 + p * 4 + k)) f hF hcf hcd) (va_cwA 2 hts gX4_membersFail_X3_holding_u196X3 rfl rfl rfl hg.2.1.2.2.2.2.2.1 (by decide +kernel) ⟨Nat.le_of_ble_eq_true rfl, Nat.le_of_ble_eq_true rfl⟩) (gP.v hg hP 2 rfl (5) (rfl) hP) rfl rfl hl.1 rfl (lv_room (Nat.le_of_ble_eq_true rfl)) dX4_membersFail_48 ⟨Nat.le_of_ble_eq_true rfl, Nat.le_of_ble_eq_true rfl⟩) (fun r_5 hr_5 => ?_)
          obtain ⟨o_r_5, hS⟩ : ∃ z, hC ck cf cd nF (nI (c * 40 + p * 4 + k)) f = z := ⟨_, rfl⟩
          rcases o_r_5 with _ | j
          · skip
            obtain rfl : r_5 = none := hr_5.trans (congrArg (Option.map FA) hS)
            refine lv_astoreN (lv' := [(8, .null), (7, .int (nI k)), (5, .int x5), (6, .int x6), (4, .ref (FA o)), (3, .int f), (2, .int (nI p)), (1, .int (nI c)), (0, .ref (a 5))]) hx hb dX4_membersFail_51 hl (by decide) rfl (fun ls hl => ?_)
            refine lv_aloadN hx hb dX4_membersFail_53 (lv_at hl 0 rfl) ?_
            refine lv_ifnonnullN hx hb dX4_membersFail_55 ?_
            refine lv_iconst (v := 0) hx hb dX4_membersFail_58 (by decide) ?_
            exact W.zret (v := 0) hx hb hr (rfl) (fun t ht hW => ⟨0, rfl, (bI_f (by unfold memOff; rw [show (fun q => hC ck cf cd nF (nI (c * 40 + p * 4 + q)) f) 0 = some o from hO]; simp only [Bool.and_eq_true]; intro q; have := mAll_at (k := k) q.1 (by omega); rw [hS] at this; cases this)), ht⟩) (fun q h => nomatch h) dX4_membersFail_59
          · skip
            obtain rfl : r_5 = some (FA j) := hr_5.trans (congrArg (Option.map FA) hS)
            have hj := (sel_lt hS).1
            refine lv_astore (lv' := [(8, .ref (FA j)), (7, .int (nI k)), (5, .int x5), (6, .int x6), (4, .ref (FA o)), (3, .int f), (2, .int (nI p)), (1, .int (nI c)), (0, .ref (a 5))]) hx hb dX4_membersFail_51 hl (by decide) rfl (fun ls hl => ?_)
            refine lv_aload hx hb dX4_membersFail_53 (lv_at hl 0 rfl) ?_
            refine lv_ifnonnull (tgt := 60) hx hb dX4_membersFail_55 (by decide) ?_
            refine lv_iload hx hb dX4_membersFail_60 (lv_at hl 2 rfl) ?_
            refine lv_aload hx hb dX4_membersFail_62 (lv_at hl 0 rfl) ?_
            refine va_get (D := D) (ci := 0) (v := .int (cv j)) (C := RX0) (T := TX0) (N := 5) hx hb hts win_X0 hown hK hP (11 + j) (WDF_at (by omega)) rfl 2 (by decide) w_2 (fun _ h9 => h9) rfl dX4_membersFail_64 ?_
            refine lv_iadd hx hb dX4_membersFail_67 ?_
            refine lv_istore (lv' := [(5, .int (x5 + (cv j))), (8, .ref (FA j)), (7, .int (nI k)), (6, .int x6), (4, .ref (FA o)), (3, .int f), (2, .int (nI p)), (1, .int (nI c)), (0, .ref (a 5))]) hx hb dX4_membersFail_68 hl (by decide) rfl (fun ls hl => ?_)
            refine lv_iload hx hb dX4_membersFail_70 (lv_at hl 3 rfl) ?_
            refine lv_aload hx hb dX4_membersFail_72 (lv_at hl 1 rfl) ?_
            refine va_get (D := D) (ci := 0) (v := .int (nI (10 ^ cd j))) (C := RX0) (T := TX0) (N := 5) hx hb hts win_X0 hown hK hP (11 + j) (WDF_at (by omega)) rfl 3 (by decide) w_0 (fun _ h9 => h9) rfl dX4_membersFail_74 ?_
            refine lv_iadd hx hb dX4_membersFail_77 ?_
            refine lv_istore (lv' := [(6, .int (x6 + (nI (10 ^ cd j)))), (5, .int (x5 + (cv j))), (8, .ref (FA j)), (7, .int (nI k)), (4, .ref (FA o)), (3, .int f), (2, .int (nI p)), (1, .int (nI c)), (0, .ref (a 5))]) hx hb dX4_membersFail_78 hl (by decide) rfl (fun ls hl => ?_)
            refine lv_iinc (v := nI (k + 1)) (lv' := [(7, .int (nI (k + 1))), (6, .int (x6 + (nI (10 ^ cd j)))), (5, .int (x5 + (cv j))), (8, .ref (FA j)), (4, .ref (FA o)), (3, .int f), (2, .int (nI p)), (1, .int (nI c)), (0, .ref (a 5))]) hx hb dX4_membersFail_80 hl (k := 3) rfl (nI_1 k) (by decide) rfl (fun ls hl => ?_)
            refine lv_goto (tgt := 33) hx hb dX4_membersFail_83 (by decide) ?_
            exact ih33 (k + 1)  (x5 + (cv j)) (x6 + (nI (10 ^ cd j))) (by omega) (by omega) (by show _ = mSum (fun q => hC ck cf cd nF (nI (c * 40 + p * 4 + q)) f) cv k + (if k = 0 then 0 else (match (fun q => hC ck cf cd nF (nI (c * 40 + p * 4 + q)) f) k with | none => 0 | some j => cv j)); rw [if_neg (by omega), show (fun q => hC ck cf cd nF (nI (c * 40 + p * 4 + q)) f) k = some j from hS, e33_5]) (by show _ = mDbt (fun q => hC ck cf cd nF (nI (c * 40 + p * 4 + q)) f) cd k + (match (fun q => hC ck cf cd nF (nI (c * 40 + p * 4 + q)) f) k with | none => 0 | some j => nI (10 ^ cd j)); rw [show (fun q => hC ck cf cd nF (nI (c * 40 + p * 4 + q)) f) k = some j from hS, e33_6]) (by show (mAll (fun q => hC ck cf cd nF (nI (c * 40 + p * 4 + q)) f) k && ((fun q => hC ck cf cd nF (nI (c * 40 + p * 4 + q)) f) k).isSome) = true; rw [v33_0, show (fun q => hC ck cf cd nF (nI (c * 40 + p * 4 + q)) f) k = some j from hS]; rfl) (by omega) _ (lv_sub hl [0, 2, 1, 4, 5, 6, 7, 8] rfl)
    exact lp33 (4 + 1) 1  0 (nI (10 ^ cd o)) (by omega) (by omega) (by show _ = (0 : Int32) + 0; rfl) (by show _ = (0 : Int32) + (match (fun q => hC ck cf cd nF (nI (c * 40 + p * 4 + q)) f) 0 with | none => 0 | some j => nI (10 ^ cd j)); rw [show (fun q => hC ck cf cd nF (nI (c * 40 + p * 4 + q)) f) 0 = some o from hO]; exact (Int32.zero_add _).symm) (by show (true && ((fun q => hC ck cf cd nF (nI (c * 40 + p * 4 + q)) f) 0).isSome) = true; rw [show (fun q => hC ck cf cd nF (nI (c * 40 + p * 4 + q)) f) 0 = some o from hO]; rfl) (by omega) _ (lv_sub hl [0, 2, 1, 3, 7, 6, 5, 4] rfl)
set_option maxHeartbeats 4000000 in
set_option maxRecDepth 100000 in
/-- a stock does not roll forward -/
theorem c4_rollFails_L (l : Launch) (D : va_G) (cI cZ cO cL : ClassId) (dt : Nat) (A : Nat → Prop) (a FA : Nat → Nat) (nC nR nL nF : Nat) (par wt stk flw : Nat → Int32) (hd : Nat → Option Nat) (rea sig : Nat → Int32) (ck cf cd : Nat → Nat) (cv : Nat → Int32) (nx : Nat → Option Nat) (R : va_W) (r x y p m : Nat) (f : Int32) (hF : nF ≤ 80) (hC12 : nC ≤ 12) (hck : ∀ k, ck k < 480) (hcf : ∀ k, cf k < 2 ^ 31) (hcd : ∀ k, cd k ≤ 4) (hcv : ∀ k, vOk (cv k)) (hwt : ∀ k, wOk (wt k)) (hCh : chOk ck cf cd hd nx nF) (hr : r < 5) (hsx : stk r = nI x) (hty : flw r = nI y) (hx12 : x < 12) (hy12 : y < 12) (hp : p < 10) (hm : m < 4) : Met l yX4_rollFails wsX4_rollFails ({ frames := 2, cells := 0, slots := 0, locals := 62 } : Room) (gP D cI cZ cO cL dt A [.ref (a 0), .ref (a 5), .int (nI r), .int (nI p), .int (nI m), .int f] (fun H => va_P D vwCl (WD cI cO a FA nC nR nL nF par wt stk flw hd rea sig ++ (WF FA ck cf cd cv nx nF ++ R)) H)) (vp_Si (fun z => z = bI (rollOff (nI p) (hC ck cf cd nF (nI (x * 40 + p * 4 + m)) f) (hC ck cf cd nF (nI (x * 40 + (p - 1) * 4 + m)) f) (hC ck cf cd nF (nI (y * 40 + p * 4 + m)) f) cd cv = true))) 0 0 (fun _ => False) := by
  refine Met.ofW (cc := cX4_rollFails) (maxL := 9) (ret := (some .boolean)) (by decide) rfl ?_
  intro p9 e9 s m9 args below meth c9 s₁ B hml hv
  obtain ⟨rfl, hg, hP⟩ := hv
  have hx := B.exec
  have hb := B.bytes
  have hr := B.returns
  have hts := atoms_spec (ws := wsX4_rollFails) B.pre
  have hown : s.vm.findClass RX4 = some m9.cls := findClass_of_methodNamed B.named
  have hlocks := B.notSynchronized
  have hK := hg.1
  have w_0 := hts (.fieldLink RX4 16 "Dimfacts" "stocks" "[I") (by decide +kernel)
  have win_X4 : ∀ w ∈ wsX40, w ∈ wsX4_rollFails := by decide +kernel
  have w_2 := hts (.fieldLink RX4 19 "Dimfacts" "flows" "[I") (by decide +kernel)
  have w_3 := hts (.fieldLink RX4 135 "Dimfacts$Fact" "value" "I") (by decide +kernel)
  have win_X0 : ∀ w ∈ wsX00, w ∈ wsX4_rollFails := by decide +kernel
  have w_5 := hts (.fieldLink RX4 138 "Dimfacts$Fact" "doubt" "I") (by decide +kernel)
  have hl := lv_entry ([.ref (a 0), .ref (a 5), .int (nI r), .int (nI p), .int (nI m), .int f]) (n := 9) (Nat.le_of_ble_eq_true rfl)
  rw [lg_entry_eq]
  generalize (lg_sl ([.ref (a 0), .ref (a 5), .int (nI r), .int (nI p), .int (nI m), .int f]) ++ List.replicate (9 - (lg_sl ([.ref (a 0), .ref (a 5), .int (nI r), .int (nI p), .int (nI m), .int f])).length) Slot.unset).toArray = ls at hl ⊢
  have hl : lv_has ls 9 [(0, .ref (a 0)), (1, .ref (a 5)), (2, .int (nI r)), (3, .int (nI p)), (4, .int (nI m)), (5, .int f)] := hl
  refine lv_iload_n hx hb dX4_rollFails_0 rfl (lv_at hl 3 rfl) ?_
  refine lv_if_ne (tgt := 6) hx hb dX4_rollFails_1 (by decide) (fun c_1 => ?_) (fun c_1 => ?_)
  · skip
    have hp0 : 0 < p := by
      rcases Nat.eq_zero_or_pos p with q | q
      · exact absurd (by rw [q]; rfl) c_1
      · exact q
    refine lv_aload_n hx hb dX4_rollFails_6 rfl (lv_at hl 1 rfl) ?_
    refine lv_aload_n hx hb dX4_rollFails_7 rfl (lv_at hl 0 rfl) ?_
    refine va_get (D := D) (ci := 3) (v := .ref (a 3)) (C := RX4) (T := TX4) (N := 11) hx hb hts win_X4 hown hK hP (0) (rfl) rfl 3 (by decide) w_0 (fun _ h9 => h9) rfl dX4_rollFails_8 ?_
    refine lv_iload_n hx hb dX4_rollFails_11 rfl (lv_at hl 2 rfl) ?_
    refine g_iald hx hb hK hP (3) 0 (n := 5) (f := stk) (rfl) rfl r rfl (by omega) (by decide) dX4_rollFails_12 ?_
    refine lv_topi (fun dv edv => ?_)
    obtain rfl : dv = nI x := by rw [edv]; exact hsx
    refine lv_iload_n hx hb dX4_rollFails_13 rfl (lv_at hl 3 rfl) ?_
    refine lv_iload hx hb dX4_rollFails_14 (lv_at hl 4 rfl) ?_
    refine g_csi (va_runS (As := [.int (nI x), .int (nI p), .int (nI m)]) (rest := [.ref (a 5)]) ⟨hx, hb, hml, hown, hts⟩ (c4_keyOf l D cI cZ cO cL dt A x p m (WD cI cO a FA nC nR nL nF par wt stk flw hd rea sig ++ (WF FA ck cf cd cv nx nF ++ R))) (va_cwS 3 hts gX4_rollFails_X4_keyOf rfl rfl rfl (by decide +kernel) ⟨Nat.le_of_ble_eq_true rfl, Nat.le_of_ble_eq_true rfl⟩) (gP.s hg hP) rfl rfl hl.1 rfl (lv_room (Nat.le_of_ble_eq_true rfl)) dX4_rollFails_16 ⟨Nat.le_of_ble_eq_true rfl, Nat.le_of_ble_eq_true rfl⟩) (fun r_1 hr_1 => ?_)
    obtain rfl : r_1 = nI (x * 40 + p * 4 + m) := hr_1
    refine lv_iload hx hb dX4_rollFails_19 (lv_at hl 5 rfl) ?_
    refine g_csq (va_runU (As := [.int (nI (x * 40 + p * 4 + m)), .int f]) (rest := []) ⟨hx, hb, hml, hown, hts⟩ (c3_holding l D cI cZ cO cL dt A a FA nC nR nL nF par wt stk flw hd rea sig ck cf cd cv nx R (nI (x * 40 + p * 4 + m)) f hF hcf hcd) (va_cwA 2 hts gX4_rollFails_X3_holding_u196X3 rfl rfl rfl hg.2.1.2.2.2.2.2.1 (by decide +kernel) ⟨Nat.le_of_ble_eq_true rfl, Nat.le_of_ble_eq_true rfl⟩) (gP.v hg hP 2 rfl (5) (rfl) hP) rfl rfl hl.1 rfl (lv_room (Nat.le_of_ble_eq_true rfl)) dX4_rollFails_21 ⟨Nat.le_of_ble_eq_true rfl, Nat.le_of_ble_eq_true rfl⟩) (fun r_2 hr_2 => ?_)
    obtain ⟨o_r_2, hA⟩ : ∃ z, hC ck cf cd nF (nI (x * 40 + p * 4 + m)) f = z := ⟨_, rfl⟩
    rcases o_r_2 with _ | ja
    · skip
      obtain rfl : r_2 = none := hr_2.trans (congrArg (Option.map FA) hA)
      refine lv_astoreN (lv' := [(6, .null), (0, .ref (a 0)), (1, .ref (a 5)), (2, .int (nI r)), (3, .int (nI p)), (4, .int (nI m)), (5, .int f)]) hx hb dX4_rollFails_24 hl (by decide) rfl (fun ls hl => ?_)
      refine lv_aload_n hx hb dX4_rollFails_26 rfl (lv_at hl 2 rfl) ?_
      refine lv_aload_n hx hb dX4_rollFails_27 rfl (lv_at hl 1 rfl) ?_
      refine va_get (D := D) (ci := 3) (v := .ref (a 3)) (C := RX4) (T := TX4) (N := 11) hx hb hts win_X4 hown hK hP (0) (rfl) rfl 3 (by decide) w_0 (fun _ h9 => h9) rfl dX4_rollFails_28 ?_
      refine lv_iload_n hx hb dX4_rollFails_31 rfl (lv_at hl 3 rfl) ?_
      refine g_iald hx hb hK hP (3) 0 (n := 5) (f := stk) (rfl) rfl r rfl (by omega) (by decide) dX4_rollFails_32 ?_
      refine lv_topi (fun dv edv => ?_)
      obtain rfl : dv = nI x := by rw [edv]; exact hsx
      refine lv_iload_n hx hb dX4_rollFails_33 rfl (lv_at hl 4 rfl) ?_
      refine lv_iconst (v := 1) hx hb dX4_rollFails_34 (by decide) ?_
      refine lv_isub hx hb dX4_rollFails_35 ?_
      refine lv_topi (fun dv edv => ?_)
      obtain rfl : dv = nI (p - 1) := by rw [edv]; exact nI_sub1 hp0
      refine lv_iload hx hb dX4_rollFails_36 (lv_at hl 5 rfl) ?_
      refine g_csi (va_runS (As := [.int (nI x), .int (nI (p - 1)), .int (nI m)]) (rest := [.ref (a 5)]) ⟨hx, hb, hml, hown, hts⟩ (c4_keyOf l D cI cZ cO cL dt A x (p - 1) m (WD cI cO a FA nC nR nL nF par wt stk flw hd rea sig ++ (WF FA ck cf cd cv nx nF ++ R))) (va_cwS 3 hts gX4_rollFails_X4_keyOf rfl rfl rfl (by decide +kernel) ⟨Nat.le_of_ble_eq_true rfl, Nat.le_of_ble_eq_true rfl⟩) (gP.s hg hP) rfl rfl hl.1 rfl (lv_room (Nat.le_of_ble_eq_true rfl)) dX4_rollFails_38 ⟨Nat.le_of_ble_eq_true rfl, Nat.le_of_ble_eq_true rfl⟩) (fun r_3 hr_3 => ?_)
      obtain rfl : r_3 = nI (x * 40 + (p - 1) * 4 + m) := hr_3
      refine lv_iload hx hb dX4_rollFails_41 (lv_at hl 6 rfl) ?_
      refine g_csq (va_runU (As := [.int (nI (x * 40 + (p - 1) * 4 + m)), .int f]) (rest := []) ⟨hx, hb, hml, hown, hts⟩ (c3_holding l D cI cZ cO cL dt A a FA nC nR nL nF par wt stk flw hd rea sig ck cf cd cv nx R (nI (x * 40 + (p - 1) * 4 + m)) f hF hcf hcd) (va_cwA 2 hts gX4_rollFails_X3_holding_u196X3 rfl rfl rfl hg.2.1.2.2.2.2.2.1 (by decide +kernel) ⟨Nat.le_of_ble_eq_true rfl, Nat.le_of_ble_eq_true rfl⟩) (gP.v hg hP 2 rfl (5) (rfl) hP) rfl rfl hl.1 rfl (lv_room (Nat.le_of_ble_eq_true rfl)) dX4_rollFails_43 ⟨Nat.le_of_ble_eq_true rfl, Nat.le_of_ble_eq_true rfl⟩) (fun r_4 hr_4 => ?_)
      obtain ⟨o_r_4, hB⟩ : ∃ z, hC ck cf cd nF (nI (x * 40 + (p - 1) * 4 + m)) f = z := ⟨_, rfl⟩
      rcases o_r_4 with _ | jb
      · skip
        obtain rfl : r_4 = none := hr_4.trans (congrArg (Option.map FA) hB)
        refine lv_astoreN (lv' := [(7, .null), (6, .null), (0, .ref (a 0)), (1, .ref (a 5)), (2, .int (nI r)), (3, .int (nI p)), (4, .int (nI m)), (5, .int f)]) hx hb dX4_rollFails_46 hl (by decide) rfl (fun ls hl => ?_)
        refine lv_aload_n hx hb dX4_rollFails_48 rfl (lv_at hl 3 rfl) ?_
        refine lv_aload_n hx hb dX4_rollFails_49 rfl (lv_at hl 2 rfl) ?_
        refine va_get (D := D) (ci := 3) (v := .ref (a 4)) (C := RX4) (T := TX4) (N := 11) hx hb hts win_X4 hown hK hP (0) (rfl) rfl 4 (by decide) w_2 (fun _ h9 => h9) rfl dX4_rollFails_50 ?_
        refine lv_iload_n hx hb dX4_rollFails_53 rfl (lv_at hl 4 rfl) ?_
        refine g_iald hx hb hK hP (4) 0 (n := 5) (f := flw) (rfl) rfl r rfl (by omega) (by decide) dX4_rollFails_54 ?_
        refine lv_topi (fun dv edv => ?_)
        obtain rfl : dv = nI y := by rw [edv]; exact hty
        refine lv_iload_n hx hb dX4_rollFails_55 rfl (lv_at hl 5 rfl) ?_
        refine lv_iload hx hb dX4_rollFails_56 (lv_at hl 6 rfl) ?_
        refine g_csi (va_runS (As := [.int (nI y), .int (nI p), .int (nI m)]) (rest := [.ref (a 5)]) ⟨hx, hb, hml, hown, hts⟩ (c4_keyOf l D cI cZ cO cL dt A y p m (WD cI cO a FA nC nR nL nF par wt stk flw hd rea sig ++ (WF FA ck cf cd cv nx nF ++ R))) (va_cwS 3 hts gX4_rollFails_X4_keyOf rfl rfl rfl (by decide +kernel) ⟨Nat.le_of_ble_eq_true rfl, Nat.le_of_ble_eq_true rfl⟩) (gP.s hg hP) rfl rfl hl.1 rfl (lv_room (Nat.le_of_ble_eq_true rfl)) dX4_rollFails_58 ⟨Nat.le_of_ble_eq_true rfl, Nat.le_of_ble_eq_true rfl⟩) (fun r_5 hr_5 => ?_)
        obtain rfl : r_5 = nI (y * 40 + p * 4 + m) := hr_5
        refine lv_iload hx hb dX4_rollFails_61 (lv_at hl 7 rfl) ?_
        refine g_csq (va_runU (As := [.int (nI (y * 40 + p * 4 + m)), .int f]) (rest := []) ⟨hx, hb, hml, hown, hts⟩ (c3_holding l D cI cZ cO cL dt A a FA nC nR nL nF par wt stk flw hd rea sig ck cf cd cv nx R (nI (y * 40 + p * 4 + m)) f hF hcf hcd) (va_cwA 2 hts gX4_rollFails_X3_holding_u196X3 rfl rfl rfl hg.2.1.2.2.2.2.2.1 (by decide +kernel) ⟨Nat.le_of_ble_eq_true rfl, Nat.le_of_ble_eq_true rfl⟩) (gP.v hg hP 2 rfl (5) (rfl) hP) rfl rfl hl.1 rfl (lv_room (Nat.le_of_ble_eq_true rfl)) dX4_rollFails_63 ⟨Nat.le_of_ble_eq_true rfl, Nat.le_of_ble_eq_true rfl⟩) (fun r_6 hr_6 => ?_)
        obtain ⟨o_r_6, hD⟩ : ∃ z, hC ck cf cd nF (nI (y * 40 + p * 4 + m)) f = z := ⟨_, rfl⟩
        rcases o_r_6 with _ | jc
        · skip
          obtain rfl : r_6 = none := hr_6.trans (congrArg (Option.map FA) hD)
          refine lv_astoreN (lv' := [(8, .null), (7, .null), (6, .null), (0, .ref (a 0)), (1, .ref (a 5)), (2, .int (nI r)), (3, .int (nI p)), (4, .int (nI m)), (5, .int f)]) hx hb dX4_rollFails_66 hl (by decide) rfl (fun ls hl => ?_)
          refine lv_aloadN hx hb dX4_rollFails_68 (lv_at hl 2 rfl) ?_
          refine lv_ifnullN (tgt := 83) hx hb dX4_rollFails_70 (by decide) ?_
          refine lv_iconst (v := 0) hx hb dX4_rollFails_83 (by decide) ?_
          exact W.zret (v := 0) hx hb hr (rfl) (fun t ht hW => ⟨0, rfl, (bI_f (by unfold rollOff; rw [hA, hB, hD]; simp)), ht⟩) (fun q h => nomatch h) dX4_rollFails_84
        · skip
          obtain rfl : r_6 = some (FA jc) := hr_6.trans (congrArg (Option.map FA) hD)
          have hjc := (sel_lt hD).1
          refine lv_astore (lv' := [(8, .ref (FA jc)), (7, .null), (6, .null), (0, .ref (a 0)), (1, .ref (a 5)), (2, .int (nI r)), (3, .int (nI p)), (4, .int (nI m)), (5, .int f)]) hx hb dX4_rollFails_66 hl (by decide) rfl (fun ls hl => ?_)
          refine lv_aloadN hx hb dX4_rollFails_68 (lv_at hl 2 rfl) ?_
          refine lv_ifnullN (tgt := 83) hx hb dX4_rollFails_70 (by decide) ?_
          refine lv_iconst (v := 0) hx hb dX4_rollFails_83 (by decide) ?_
          exact W.zret (v := 0) hx hb hr (rfl) (fun t ht hW => ⟨0, rfl, (bI_f (by unfold rollOff; rw [hA, hB, hD]; simp)), ht⟩) (fun q h => nomatch h) dX4_rollFails_84
      · skip
        obtain rfl : r_4 = some (FA jb) := hr_4.trans (congrArg (Option.map FA) hB)
        have hjb := (sel_lt hB).1
        refine lv_astore (lv' := [(7, .ref (FA jb)), (6, .null), (0, .ref (a 0)), (1, .ref (a 5)), (2, .int (nI r)), (3, .int (nI p)), (4, .int (nI m)), (5, .int f)]) hx hb dX4_rollFails_46 hl (by decide) rfl (fun ls hl => ?_)
        refine lv_aload_n hx hb dX4_rollFails_48 rfl (lv_at hl 3 rfl) ?_
        refine lv_aload_n hx hb dX4_rollFails_49 rfl (lv_at hl 2 rfl) ?_
        refine va_get (D := D) (ci := 3) (v := .ref (a 4)) (C := RX4) (T := TX4) (N := 11) hx hb hts win_X4 hown hK hP (0) (rfl) rfl 4 (by decide) w_2 (fun _ h9 => h9) rfl dX4_rollFails_50 ?_
        refine lv_iload_n hx hb dX4_rollFails_53 rfl (lv_at hl 4 rfl) ?_
        refine g_iald hx hb hK hP (4) 0 (n := 5) (f := flw) (rfl) rfl r rfl (by omega) (by decide) dX4_rollFails_54 ?_
        refine lv_topi (fun dv edv => ?_)
        obtain rfl : dv = nI y := by rw [edv]; exact hty
        refine lv_iload_n hx hb dX4_rollFails_55 rfl (lv_at hl 5 rfl) ?_
        refine lv_iload hx hb dX4_rollFails_56 (lv_at hl 6 rfl) ?_
        refine g_csi (va_runS (As := [.int (nI y), .int (nI p), .int (nI m)]) (rest := [.ref (a 5)]) ⟨hx, hb, hml, hown, hts⟩ (c4_keyOf l D cI cZ cO cL dt A y p m (WD cI cO a FA nC nR nL nF par wt stk flw hd rea sig ++ (WF FA ck cf cd cv nx nF ++ R))) (va_cwS 3 hts gX4_rollFails_X4_keyOf rfl rfl rfl (by decide +kernel) ⟨Nat.le_of_ble_eq_true rfl, Nat.le_of_ble_eq_true rfl⟩) (gP.s hg hP) rfl rfl hl.1 rfl (lv_room (Nat.le_of_ble_eq_true rfl)) dX4_rollFails_58 ⟨Nat.le_of_ble_eq_true rfl, Nat.le_of_ble_eq_true rfl⟩) (fun r_7 hr_7 => ?_)
        obtain rfl : r_7 = nI (y * 40 + p * 4 + m) := hr_7
        refine lv_iload hx hb dX4_rollFails_61 (lv_at hl 7 rfl) ?_
        refine g_csq (va_runU (As := [.int (nI (y * 40 + p * 4 + m)), .int f]) (rest := []) ⟨hx, hb, hml, hown, hts⟩ (c3_holding l D cI cZ cO cL dt A a FA nC nR nL nF par wt stk flw hd rea sig ck cf cd cv nx R (nI (y * 40 + p * 4 + m)) f hF hcf hcd) (va_cwA 2 hts gX4_rollFails_X3_holding_u196X3 rfl rfl rfl hg.2.1.2.2.2.2.2.1 (by decide +kernel) ⟨Nat.le_of_ble_eq_true rfl, Nat.le_of_ble_eq_true rfl⟩) (gP.v hg hP 2 rfl (5) (rfl) hP) rfl rfl hl.1 rfl (lv_room (Nat.le_of_ble_eq_true rfl)) dX4_rollFails_63 ⟨Nat.le_of_ble_eq_true rfl, Nat.le_of_ble_eq_true rfl⟩) (fun r_8 hr_8 => ?_)
        obtain ⟨o_r_8, hD⟩ : ∃ z, hC ck cf cd nF (nI (y * 40 + p * 4 + m)) f = z := ⟨_, rfl⟩
        rcases o_r_8 with _ | jc
        · skip
          obtain rfl : r_8 = none := hr_8.trans (congrArg (Option.map FA) hD)
          refine lv_astoreN (lv' := [(8, .null), (7, .ref (FA jb)), (6, .null), (0, .ref (a 0)), (1, .ref (a 5)), (2, .int (nI r)), (3, .int (nI p)), (4, .int (nI m)), (5, .int f)]) hx hb dX4_rollFails_66 hl (by decide) rfl (fun ls hl => ?_)
          refine lv_aloadN hx hb dX4_rollFails_68 (lv_at hl 2 rfl) ?_
          refine lv_ifnullN (tgt := 83) hx hb dX4_rollFails_70 (by decide) ?_
          refine lv_iconst (v := 0) hx hb dX4_rollFails_83 (by decide) ?_
          exact W.zret (v := 0) hx hb hr (rfl) (fun t ht hW => ⟨0, rfl, (bI_f (by unfold rollOff; rw [hA, hB, hD]; simp)), ht⟩) (fun q h => nomatch h) dX4_rollFails_84
        · skip
          obtain rfl : r_8 = some (FA jc) := hr_8.trans (congrArg (Option.map FA) hD)
          have hjc := (sel_lt hD).1
          refine lv_astore (lv' := [(8, .ref (FA jc)), (7, .ref (FA jb)), (6, .null), (0, .ref (a 0)), (1, .ref (a 5)), (2, .int (nI r)), (3, .int (nI p)), (4, .int (nI m)), (5, .int f)]) hx hb dX4_rollFails_66 hl (by decide) rfl (fun ls hl => ?_)
          refine lv_aloadN hx hb dX4_rollFails_68 (lv_at hl 2 rfl) ?_
          refine lv_ifnullN (tgt := 83) hx hb dX4_rollFails_70 (by decide) ?_
          refine lv_iconst (v := 0) hx hb dX4_rollFails_83 (by decide) ?_
          exact W.zret (v := 0) hx hb hr (rfl) (fun t ht hW => ⟨0, rfl, (bI_f (by unfold rollOff; rw [hA, hB, hD]; simp)), ht⟩) (fun q h => nomatch h) dX4_rollFails_84
    · skip
      obtain rfl : r_2 = some (FA ja) := hr_2.trans (congrArg (Option.map FA) hA)
      have hja := (sel_lt hA).1
      refine lv_astore (lv' := [(6, .ref (FA ja)), (0, .ref (a 0)), (1, .ref (a 5)), (2, .int (nI r)), (3, .int (nI p)), (4, .int (nI m)), (5, .int f)]) hx hb dX4_rollFails_24 hl (by decide) rfl (fun ls hl => ?_)
      refine lv_aload_n hx hb dX4_rollFails_26 rfl (lv_at hl 2 rfl) ?_
      refine lv_aload_n hx hb dX4_rollFails_27 rfl (lv_at hl 1 rfl) ?_
      refine va_get (D := D) (ci := 3) (v := .ref (a 3)) (C := RX4) (T := TX4) (N := 11) hx hb hts win_X4 hown hK hP (0) (rfl) rfl 3 (by decide) w_0 (fun _ h9 => h9) rfl dX4_rollFails_28 ?_
      refine lv_iload_n hx hb dX4_rollFails_31 rfl (lv_at hl 3 rfl) ?_
      refine g_iald hx hb hK hP (3) 0 (n := 5) (f := stk) (rfl) rfl r rfl (by omega) (by decide) dX4_rollFails_32 ?_
      refine lv_topi (fun dv edv => ?_)
      obtain rfl : dv = nI x := by rw [edv]; exact hsx
      refine lv_iload_n hx hb dX4_rollFails_33 rfl (lv_at hl 4 rfl) ?_
      refine lv_iconst (v := 1) hx hb dX4_rollFails_34 (by decide) ?_
      refine lv_isub hx hb dX4_rollFails_35 ?_
      refine lv_topi (fun dv edv => ?_)
      obtain rfl : dv = nI (p - 1) := by rw [edv]; exact nI_sub1 hp0
      refine lv_iload hx hb dX4_rollFails_36 (lv_at hl 5 rfl) ?_
      refine g_csi (va_runS (As := [.int (nI x), .int (nI (p - 1)), .int (nI m)]) (rest := [.ref (a 5)]) ⟨hx, hb, hml, hown, hts⟩ (c4_keyOf l D cI cZ cO cL dt A x (p - 1) m (WD cI cO a FA nC nR nL nF par wt stk flw hd rea sig ++ (WF FA ck cf cd cv nx nF ++ R))) (va_cwS 3 hts gX4_rollFails_X4_keyOf rfl rfl rfl (by decide +kernel) ⟨Nat.le_of_ble_eq_true rfl, Nat.le_of_ble_eq_true rfl⟩) (gP.s hg hP) rfl rfl hl.1 rfl (lv_room (Nat.le_of_ble_eq_true rfl)) dX4_rollFails_38 ⟨Nat.le_of_ble_eq_true rfl, Nat.le_of_ble_eq_true rfl⟩) (fun r_9 hr_9 => ?_)
      obtain rfl : r_9 = nI (x * 40 + (p - 1) * 4 + m) := hr_9
      refine lv_iload hx hb dX4_rollFails_41 (lv_at hl 6 rfl) ?_
      refine g_csq (va_runU (As := [.int (nI (x * 40 + (p - 1) * 4 + m)), .int f]) (rest := []) ⟨hx, hb, hml, hown, hts⟩ (c3_holding l D cI cZ cO cL dt A a FA nC nR nL nF par wt stk flw hd rea sig ck cf cd cv nx R (nI (x * 40 + (p - 1) * 4 + m)) f hF hcf hcd) (va_cwA 2 hts gX4_rollFails_X3_holding_u196X3 rfl rfl rfl hg.2.1.2.2.2.2.2.1 (by decide +kernel) ⟨Nat.le_of_ble_eq_true rfl, Nat.le_of_ble_eq_true rfl⟩) (gP.v hg hP 2 rfl (5) (rfl) hP) rfl rfl hl.1 rfl (lv_room (Nat.le_of_ble_eq_true rfl)) dX4_rollFails_43 ⟨Nat.le_of_ble_eq_true rfl, Nat.le_of_ble_eq_true rfl⟩) (fun r_10 hr_10 => ?_)
      obtain ⟨o_r_10, hB⟩ : ∃ z, hC ck cf cd nF (nI (x * 40 + (p - 1) * 4 + m)) f = z := ⟨_, rfl⟩
      rcases o_r_10 with _ | jb
      · skip
        obtain rfl : r_10 = none := hr_10.trans (congrArg (Option.map FA) hB)
        refine lv_astoreN (lv' := [(7, .null), (6, .ref (FA ja)), (0, .ref (a 0)), (1, .ref (a 5)), (2, .int (nI r)), (3, .int (nI p)), (4, .int (nI m)), (5, .int f)]) hx hb dX4_rollFails_46 hl (by decide) rfl (fun ls hl => ?_)
        refine lv_aload_n hx hb dX4_rollFails_48 rfl (lv_at hl 3 rfl) ?_
        refine lv_aload_n hx hb dX4_rollFails_49 rfl (lv_at hl 2 rfl) ?_
        refine va_get (D := D) (ci := 3) (v := .ref (a 4)) (C := RX4) (T := TX4) (N := 11) hx hb hts win_X4 hown hK hP (0) (rfl) rfl 4 (by decide) w_2 (fun _ h9 => h9) rfl dX4_rollFails_50 ?_
        refine lv_iload_n hx hb dX4_rollFails_53 rfl (lv_at hl 4 rfl) ?_
        refine g_iald hx hb hK hP (4) 0 (n := 5) (f := flw) (rfl) rfl r rfl (by omega) (by decide) dX4_rollFails_54 ?_
        refine lv_topi (fun dv edv => ?_)
        obtain rfl : dv = nI y := by rw [edv]; exact hty
        refine lv_iload_n hx hb dX4_rollFails_55 rfl (lv_at hl 5 rfl) ?_
        refine lv_iload hx hb dX4_rollFails_56 (lv_at hl 6 rfl) ?_
        refine g_csi (va_runS (As := [.int (nI y), .int (nI p), .int (nI m)]) (rest := [.ref (a 5)]) ⟨hx, hb, hml, hown, hts⟩ (c4_keyOf l D cI cZ cO cL dt A y p m (WD cI cO a FA nC nR nL nF par wt stk flw hd rea sig ++ (WF FA ck cf cd cv nx nF ++ R))) (va_cwS 3 hts gX4_rollFails_X4_keyOf rfl rfl rfl (by decide +kernel) ⟨Nat.le_of_ble_eq_true rfl, Nat.le_of_ble_eq_true rfl⟩) (gP.s hg hP) rfl rfl hl.1 rfl (lv_room (Nat.le_of_ble_eq_true rfl)) dX4_rollFails_58 ⟨Nat.le_of_ble_eq_true rfl, Nat.le_of_ble_eq_true rfl⟩) (fun r_11 hr_11 => ?_)
        obtain rfl : r_11 = nI (y * 40 + p * 4 + m) := hr_11
        refine lv_iload hx hb dX4_rollFails_61 (lv_at hl 7 rfl) ?_
        refine g_csq (va_runU (As := [.int (nI (y * 40 + p * 4 + m)), .int f]) (rest := []) ⟨hx, hb, hml, hown, hts⟩ (c3_holding l D cI cZ cO cL dt A a FA nC nR nL nF par wt stk flw hd rea sig ck cf cd cv nx R (nI (y * 40 + p * 4 + m)) f hF hcf hcd) (va_cwA 2 hts gX4_rollFails_X3_holding_u196X3 rfl rfl rfl hg.2.1.2.2.2.2.2.1 (by decide +kernel) ⟨Nat.le_of_ble_eq_true rfl, Nat.le_of_ble_eq_true rfl⟩) (gP.v hg hP 2 rfl (5) (rfl) hP) rfl rfl hl.1 rfl (lv_room (Nat.le_of_ble_eq_true rfl)) dX4_rollFails_63 ⟨Nat.le_of_ble_eq_true rfl, Nat.le_of_ble_eq_true rfl⟩) (fun r_12 hr_12 => ?_)
        obtain ⟨o_r_12, hD⟩ : ∃ z, hC ck cf cd nF (nI (y * 40 + p * 4 + m)) f = z := ⟨_, rfl⟩
        rcases o_r_12 with _ | jc
        · skip
          obtain rfl : r_12 = none := hr_12.trans (congrArg (Option.map FA) hD)
          refine lv_astoreN (lv' := [(8, .null), (7, .null), (6, .ref (FA ja)), (0, .ref (a 0)), (1, .ref (a 5)), (2, .int (nI r)), (3, .int (nI p)), (4, .int (nI m)), (5, .int f)]) hx hb dX4_rollFails_66 hl (by decide) rfl (fun ls hl => ?_)
          refine lv_aload hx hb dX4_rollFails_68 (lv_at hl 2 rfl) ?_
          refine lv_ifnull hx hb dX4_rollFails_70 ?_
          refine lv_aloadN hx hb dX4_rollFails_73 (lv_at hl 1 rfl) ?_
          refine lv_ifnullN (tgt := 83) hx hb dX4_rollFails_75 (by decide) ?_
          refine lv_iconst (v := 0) hx hb dX4_rollFails_83 (by decide) ?_
          exact W.zret (v := 0) hx hb hr (rfl) (fun t ht hW => ⟨0, rfl, (bI_f (by unfold rollOff; rw [hA, hB, hD]; simp)), ht⟩) (fun q h => nomatch h) dX4_rollFails_84
        · skip
          obtain rfl : r_12 = some (FA jc) := hr_12.trans (congrArg (Option.map FA) hD)
          have hjc := (sel_lt hD).1
          refine lv_astore (lv' := [(8, .ref (FA jc)), (7, .null), (6, .ref (FA ja)), (0, .ref (a 0)), (1, .ref (a 5)), (2, .int (nI r)), (3, .int (nI p)), (4, .int (nI m)), (5, .int f)]) hx hb dX4_rollFails_66 hl (by decide) rfl (fun ls hl => ?_)
          refine lv_aload hx hb dX4_rollFails_68 (lv_at hl 2 rfl) ?_
          refine lv_ifnull hx hb dX4_rollFails_70 ?_
          refine lv_aloadN hx hb dX4_rollFails_73 (lv_at hl 1 rfl) ?_
          refine lv_ifnullN (tgt := 83) hx hb dX4_rollFails_75 (by decide) ?_
          refine lv_iconst (v := 0) hx hb dX4_rollFails_83 (by decide) ?_
          exact W.zret (v := 0) hx hb hr (rfl) (fun t ht hW => ⟨0, rfl, (bI_f (by unfold rollOff; rw [hA, hB, hD]; simp)), ht⟩) (fun q h => nomatch h) dX4_rollFails_84
      · skip
        obtain rfl : r_10 = some (FA jb) := hr_10.trans (congrArg (Option.map FA) hB)
        have hjb := (sel_lt hB).1
        refine lv_astore (lv' := [(7, .ref (FA jb)), (6, .ref (FA ja)), (0, .ref (a 0)), (1, .ref (a 5)), (2, .int (nI r)), (3, .int (nI p)), (4, .int (nI m)), (5, .int f)]) hx hb dX4_rollFails_46 hl (by decide) rfl (fun ls hl => ?_)
        refine lv_aload_n hx hb dX4_rollFails_48 rfl (lv_at hl 3 rfl) ?_
        refine lv_aload_n hx hb dX4_rollFails_49 rfl (lv_at hl 2 rfl) ?_
        refine va_get (D := D) (ci := 3) (v := .ref (a 4)) (C := RX4) (T := TX4) (N := 11) hx hb hts win_X4 hown hK hP (0) (rfl) rfl 4 (by decide) w_2 (fun _ h9 => h9) rfl dX4_rollFails_50 ?_
        refine lv_iload_n hx hb dX4_rollFails_53 rfl (lv_at hl 4 rfl) ?_
        refine g_iald hx hb hK hP (4) 0 (n := 5) (f := flw) (rfl) rfl r rfl (by omega) (by decide) dX4_rollFails_54 ?_
        refine lv_topi (fun dv edv => ?_)
        obtain rfl : dv = nI y := by rw [edv]; exact hty
        refine lv_iload_n hx hb dX4_rollFails_55 rfl (lv_at hl 5 rfl) ?_
        refine lv_iload hx hb dX4_rollFails_56 (lv_at hl 6 rfl) ?_
        refine g_csi (va_runS (As := [.int (nI y), .int (nI p), .int (nI m)]) (rest := [.ref (a 5)]) ⟨hx, hb, hml, hown, hts⟩ (c4_keyOf l D cI cZ cO cL dt A y p m (WD cI cO a FA nC nR nL nF par wt stk flw hd rea sig ++ (WF FA ck cf cd cv nx nF ++ R))) (va_cwS 3 hts gX4_rollFails_X4_keyOf rfl rfl rfl (by decide +kernel) ⟨Nat.le_of_ble_eq_true rfl, Nat.le_of_ble_eq_true rfl⟩) (gP.s hg hP) rfl rfl hl.1 rfl (lv_room (Nat.le_of_ble_eq_true rfl)) dX4_rollFails_58 ⟨Nat.le_of_ble_eq_true rfl, Nat.le_of_ble_eq_true rfl⟩) (fun r_13 hr_13 => ?_)
        obtain rfl : r_13 = nI (y * 40 + p * 4 + m) := hr_13
        refine lv_iload hx hb dX4_rollFails_61 (lv_at hl 7 rfl) ?_
        refine g_csq (va_runU (As := [.int (nI (y * 40 + p * 4 + m)), .int f]) (rest := []) ⟨hx, hb, hml, hown, hts⟩ (c3_holding l D cI cZ cO cL dt A a FA nC nR nL nF par wt stk flw hd rea sig ck cf cd cv nx R (nI (y * 40 + p * 4 + m)) f hF hcf hcd) (va_cwA 2 hts gX4_rollFails_X3_holding_u196X3 rfl rfl rfl hg.2.1.2.2.2.2.2.1 (by decide +kernel) ⟨Nat.le_of_ble_eq_true rfl, Nat.le_of_ble_eq_true rfl⟩) (gP.v hg hP 2 rfl (5) (rfl) hP) rfl rfl hl.1 rfl (lv_room (Nat.le_of_ble_eq_true rfl)) dX4_rollFails_63 ⟨Nat.le_of_ble_eq_true rfl, Nat.le_of_ble_eq_true rfl⟩) (fun r_14 hr_14 => ?_)
        obtain ⟨o_r_14, hD⟩ : ∃ z, hC ck cf cd nF (nI (y * 40 + p * 4 + m)) f = z := ⟨_, rfl⟩
        rcases o_r_14 with _ | jc
        · skip
          obtain rfl : r_14 = none := hr_14.trans (congrArg (Option.map FA) hD)
          refine lv_astoreN (lv' := [(8, .null), (7, .ref (FA jb)), (6, .ref (FA ja)), (0, .ref (a 0)), (1, .ref (a 5)), (2, .int (nI r)), (3, .int (nI p)), (4, .int (nI m)), (5, .int f)]) hx hb dX4_rollFails_66 hl (by decide) rfl (fun ls hl => ?_)
          refine lv_aload hx hb dX4_rollFails_68 (lv_at hl 2 rfl) ?_
          refine lv_ifnull hx hb dX4_rollFails_70 ?_
          refine lv_aload hx hb dX4_rollFails_73 (lv_at hl 1 rfl) ?_
          refine lv_ifnull hx hb dX4_rollFails_75 ?_
          refine lv_aloadN hx hb dX4_rollFails_78 (lv_at hl 0 rfl) ?_
          refine lv_ifnonnullN hx hb dX4_rollFails_80 ?_
          refine lv_iconst (v := 0) hx hb dX4_rollFails_83 (by decide) ?_
          exact W.zret (v := 0) hx hb hr (rfl) (fun t ht hW => ⟨0, rfl, (bI_f (by unfold rollOff; rw [hA, hB, hD]; simp)), ht⟩) (fun q h => nomatch h) dX4_rollFails_84
        · skip
          obtain rfl : r_14 = some (FA jc) := hr_14.trans (congrArg (Option.map FA) hD)
          have hjc := (sel_lt hD).1
          refine lv_astore (lv' := [(8, .ref (FA jc)), (7, .ref (FA jb)), (6, .ref (FA ja)), (0, .ref (a 0)), (1, .ref (a 5)), (2, .int (nI r)), (3, .int (nI p)), (4, .int (nI m)), (5, .int f)]) hx hb dX4_rollFails_66 hl (by decide) rfl (fun ls hl => ?_)
          refine lv_aload hx hb dX4_rollFails_68 (lv_at hl 2 rfl) ?_
          refine lv_ifnull hx hb dX4_rollFails_70 ?_
          refine lv_aload hx hb dX4_rollFails_73 (lv_at hl 1 rfl) ?_
          refine lv_ifnull hx hb dX4_rollFails_75 ?_
          refine lv_aload hx hb dX4_rollFails_78 (lv_at hl 0 rfl) ?_
          refine lv_ifnonnull (tgt := 85) hx hb dX4_rollFails_80 (by decide) ?_
          refine lv_aload hx hb dX4_rollFails_85 (lv_at hl 2 rfl) ?_
          refine va_get (D := D) (ci := 0) (v := .int (cv ja)) (C := RX0) (T := TX0) (N := 5) hx hb hts win_X0 hown hK hP (11 + ja) (WDF_at (by omega)) rfl 2 (by decide) w_3 (fun _ h9 => h9) rfl dX4_rollFails_87 ?_
          refine lv_aload hx hb dX4_rollFails_90 (lv_at hl 1 rfl) ?_
          refine va_get (D := D) (ci := 0) (v := .int (cv jb)) (C := RX0) (T := TX0) (N := 5) hx hb hts win_X0 hown hK hP (11 + jb) (WDF_at (by omega)) rfl 2 (by decide) w_3 (fun _ h9 => h9) rfl dX4_rollFails_92 ?_
          refine lv_aload hx hb dX4_rollFails_95 (lv_at hl 0 rfl) ?_
          refine va_get (D := D) (ci := 0) (v := .int (cv jc)) (C := RX0) (T := TX0) (N := 5) hx hb hts win_X0 hown hK hP (11 + jc) (WDF_at (by omega)) rfl 2 (by decide) w_3 (fun _ h9 => h9) rfl dX4_rollFails_97 ?_
          refine lv_iadd hx hb dX4_rollFails_100 ?_
          refine lv_aload hx hb dX4_rollFails_101 (lv_at hl 2 rfl) ?_
          refine va_get (D := D) (ci := 0) (v := .int (nI (10 ^ cd ja))) (C := RX0) (T := TX0) (N := 5) hx hb hts win_X0 hown hK hP (11 + ja) (WDF_at (by omega)) rfl 3 (by decide) w_5 (fun _ h9 => h9) rfl dX4_rollFails_103 ?_
          refine lv_aload hx hb dX4_rollFails_106 (lv_at hl 1 rfl) ?_
          refine va_get (D := D) (ci := 0) (v := .int (nI (10 ^ cd jb))) (C := RX0) (T := TX0) (N := 5) hx hb hts win_X0 hown hK hP (11 + jb) (WDF_at (by omega)) rfl 3 (by decide) w_5 (fun _ h9 => h9) rfl dX4_rollFails_108 ?_
          refine lv_iadd hx hb dX4_rollFails_111 ?_
          refine lv_aload hx hb dX4_rollFails_112 (lv_at hl 0 rfl) ?_
          refine va_get (D := D) (ci := 0) (v := .int (nI (10 ^ cd jc))) (C := RX0) (T := TX0) (N := 5) hx hb hts win_X0 hown hK hP (11 + jc) (WDF_at (by omega)) rfl 3 (by decide) w_5 (fun _ h9 => h9) rfl dX4_rollFails_114 ?_
          refine lv_iadd hx hb dX4_rollFails_117 ?_
          refine g_csi (va_runS (As := [.int (cv ja), .int ((cv jb) + (cv jc)), .int (((nI (10 ^ cd ja)) + (nI (10 ^ cd jb))) + (nI (10 ^ cd jc)))]) (rest := []) ⟨hx, hb, hml, hown, hts⟩ (c4_isApart l D cI cZ cO cL dt A (cv ja) ((cv jb) + (cv jc)) (((nI (10 ^ cd ja)) + (nI (10 ^ cd jb))) + (nI (10 ^ cd jc))) (WD cI cO a FA nC nR nL nF par wt stk flw hd rea sig ++ (WF FA ck cf cd cv nx nF ++ R)) ((hcv ja).small) (add_small (hcv jb) (hcv jc))) (va_cwS 3 hts gX4_rollFails_X4_isApart rfl rfl rfl (by decide +kernel) ⟨Nat.le_of_ble_eq_true rfl, Nat.le_of_ble_eq_true rfl⟩) (gP.s hg hP) rfl rfl hl.1 rfl (lv_room (Nat.le_of_ble_eq_true rfl)) dX4_rollFails_118 ⟨Nat.le_of_ble_eq_true rfl, Nat.le_of_ble_eq_true rfl⟩) (fun r_15 hr_15 => ?_)
          obtain rfl : r_15 = bI (((nI (10 ^ cd ja)) + (nI (10 ^ cd jb))) + (nI (10 ^ cd jc)) < 2 * farI (cv ja) ((cv jb) + (cv jc))) := hr_15
          exact W.zret (v := bI (((nI (10 ^ cd ja)) + (nI (10 ^ cd jb))) + (nI (10 ^ cd jc)) < 2 * farI (cv ja) ((cv jb) + (cv jc)))) hx hb hr (bI_nr _) (fun t ht hW => ⟨bI (((nI (10 ^ cd ja)) + (nI (10 ^ cd jb))) + (nI (10 ^ cd jc)) < 2 * farI (cv ja) ((cv jb) + (cv jc))), rfl, (bI_congr (by unfold rollOff; rw [hA, hB, hD]; simp only [Bool.and_eq_true, decide_eq_true_eq]; exact ⟨fun q => ⟨nI_lt hp0 (by omega), q⟩, fun q => q.2⟩)), ht⟩) (fun q h => nomatch h) dX4_rollFails_121
  · skip
    have hp0 : p = 0 := (nI_eq (by omega) (by decide)).mp c_1
    refine lv_iconst (v := 0) hx hb dX4_rollFails_4 (by decide) ?_
    exact W.zret (v := 0) hx hb hr (rfl) (fun t ht hW => ⟨0, rfl, (bI_f (by unfold rollOff; subst hp0; cases hC ck cf cd nF (nI (x * 40 + 0 * 4 + m)) f <;> cases hC ck cf cd nF (nI (x * 40 + (0 - 1) * 4 + m)) f <;> cases hC ck cf cd nF (nI (y * 40 + 0 * 4 + m)) f <;> simp [nI_0])), ht⟩) (fun q h => nomatch h) dX4_rollFails_5
set_option maxHeartbeats 4000000 in
set_option maxRecDepth 100000 in
/-- the faults of a key -/
theorem c4_faultsAt_L (l : Launch) (D : va_G) (cI cZ cO cL : ClassId) (dt : Nat) (A : Nat → Prop) (a FA : Nat → Nat) (nC nR nL nF : Nat) (par wt stk flw : Nat → Int32) (hd : Nat → Option Nat) (rea sig : Nat → Int32) (ck cf cd : Nat → Nat) (cv : Nat → Int32) (nx : Nat → Option Nat) (R : va_W) (sk fk : Nat → Nat) (K c p m : Nat) (f : Int32) (hF : nF ≤ 80) (hC12 : nC ≤ 12) (hck : ∀ k, ck k < 480) (hcf : ∀ k, cf k < 2 ^ 31) (hcd : ∀ k, cd k ≤ 4) (hcv : ∀ k, vOk (cv k)) (hwt : ∀ k, wOk (wt k)) (hCh : chOk ck cf cd hd nx nF) (hR : nR ≤ 5) (hsk : ∀ r, stk r = nI (sk r)) (hfk : ∀ r, flw r = nI (fk r)) (hsk12 : ∀ r, sk r < 12) (hfk12 : ∀ r, fk r < 12) (hKe : K = c * 40 + p * 4 + m) (hc : c < nC) (hp : p < 10) (hm : m < 4) : Met l yX4_faultsAt wsX4_faultsAt ({ frames := 4, cells := 0, slots := 0, locals := 102 } : Room) (gP D cI cZ cO cL dt A [.ref (a 0), .ref (a 5), .int (nI K), .int f] (fun H => va_P D vwCl (WD cI cO a FA nC nR nL nF par wt stk flw hd rea sig ++ (WF FA ck cf cd cv nx nF ++ R)) H)) (vp_Si (fun z => z = fltA nC nR par wt sk fk (fun K => hC ck cf cd nF (nI K) f) cd cv c p m)) 0 0 (fun _ => False) := by
  refine Met.ofW (cc := cX4_faultsAt) (maxL := 9) (ret := (some .int)) (by decide) rfl ?_
  intro p9 e9 s m9 args below meth c9 s₁ B hml hv
  obtain ⟨rfl, hg, hP⟩ := hv
  have hx := B.exec
  have hb := B.bytes
  have hr := B.returns
  have hts := atoms_spec (ws := wsX4_faultsAt) B.pre
  have hown : s.vm.findClass RX4 = some m9.cls := findClass_of_methodNamed B.named
  have hlocks := B.notSynchronized
  have hK := hg.1
  have w_0 := hts (.fieldLink RX4 68 "Dimfacts" "ruleCount" "I") (by decide +kernel)
  have win_X4 : ∀ w ∈ wsX40, w ∈ wsX4_faultsAt := by decide +kernel
  have w_2 := hts (.fieldLink RX4 16 "Dimfacts" "stocks" "[I") (by decide +kernel)
  have hl := lv_entry ([.ref (a 0), .ref (a 5), .int (nI K), .int f]) (n := 9) (Nat.le_of_ble_eq_true rfl)
  rw [lg_entry_eq]
  generalize (lg_sl ([.ref (a 0), .ref (a 5), .int (nI K), .int f]) ++ List.replicate (9 - (lg_sl ([.ref (a 0), .ref (a 5), .int (nI K), .int f])).length) Slot.unset).toArray = ls at hl ⊢
  have hl : lv_has ls 9 [(0, .ref (a 0)), (1, .ref (a 5)), (2, .int (nI K)), (3, .int f)] := hl
  refine lv_iload_n hx hb dX4_faultsAt_0 rfl (lv_at hl 2 rfl) ?_
  refine lv_bipush (v := 40) hx hb dX4_faultsAt_1 (by decide) ?_
  refine lv_idiv hx hb dX4_faultsAt_3 (by decide) ?_
  refine lv_topi (fun dv edv => ?_)
  obtain rfl : dv = nI c := by rw [edv]; exact (pk_div (d := 40) (by omega) (by decide) (by decide)).trans (congrArg nI (by omega))
  refine lv_istore (lv' := [(4, .int (nI c)), (0, .ref (a 0)), (1, .ref (a 5)), (2, .int (nI K)), (3, .int f)]) hx hb dX4_faultsAt_4 hl (by decide) rfl (fun ls hl => ?_)
  refine lv_iload_n hx hb dX4_faultsAt_6 rfl (lv_at hl 3 rfl) ?_
  refine lv_iconst (v := 4) hx hb dX4_faultsAt_7 (by decide) ?_
  refine lv_idiv hx hb dX4_faultsAt_8 (by decide) ?_
  refine lv_bipush (v := 10) hx hb dX4_faultsAt_9 (by decide) ?_
  refine lv_irem hx hb dX4_faultsAt_11 (by decide) ?_
  refine lv_topi (fun dv edv => ?_)
  obtain rfl : dv = nI p := by rw [edv]; exact (congrArg (fun z => z - z / 10 * 10) (pk_div (d := 4) (by omega) (by decide) (by decide))).trans ((pk_rem (d := 10) (by omega) (by decide) (by decide)).trans (congrArg nI (by omega)))
  refine lv_istore (lv' := [(5, .int (nI p)), (4, .int (nI c)), (0, .ref (a 0)), (1, .ref (a 5)), (2, .int (nI K)), (3, .int f)]) hx hb dX4_faultsAt_12 hl (by decide) rfl (fun ls hl => ?_)
  refine lv_iload_n hx hb dX4_faultsAt_14 rfl (lv_at hl 4 rfl) ?_
  refine lv_iconst (v := 4) hx hb dX4_faultsAt_15 (by decide) ?_
  refine lv_irem hx hb dX4_faultsAt_16 (by decide) ?_
  refine lv_topi (fun dv edv => ?_)
  obtain rfl : dv = nI m := by rw [edv]; exact (pk_rem (d := 4) (by omega) (by decide) (by decide)).trans (congrArg nI (by omega))
  refine lv_istore (lv' := [(6, .int (nI m)), (5, .int (nI p)), (4, .int (nI c)), (0, .ref (a 0)), (1, .ref (a 5)), (2, .int (nI K)), (3, .int f)]) hx hb dX4_faultsAt_17 hl (by decide) rfl (fun ls hl => ?_)
  refine lv_aload_n hx hb dX4_faultsAt_19 rfl (lv_at hl 3 rfl) ?_
  refine lv_aload_n hx hb dX4_faultsAt_20 rfl (lv_at hl 4 rfl) ?_
  refine lv_iload hx hb dX4_faultsAt_21 (lv_at hl 2 rfl) ?_
  refine lv_iload hx hb dX4_faultsAt_23 (lv_at hl 1 rfl) ?_
  refine lv_iload hx hb dX4_faultsAt_25 (lv_at hl 0 rfl) ?_
  refine lv_iload_n hx hb dX4_faultsAt_27 rfl (lv_at hl 6 rfl) ?_
  refine g_csi (va_runV (As := [.ref (a 5), .int (nI c), .int (nI p), .int (nI m), .int f]) (rest := []) ⟨hx, hb, hml, hown, hts⟩ (c4_sumFails_L l D cI cZ cO cL dt A a FA nC nR nL nF par wt stk flw hd rea sig ck cf cd cv nx R c p m f hF hC12 hck hcf hcd hcv hwt hCh hc hp hm) (cwV 5 hts gX4_faultsAt_X4_sumFails rfl rfl rfl (by decide +kernel) ⟨Nat.le_of_ble_eq_true rfl, Nat.le_of_ble_eq_true rfl⟩) (gP.v hg hP 3 rfl (0) (rfl) hP) rfl rfl hl.1 rfl (lv_room (Nat.le_of_ble_eq_true rfl)) dX4_faultsAt_28 ⟨Nat.le_of_ble_eq_true rfl, Nat.le_of_ble_eq_true rfl⟩) (fun r_1 hr_1 => ?_)
  obtain rfl : r_1 = bI (sumOff nC par wt (fun k => hC ck cf cd nF (nI (k * 40 + p * 4 + m)) f) cd cv (nI c) (hC ck cf cd nF (nI (c * 40 + p * 4 + m)) f) = true) := hr_1
  refine lv_if_eq (tgt := 38) hx hb dX4_faultsAt_31 (by decide) (fun c_31 => ?_) (fun c_31 => ?_)
  · skip
    have c_31 := bI_z c_31
    refine lv_iconst (v := 0) hx hb dX4_faultsAt_38 (by decide) ?_
    refine lv_istore (lv' := [(7, .int 0), (6, .int (nI m)), (5, .int (nI p)), (4, .int (nI c)), (0, .ref (a 0)), (1, .ref (a 5)), (2, .int (nI K)), (3, .int f)]) hx hb dX4_faultsAt_39 hl (by decide) rfl (fun ls hl => ?_)
    refine lv_iload hx hb dX4_faultsAt_41 (lv_at hl 1 rfl) ?_
    refine lv_if_ne (tgt := 61) hx hb dX4_faultsAt_43 (by decide) (fun c_43 => ?_) (fun c_43 => ?_)
    · skip
      have hm0 : ¬ m = 0 := fun q => c_43 (by rw [q]; rfl)
      refine lv_iconst (v := 0) hx hb dX4_faultsAt_61 (by decide) ?_
      refine lv_istore (lv' := [(8, .int 0), (7, .int 0), (6, .int (nI m)), (5, .int (nI p)), (4, .int (nI c)), (0, .ref (a 0)), (1, .ref (a 5)), (2, .int (nI K)), (3, .int f)]) hx hb dX4_faultsAt_62 hl (by decide) rfl (fun ls hl => ?_)
      have lp64 : ∀ (n64 r : Nat)  (x7 : Int32), nR < r + n64 → r ≤ nR → x7 = 0 + sT (fun r => if sk r = c then bI (rollOff (nI p) (hC ck cf cd nF (nI ((sk r) * 40 + p * 4 + m)) f) (hC ck cf cd nF (nI ((sk r) * 40 + (p - 1) * 4 + m)) f) (hC ck cf cd nF (nI ((fk r) * 40 + p * 4 + m)) f) cd cv = true) else 0) r → ∀ ls : Array Slot, lv_has ls 9 [(8, .int (nI r)), (7, .int x7), (6, .int (nI m)), (5, .int (nI p)), (4, .int (nI c)), (3, .int f), (2, .int (nI K)), (1, .ref (a 5)), (0, .ref (a 0))] → W p9 l e9 (headSpec wsX4_faultsAt ({ frames := 4, cells := 0, slots := 0, locals := 102 } : Room)).room s m9 ([.ref (a 0), .ref (a 5), .int (nI K), .int f] : List Value).toArray below meth c9 s.heap [] 0 0 (MQ below (vp_Si (fun z => z = fltA nC nR par wt sk fk (fun K => hC ck cf cd nF (nI K) f) cd cv c p m)) ([.ref (a 0), .ref (a 5), .int (nI K), .int f] : List Value).toArray s 0 0 (fun _ => False)) (F0 m9 64 ls []) := by
        intro n64
        induction n64 with
        | zero => intro r  x7 h1 h2; exact absurd h1 (by omega)
        | succ n64 ih64 =>
          intro r  x7 hn64 hk64 e64_7  ls hl
          refine lv_iload hx hb dX4_faultsAt_64 (lv_at hl 0 rfl) ?_
          refine lv_aload_n hx hb dX4_faultsAt_66 rfl (lv_at hl 8 rfl) ?_
          refine va_get (D := D) (ci := 3) (v := .int (nI nR)) (C := RX4) (T := TX4) (N := 11) hx hb hts win_X4 hown hK hP (0) (rfl) rfl 5 (by decide) w_0 (fun _ h9 => h9) rfl dX4_faultsAt_67 ?_
          refine lv_icmp_ge (tgt := 109) hx hb dX4_faultsAt_70 (by decide) (fun c_70 => ?_) (fun c_70 => ?_)
          · skip
            have hkF : r = nR := by have := (nI_leI (a := nR) (b := r) (by omega) (by omega)).mp c_70; omega
            rw [hkF] at e64_7
            refine lv_iload hx hb dX4_faultsAt_109 (lv_at hl 1 rfl) ?_
            exact W.iret (v := x7) hx hb hr (fun t ht hW => ⟨x7, rfl, (by rw [e64_7]; unfold fltA; congr 1; show _ = bI _ + _; first | (rw [← bI_t c_31]; first | (rw [if_pos hm0, ← bI_t c_55]; done) | (rw [if_pos hm0, ← bI_f c_55]; rfl) | (rw [if_neg hm0]; rfl)) | (rw [← bI_f c_31]; first | (rw [if_pos hm0, ← bI_t c_55]; done) | (rw [if_pos hm0, ← bI_f c_55]; rfl) | (rw [if_neg hm0]; rfl))), ht⟩) (fun q h => nomatch h) dX4_faultsAt_111
          · skip
            have hkF : r < nR := by have := mt (nI_leI (a := nR) (b := r) (by omega) (by omega)).mpr c_70; omega
            refine lv_aload_n hx hb dX4_faultsAt_73 rfl (lv_at hl 8 rfl) ?_
            refine va_get (D := D) (ci := 3) (v := .ref (a 3)) (C := RX4) (T := TX4) (N := 11) hx hb hts win_X4 hown hK hP (0) (rfl) rfl 3 (by decide) w_2 (fun _ h9 => h9) rfl dX4_faultsAt_74 ?_
            refine lv_iload hx hb dX4_faultsAt_77 (lv_at hl 0 rfl) ?_
            refine g_iald hx hb hK hP (3) 0 (n := 5) (f := stk) (rfl) rfl r rfl (by omega) (by decide) dX4_faultsAt_79 ?_
            refine lv_iload hx hb dX4_faultsAt_80 (lv_at hl 4 rfl) ?_
            refine lv_icmp_ne (tgt := 103) hx hb dX4_faultsAt_82 (by decide) (fun c_82 => ?_) (fun c_82 => ?_)
            · skip
              have hsc : ¬ sk r = c := fun q => c_82 (by rw [hsk r, q])
              refine lv_iinc (v := nI (r + 1)) (lv' := [(8, .int (nI (r + 1))), (7, .int x7), (6, .int (nI m)), (5, .int (nI p)), (4, .int (nI c)), (3, .int f), (2, .int (nI K)), (1, .ref (a 5)), (0, .ref (a 0))]) hx hb dX4_faultsAt_103 hl (k := 0) rfl (nI_1 r) (by decide) rfl (fun ls hl => ?_)
              refine lv_goto (tgt := 64) hx hb dX4_faultsAt_106 (by decide) ?_
              exact ih64 (r + 1)  x7 (by omega) (by omega) (by rw [e64_7]; show _ = _ + (sT (fun r => if sk r = c then bI (rollOff (nI p) (hC ck cf cd nF (nI ((sk r) * 40 + p * 4 + m)) f) (hC ck cf cd nF (nI ((sk r) * 40 + (p - 1) * 4 + m)) f) (hC ck cf cd nF (nI ((fk r) * 40 + p * 4 + m)) f) cd cv = true) else 0) r + (fun r => if sk r = c then bI (rollOff (nI p) (hC ck cf cd nF (nI ((sk r) * 40 + p * 4 + m)) f) (hC ck cf cd nF (nI ((sk r) * 40 + (p - 1) * 4 + m)) f) (hC ck cf cd nF (nI ((fk r) * 40 + p * 4 + m)) f) cd cv = true) else 0) r); rw [← Int32.add_assoc]; show _ = _ + (if sk r = c then bI _ else 0); first | (rw [if_neg hsc]; exact (Int32.add_zero _).symm) | (rw [if_pos hsc, ← bI_f c_97]; exact (Int32.add_zero _).symm) | (rw [if_pos hsc, ← bI_t c_97]))  _ (lv_sub hl [0, 1, 2, 3, 4, 5, 6, 7, 8] rfl)
            · skip
              have hsc : sk r = c := by rw [hsk r] at c_82; exact (nI_eq (by have := hsk12 r; omega) (by omega)).mp c_82
              refine lv_aload_n hx hb dX4_faultsAt_85 rfl (lv_at hl 8 rfl) ?_
              refine lv_aload_n hx hb dX4_faultsAt_86 rfl (lv_at hl 7 rfl) ?_
              refine lv_iload hx hb dX4_faultsAt_87 (lv_at hl 0 rfl) ?_
              refine lv_iload hx hb dX4_faultsAt_89 (lv_at hl 3 rfl) ?_
              refine lv_iload hx hb dX4_faultsAt_91 (lv_at hl 2 rfl) ?_
              refine lv_iload_n hx hb dX4_faultsAt_93 rfl (lv_at hl 5 rfl) ?_
              refine g_csi (va_runV (As := [.ref (a 5), .int (nI r), .int (nI p), .int (nI m), .int f]) (rest := []) ⟨hx, hb, hml, hown, hts⟩ (c4_rollFails_L l D cI cZ cO cL dt A a FA nC nR nL nF par wt stk flw hd rea sig ck cf cd cv nx R r (sk r) (fk r) p m f hF hC12 hck hcf hcd hcv hwt hCh (by omega) (hsk r) (hfk r) (hsk12 r) (hfk12 r) hp hm) (cwV 5 hts gX4_faultsAt_X4_rollFails rfl rfl rfl (by decide +kernel) ⟨Nat.le_of_ble_eq_true rfl, Nat.le_of_ble_eq_true rfl⟩) (gP.v hg hP 3 rfl (0) (rfl) hP) rfl rfl hl.1 rfl (lv_room (Nat.le_of_ble_eq_true rfl)) dX4_faultsAt_94 ⟨Nat.le_of_ble_eq_true rfl, Nat.le_of_ble_eq_true rfl⟩) (fun r_2 hr_2 => ?_)
              obtain rfl : r_2 = bI (rollOff (nI p) (hC ck cf cd nF (nI ((sk r) * 40 + p * 4 + m)) f) (hC ck cf cd nF (nI ((sk r) * 40 + (p - 1) * 4 + m)) f) (hC ck cf cd nF (nI ((fk r) * 40 + p * 4 + m)) f) cd cv = true) := hr_2
              refine lv_if_eq (tgt := 103) hx hb dX4_faultsAt_97 (by decide) (fun c_97 => ?_) (fun c_97 => ?_)
              · skip
                have c_97 := bI_z c_97
                refine lv_iinc (v := nI (r + 1)) (lv' := [(8, .int (nI (r + 1))), (7, .int x7), (6, .int (nI m)), (5, .int (nI p)), (4, .int (nI c)), (3, .int f), (2, .int (nI K)), (1, .ref (a 5)), (0, .ref (a 0))]) hx hb dX4_faultsAt_103 hl (k := 0) rfl (nI_1 r) (by decide) rfl (fun ls hl => ?_)
                refine lv_goto (tgt := 64) hx hb dX4_faultsAt_106 (by decide) ?_
                exact ih64 (r + 1)  x7 (by omega) (by omega) (by rw [e64_7]; show _ = _ + (sT (fun r => if sk r = c then bI (rollOff (nI p) (hC ck cf cd nF (nI ((sk r) * 40 + p * 4 + m)) f) (hC ck cf cd nF (nI ((sk r) * 40 + (p - 1) * 4 + m)) f) (hC ck cf cd nF (nI ((fk r) * 40 + p * 4 + m)) f) cd cv = true) else 0) r + (fun r => if sk r = c then bI (rollOff (nI p) (hC ck cf cd nF (nI ((sk r) * 40 + p * 4 + m)) f) (hC ck cf cd nF (nI ((sk r) * 40 + (p - 1) * 4 + m)) f) (hC ck cf cd nF (nI ((fk r) * 40 + p * 4 + m)) f) cd cv = true) else 0) r); rw [← Int32.add_assoc]; show _ = _ + (if sk r = c then bI _ else 0); first | (rw [if_neg hsc]; exact (Int32.add_zero _).symm) | (rw [if_pos hsc, ← bI_f c_97]; exact (Int32.add_zero _).symm) | (rw [if_pos hsc, ← bI_t c_97]))  _ (lv_sub hl [0, 1, 2, 3, 4, 5, 6, 7, 8] rfl)
              · skip
                have c_97 := bI_n c_97
                refine lv_iinc (v := x7 + 1) (lv' := [(7, .int (x7 + 1)), (8, .int (nI r)), (6, .int (nI m)), (5, .int (nI p)), (4, .int (nI c)), (3, .int f), (2, .int (nI K)), (1, .ref (a 5)), (0, .ref (a 0))]) hx hb dX4_faultsAt_100 hl (k := 1) rfl (rfl) (by decide) rfl (fun ls hl => ?_)
                refine lv_iinc (v := nI (r + 1)) (lv' := [(8, .int (nI (r + 1))), (7, .int (x7 + 1)), (6, .int (nI m)), (5, .int (nI p)), (4, .int (nI c)), (3, .int f), (2, .int (nI K)), (1, .ref (a 5)), (0, .ref (a 0))]) hx hb dX4_faultsAt_103 hl (k := 1) rfl (nI_1 r) (by decide) rfl (fun ls hl => ?_)
                refine lv_goto (tgt := 64) hx hb dX4_faultsAt_106 (by decide) ?_
                exact ih64 (r + 1)  (x7 + 1) (by omega) (by omega) (by rw [e64_7]; show _ = _ + (sT (fun r => if sk r = c then bI (rollOff (nI p) (hC ck cf cd nF (nI ((sk r) * 40 + p * 4 + m)) f) (hC ck cf cd nF (nI ((sk r) * 40 + (p - 1) * 4 + m)) f) (hC ck cf cd nF (nI ((fk r) * 40 + p * 4 + m)) f) cd cv = true) else 0) r + (fun r => if sk r = c then bI (rollOff (nI p) (hC ck cf cd nF (nI ((sk r) * 40 + p * 4 + m)) f) (hC ck cf cd nF (nI ((sk r) * 40 + (p - 1) * 4 + m)) f) (hC ck cf cd nF (nI ((fk r) * 40 + p * 4 + m)) f) cd cv = true) else 0) r); rw [← Int32.add_assoc]; show _ = _ + (if sk r = c then bI _ else 0); first | (rw [if_neg hsc]; exact (Int32.add_zero _).symm) | (rw [if_pos hsc, ← bI_f c_97]; exact (Int32.add_zero _).symm) | (rw [if_pos hsc, ← bI_t c_97]))  _ (lv_sub hl [0, 1, 2, 3, 4, 5, 6, 7, 8] rfl)
      exact lp64 (nR + 1) 0  0 (by omega) (by omega) (Int32.add_zero _).symm  _ (lv_sub hl [0, 1, 2, 3, 4, 8, 7, 6, 5] rfl)
    · skip
      have hm0 : m = 0 := (nI_eq (by omega) (by decide)).mp c_43
      refine lv_aload_n hx hb dX4_faultsAt_46 rfl (lv_at hl 5 rfl) ?_
      refine lv_iload hx hb dX4_faultsAt_47 (lv_at hl 3 rfl) ?_
      refine lv_iload hx hb dX4_faultsAt_49 (lv_at hl 2 rfl) ?_
      refine lv_iload_n hx hb dX4_faultsAt_51 rfl (lv_at hl 7 rfl) ?_
      refine g_csi (va_runS (As := [.ref (a 5), .int (nI c), .int (nI p), .int f]) (rest := []) ⟨hx, hb, hml, hown, hts⟩ (c4_membersFail_L l D cI cZ cO cL dt A a FA nC nR nL nF par wt stk flw hd rea sig ck cf cd cv nx R c p f hF hC12 hck hcf hcd hcv hwt hCh hc hp) (va_cwS 4 hts gX4_faultsAt_X4_membersFail rfl rfl rfl (by decide +kernel) ⟨Nat.le_of_ble_eq_true rfl, Nat.le_of_ble_eq_true rfl⟩) (gP.s hg hP) rfl rfl hl.1 rfl (lv_room (Nat.le_of_ble_eq_true rfl)) dX4_faultsAt_52 ⟨Nat.le_of_ble_eq_true rfl, Nat.le_of_ble_eq_true rfl⟩) (fun r_3 hr_3 => ?_)
      obtain rfl : r_3 = bI (memOff (fun q => hC ck cf cd nF (nI (c * 40 + p * 4 + q)) f) cd cv = true) := hr_3
      refine lv_if_eq (tgt := 61) hx hb dX4_faultsAt_55 (by decide) (fun c_55 => ?_) (fun c_55 => ?_)
      · skip
        have c_55 := bI_z c_55
        refine lv_iconst (v := 0) hx hb dX4_faultsAt_61 (by decide) ?_
        refine lv_istore (lv' := [(8, .int 0), (7, .int 0), (6, .int (nI m)), (5, .int (nI p)), (4, .int (nI c)), (0, .ref (a 0)), (1, .ref (a 5)), (2, .int (nI K)), (3, .int f)]) hx hb dX4_faultsAt_62 hl (by decide) rfl (fun ls hl => ?_)
        have lp64 : ∀ (n64 r : Nat)  (x7 : Int32), nR < r + n64 → r ≤ nR → x7 = 0 + sT (fun r => if sk r = c then bI (rollOff (nI p) (hC ck cf cd nF (nI ((sk r) * 40 + p * 4 + m)) f) (hC ck cf cd nF (nI ((sk r) * 40 + (p - 1) * 4 + m)) f) (hC ck cf cd nF (nI ((fk r) * 40 + p * 4 + m)) f) cd cv = true) else 0) r → ∀ ls : Array Slot, lv_has ls 9 [(8, .int (nI r)), (7, .int x7), (6, .int (nI m)), (5, .int (nI p)), (4, .int (nI c)), (3, .int f), (2, .int (nI K)), (1, .ref (a 5)), (0, .ref (a 0))] → W p9 l e9 (headSpec wsX4_faultsAt ({ frames := 4, cells := 0, slots := 0, locals := 102 } : Room)).room s m9 ([.ref (a 0), .ref (a 5), .int (nI K), .int f] : List Value).toArray below meth c9 s.heap [] 0 0 (MQ below (vp_Si (fun z => z = fltA nC nR par wt sk fk (fun K => hC ck cf cd nF (nI K) f) cd cv c p m)) ([.ref (a 0), .ref (a 5), .int (nI K), .int f] : List Value).toArray s 0 0 (fun _ => False)) (F0 m9 64 ls []) := by
          intro n64
          induction n64 with
          | zero => intro r  x7 h1 h2; exact absurd h1 (by omega)
          | succ n64 ih64 =>
            intro r  x7 hn64 hk64 e64_7  ls hl
            refine lv_iload hx hb dX4_faultsAt_64 (lv_at hl 0 rfl) ?_
            refine lv_aload_n hx hb dX4_faultsAt_66 rfl (lv_at hl 8 rfl) ?_
            refine va_get (D := D) (ci := 3) (v := .int (nI nR)) (C := RX4) (T := TX4) (N := 11) hx hb hts win_X4 hown hK hP (0) (rfl) rfl 5 (by decide) w_0 (fun _ h9 => h9) rfl dX4_faultsAt_67 ?_
            refine lv_icmp_ge (tgt := 109) hx hb dX4_faultsAt_70 (by decide) (fun c_70 => ?_) (fun c_70 => ?_)
            · skip
              have hkF : r = nR := by have := (nI_leI (a := nR) (b := r) (by omega) (by omega)).mp c_70; omega
              rw [hkF] at e64_7
              refine lv_iload hx hb dX4_faultsAt_109 (lv_at hl 1 rfl) ?_
              exact W.iret (v := x7) hx hb hr (fun t ht hW => ⟨x7, rfl, (by rw [e64_7]; unfold fltA; congr 1; show _ = bI _ + _; first | (rw [← bI_t c_31]; first | (rw [if_pos hm0, ← bI_t c_55]; done) | (rw [if_pos hm0, ← bI_f c_55]; rfl) | (rw [if_neg hm0]; rfl)) | (rw [← bI_f c_31]; first | (rw [if_pos hm0, ← bI_t c_55]; done) | (rw [if_pos hm0, ← bI_f c_55]; rfl) | (rw [if_neg hm0]; rfl))), ht⟩) (fun q h => nomatch h) dX4_faultsAt_111
            · skip
              have hkF : r < nR := by have := mt (nI_leI (a := nR) (b := r) (by omega) (by omega)).mpr c_70; omega
              refine lv_aload_n hx hb dX4_faultsAt_73 rfl (lv_at hl 8 rfl) ?_
              refine va_get (D := D) (ci := 3) (v := .ref (a 3)) (C := RX4) (T := TX4) (N := 11) hx hb hts win_X4 hown hK hP (0) (rfl) rfl 3 (by decide) w_2 (fun _ h9 => h9) rfl dX4_faultsAt_74 ?_
              refine lv_iload hx hb dX4_faultsAt_77 (lv_at hl 0 rfl) ?_
              refine g_iald hx hb hK hP (3) 0 (n := 5) (f := stk) (rfl) rfl r rfl (by omega) (by decide) dX4_faultsAt_79 ?_
              refine lv_iload hx hb dX4_faultsAt_80 (lv_at hl 4 rfl) ?_
              refine lv_icmp_ne (tgt := 103) hx hb dX4_faultsAt_82 (by decide) (fun c_82 => ?_) (fun c_82 => ?_)
              · skip
                have hsc : ¬ sk r = c := fun q => c_82 (by rw [hsk r, q])
                refine lv_iinc (v := nI (r + 1)) (lv' := [(8, .int (nI (r + 1))), (7, .int x7), (6, .int (nI m)), (5, .int (nI p)), (4, .int (nI c)), (3, .int f), (2, .int (nI K)), (1, .ref (a 5)), (0, .ref (a 0))]) hx hb dX4_faultsAt_103 hl (k := 0) rfl (nI_1 r) (by decide) rfl (fun ls hl => ?_)
                refine lv_goto (tgt := 64) hx hb dX4_faultsAt_106 (by decide) ?_
                exact ih64 (r + 1)  x7 (by omega) (by omega) (by rw [e64_7]; show _ = _ + (sT (fun r => if sk r = c then bI (rollOff (nI p) (hC ck cf cd nF (nI ((sk r) * 40 + p * 4 + m)) f) (hC ck cf cd nF (nI ((sk r) * 40 + (p - 1) * 4 + m)) f) (hC ck cf cd nF (nI ((fk r) * 40 + p * 4 + m)) f) cd cv = true) else 0) r + (fun r => if sk r = c then bI (rollOff (nI p) (hC ck cf cd nF (nI ((sk r) * 40 + p * 4 + m)) f) (hC ck cf cd nF (nI ((sk r) * 40 + (p - 1) * 4 + m)) f) (hC ck cf cd nF (nI ((fk r) * 40 + p * 4 + m)) f) cd cv = true) else 0) r); rw [← Int32.add_assoc]; show _ = _ + (if sk r = c then bI _ else 0); first | (rw [if_neg hsc]; exact (Int32.add_zero _).symm) | (rw [if_pos hsc, ← bI_f c_97]; exact (Int32.add_zero _).symm) | (rw [if_pos hsc, ← bI_t c_97]))  _ (lv_sub hl [0, 1, 2, 3, 4, 5, 6, 7, 8] rfl)
              · skip
                have hsc : sk r = c := by rw [hsk r] at c_82; exact (nI_eq (by have := hsk12 r; omega) (by omega)).mp c_82
                refine lv_aload_n hx hb dX4_faultsAt_85 rfl (lv_at hl 8 rfl) ?_
                refine lv_aload_n hx hb dX4_faultsAt_86 rfl (lv_at hl 7 rfl) ?_
                refine lv_iload hx hb dX4_faultsAt_87 (lv_at hl 0 rfl) ?_
                refine lv_iload hx hb dX4_faultsAt_89 (lv_at hl 3 rfl) ?_
                refine lv_iload hx hb dX4_faultsAt_91 (lv_at hl 2 rfl) ?_
                refine lv_iload_n hx hb dX4_faultsAt_93 rfl (lv_at hl 5 rfl) ?_
                refine g_csi (va_runV (As := [.ref (a 5), .int (nI r), .int (nI p), .int (nI m), .int f]) (rest := []) ⟨hx, hb, hml, hown, hts⟩ (c4_rollFails_L l D cI cZ cO cL dt A a FA nC nR nL nF par wt stk flw hd rea sig ck cf cd cv nx R r (sk r) (fk r) p m f hF hC12 hck hcf hcd hcv hwt hCh (by omega) (hsk r) (hfk r) (hsk12 r) (hfk12 r) hp hm) (cwV 5 hts gX4_faultsAt_X4_rollFails rfl rfl rfl (by decide +kernel) ⟨Nat.le_of_ble_eq_true rfl, Nat.le_of_ble_eq_true rfl⟩) (gP.v hg hP 3 rfl (0) (rfl) hP) rfl rfl hl.1 rfl (lv_room (Nat.le_of_ble_eq_true rfl)) dX4_faultsAt_94 ⟨Nat.le_of_ble_eq_true rfl, Nat.le_of_ble_eq_true rfl⟩) (fun r_4 hr_4 => ?_)
                obtain rfl : r_4 = bI (rollOff (nI p) (hC ck cf cd nF (nI ((sk r) * 40 + p * 4 + m)) f) (hC ck cf cd nF (nI ((sk r) * 40 + (p - 1) * 4 + m)) f) (hC ck cf cd nF (nI ((fk r) * 40 + p * 4 + m)) f) cd cv = true) := hr_4
                refine lv_if_eq (tgt := 103) hx hb dX4_faultsAt_97 (by decide) (fun c_97 => ?_) (fun c_97 => ?_)
                · skip
                  have c_97 := bI_z c_97
                  refine lv_iinc (v := nI (r + 1)) (lv' := [(8, .int (nI (r + 1))), (7, .int x7), (6, .int (nI m)), (5, .int (nI p)), (4, .int (nI c)), (3, .int f), (2, .int (nI K)), (1, .ref (a 5)), (0, .ref (a 0))]) hx hb dX4_faultsAt_103 hl (k := 0) rfl (nI_1 r) (by decide) rfl (fun ls hl => ?_)
                  refine lv_goto (tgt := 64) hx hb dX4_faultsAt_106 (by decide) ?_
                  exact ih64 (r + 1)  x7 (by omega) (by omega) (by rw [e64_7]; show _ = _ + (sT (fun r => if sk r = c then bI (rollOff (nI p) (hC ck cf cd nF (nI ((sk r) * 40 + p * 4 + m)) f) (hC ck cf cd nF (nI ((sk r) * 40 + (p - 1) * 4 + m)) f) (hC ck cf cd nF (nI ((fk r) * 40 + p * 4 + m)) f) cd cv = true) else 0) r + (fun r => if sk r = c then bI (rollOff (nI p) (hC ck cf cd nF (nI ((sk r) * 40 + p * 4 + m)) f) (hC ck cf cd nF (nI ((sk r) * 40 + (p - 1) * 4 + m)) f) (hC ck cf cd nF (nI ((fk r) * 40 + p * 4 + m)) f) cd cv = true) else 0) r); rw [← Int32.add_assoc]; show _ = _ + (if sk r = c then bI _ else 0); first | (rw [if_neg hsc]; exact (Int32.add_zero _).symm) | (rw [if_pos hsc, ← bI_f c_97]; exact (Int32.add_zero _).symm) | (rw [if_pos hsc, ← bI_t c_97]))  _ (lv_sub hl [0, 1, 2, 3, 4, 5, 6, 7, 8] rfl)
                · skip
                  have c_97 := bI_n c_97
                  refine lv_iinc (v := x7 + 1) (lv' := [(7, .int (x7 + 1)), (8, .int (nI r)), (6, .int (nI m)), (5, .int (nI p)), (4, .int (nI c)), (3, .int f), (2, .int (nI K)), (1, .ref (a 5)), (0, .ref (a 0))]) hx hb dX4_faultsAt_100 hl (k := 1) rfl (rfl) (by decide) rfl (fun ls hl => ?_)
                  refine lv_iinc (v := nI (r + 1)) (lv' := [(8, .int (nI (r + 1))), (7, .int (x7 + 1)), (6, .int (nI m)), (5, .int (nI p)), (4, .int (nI c)), (3, .int f), (2, .int (nI K)), (1, .ref (a 5)), (0, .ref (a 0))]) hx hb dX4_faultsAt_103 hl (k := 1) rfl (nI_1 r) (by decide) rfl (fun ls hl => ?_)
                  refine lv_goto (tgt := 64) hx hb dX4_faultsAt_106 (by decide) ?_
                  exact ih64 (r + 1)  (x7 + 1) (by omega) (by omega) (by rw [e64_7]; show _ = _ + (sT (fun r => if sk r = c then bI (rollOff (nI p) (hC ck cf cd nF (nI ((sk r) * 40 + p * 4 + m)) f) (hC ck cf cd nF (nI ((sk r) * 40 + (p - 1) * 4 + m)) f) (hC ck cf cd nF (nI ((fk r) * 40 + p * 4 + m)) f) cd cv = true) else 0) r + (fun r => if sk r = c then bI (rollOff (nI p) (hC ck cf cd nF (nI ((sk r) * 40 + p * 4 + m)) f) (hC ck cf cd nF (nI ((sk r) * 40 + (p - 1) * 4 + m)) f) (hC ck cf cd nF (nI ((fk r) * 40 + p * 4 + m)) f) cd cv = true) else 0) r); rw [← Int32.add_assoc]; show _ = _ + (if sk r = c then bI _ else 0); first | (rw [if_neg hsc]; exact (Int32.add_zero _).symm) | (rw [if_pos hsc, ← bI_f c_97]; exact (Int32.add_zero _).symm) | (rw [if_pos hsc, ← bI_t c_97]))  _ (lv_sub hl [0, 1, 2, 3, 4, 5, 6, 7, 8] rfl)
        exact lp64 (nR + 1) 0  0 (by omega) (by omega) (Int32.add_zero _).symm  _ (lv_sub hl [0, 1, 2, 3, 4, 8, 7, 6, 5] rfl)
      · skip
        have c_55 := bI_n c_55
        refine lv_iinc (v := 0 + 1) (lv' := [(7, .int (0 + 1)), (6, .int (nI m)), (5, .int (nI p)), (4, .int (nI c)), (0, .ref (a 0)), (1, .ref (a 5)), (2, .int (nI K)), (3, .int f)]) hx hb dX4_faultsAt_58 hl (k := 0) rfl (rfl) (by decide) rfl (fun ls hl => ?_)
        refine lv_iconst (v := 0) hx hb dX4_faultsAt_61 (by decide) ?_
        refine lv_istore (lv' := [(8, .int 0), (7, .int (0 + 1)), (6, .int (nI m)), (5, .int (nI p)), (4, .int (nI c)), (0, .ref (a 0)), (1, .ref (a 5)), (2, .int (nI K)), (3, .int f)]) hx hb dX4_faultsAt_62 hl (by decide) rfl (fun ls hl => ?_)
        have lp64 : ∀ (n64 r : Nat)  (x7 : Int32), nR < r + n64 → r ≤ nR → x7 = (0 + 1) + sT (fun r => if sk r = c then bI (rollOff (nI p) (hC ck cf cd nF (nI ((sk r) * 40 + p * 4 + m)) f) (hC ck cf cd nF (nI ((sk r) * 40 + (p - 1) * 4 + m)) f) (hC ck cf cd nF (nI ((fk r) * 40 + p * 4 + m)) f) cd cv = true) else 0) r → ∀ ls : Array Slot, lv_has ls 9 [(8, .int (nI r)), (7, .int x7), (6, .int (nI m)), (5, .int (nI p)), (4, .int (nI c)), (3, .int f), (2, .int (nI K)), (1, .ref (a 5)), (0, .ref (a 0))] → W p9 l e9 (headSpec wsX4_faultsAt ({ frames := 4, cells := 0, slots := 0, locals := 102 } : Room)).room s m9 ([.ref (a 0), .ref (a 5), .int (nI K), .int f] : List Value).toArray below meth c9 s.heap [] 0 0 (MQ below (vp_Si (fun z => z = fltA nC nR par wt sk fk (fun K => hC ck cf cd nF (nI K) f) cd cv c p m)) ([.ref (a 0), .ref (a 5), .int (nI K), .int f] : List Value).toArray s 0 0 (fun _ => False)) (F0 m9 64 ls []) := by
          intro n64
          induction n64 with
          | zero => intro r  x7 h1 h2; exact absurd h1 (by omega)
          | succ n64 ih64 =>
            intro r  x7 hn64 hk64 e64_7  ls hl
            refine lv_iload hx hb dX4_faultsAt_64 (lv_at hl 0 rfl) ?_
            refine lv_aload_n hx hb dX4_faultsAt_66 rfl (lv_at hl 8 rfl) ?_
            refine va_get (D := D) (ci := 3) (v := .int (nI nR)) (C := RX4) (T := TX4) (N := 11) hx hb hts win_X4 hown hK hP (0) (rfl) rfl 5 (by decide) w_0 (fun _ h9 => h9) rfl dX4_faultsAt_67 ?_
            refine lv_icmp_ge (tgt := 109) hx hb dX4_faultsAt_70 (by decide) (fun c_70 => ?_) (fun c_70 => ?_)
            · skip
              have hkF : r = nR := by have := (nI_leI (a := nR) (b := r) (by omega) (by omega)).mp c_70; omega
              rw [hkF] at e64_7
              refine lv_iload hx hb dX4_faultsAt_109 (lv_at hl 1 rfl) ?_
              exact W.iret (v := x7) hx hb hr (fun t ht hW => ⟨x7, rfl, (by rw [e64_7]; unfold fltA; congr 1; show _ = bI _ + _; first | (rw [← bI_t c_31]; first | (rw [if_pos hm0, ← bI_t c_55]; done) | (rw [if_pos hm0, ← bI_f c_55]; rfl) | (rw [if_neg hm0]; rfl)) | (rw [← bI_f c_31]; first | (rw [if_pos hm0, ← bI_t c_55]; done) | (rw [if_pos hm0, ← bI_f c_55]; rfl) | (rw [if_neg hm0]; rfl))), ht⟩) (fun q h => nomatch h) dX4_faultsAt_111
            · skip
              have hkF : r < nR := by have := mt (nI_leI (a := nR) (b := r) (by omega) (by omega)).mpr c_70; omega
              refine lv_aload_n hx hb dX4_faultsAt_73 rfl (lv_at hl 8 rfl) ?_
              refine va_get (D := D) (ci := 3) (v := .ref (a 3)) (C := RX4) (T := TX4) (N := 11) hx hb hts win_X4 hown hK hP (0) (rfl) rfl 3 (by decide) w_2 (fun _ h9 => h9) rfl dX4_faultsAt_74 ?_
              refine lv_iload hx hb dX4_faultsAt_77 (lv_at hl 0 rfl) ?_
              refine g_iald hx hb hK hP (3) 0 (n := 5) (f := stk) (rfl) rfl r rfl (by omega) (by decide) dX4_faultsAt_79 ?_
              refine lv_iload hx hb dX4_faultsAt_80 (lv_at hl 4 rfl) ?_
              refine lv_icmp_ne (tgt := 103) hx hb dX4_faultsAt_82 (by decide) (fun c_82 => ?_) (fun c_82 => ?_)
              · skip
                have hsc : ¬ sk r = c := fun q => c_82 (by rw [hsk r, q])
                refine lv_iinc (v := nI (r + 1)) (lv' := [(8, .int (nI (r + 1))), (7, .int x7), (6, .int (nI m)), (5, .int (nI p)), (4, .int (nI c)), (3, .int f), (2, .int (nI K)), (1, .ref (a 5)), (0, .ref (a 0))]) hx hb dX4_faultsAt_103 hl (k := 0) rfl (nI_1 r) (by decide) rfl (fun ls hl => ?_)
                refine lv_goto (tgt := 64) hx hb dX4_faultsAt_106 (by decide) ?_
                exact ih64 (r + 1)  x7 (by omega) (by omega) (by rw [e64_7]; show _ = _ + (sT (fun r => if sk r = c then bI (rollOff (nI p) (hC ck cf cd nF (nI ((sk r) * 40 + p * 4 + m)) f) (hC ck cf cd nF (nI ((sk r) * 40 + (p - 1) * 4 + m)) f) (hC ck cf cd nF (nI ((fk r) * 40 + p * 4 + m)) f) cd cv = true) else 0) r + (fun r => if sk r = c then bI (rollOff (nI p) (hC ck cf cd nF (nI ((sk r) * 40 + p * 4 + m)) f) (hC ck cf cd nF (nI ((sk r) * 40 + (p - 1) * 4 + m)) f) (hC ck cf cd nF (nI ((fk r) * 40 + p * 4 + m)) f) cd cv = true) else 0) r); rw [← Int32.add_assoc]; show _ = _ + (if sk r = c then bI _ else 0); first | (rw [if_neg hsc]; exact (Int32.add_zero _).symm) | (rw [if_pos hsc, ← bI_f c_97]; exact (Int32.add_zero _).symm) | (rw [if_pos hsc, ← bI_t c_97]))  _ (lv_sub hl [0, 1, 2, 3, 4, 5, 6, 7, 8] rfl)
              · skip
                have hsc : sk r = c := by rw [hsk r] at c_82; exact (nI_eq (by have := hsk12 r; omega) (by omega)).mp c_82
                refine lv_aload_n hx hb dX4_faultsAt_85 rfl (lv_at hl 8 rfl) ?_
                refine lv_aload_n hx hb dX4_faultsAt_86 rfl (lv_at hl 7 rfl) ?_
                refine lv_iload hx hb dX4_faultsAt_87 (lv_at hl 0 rfl) ?_
                refine lv_iload hx hb dX4_faultsAt_89 (lv_at hl 3 rfl) ?_
                refine lv_iload hx hb dX4_faultsAt_91 (lv_at hl 2 rfl) ?_
                refine lv_iload_n hx hb dX4_faultsAt_93 rfl (lv_at hl 5 rfl) ?_
                refine g_csi (va_runV (As := [.ref (a 5), .int (nI r), .int (nI p), .int (nI m), .int f]) (rest := []) ⟨hx, hb, hml, hown, hts⟩ (c4_rollFails_L l D cI cZ cO cL dt A a FA nC nR nL nF par wt stk flw hd rea sig ck cf cd cv nx R r (sk r) (fk r) p m f hF hC12 hck hcf hcd hcv hwt hCh (by omega) (hsk r) (hfk r) (hsk12 r) (hfk12 r) hp hm) (cwV 5 hts gX4_faultsAt_X4_rollFails rfl rfl rfl (by decide +kernel) ⟨Nat.le_of_ble_eq_true rfl, Nat.le_of_ble_eq_true rfl⟩) (gP.v hg hP 3 rfl (0) (rfl) hP) rfl rfl hl.1 rfl (lv_room (Nat.le_of_ble_eq_true rfl)) dX4_faultsAt_94 ⟨Nat.le_of_ble_eq_true rfl, Nat.le_of_ble_eq_true rfl⟩) (fun r_5 hr_5 => ?_)
                obtain rfl : r_5 = bI (rollOff (nI p) (hC ck cf cd nF (nI ((sk r) * 40 + p * 4 + m)) f) (hC ck cf cd nF (nI ((sk r) * 40 + (p - 1) * 4 + m)) f) (hC ck cf cd nF (nI ((fk r) * 40 + p * 4 + m)) f) cd cv = true) := hr_5
                refine lv_if_eq (tgt := 103) hx hb dX4_faultsAt_97 (by decide) (fun c_97 => ?_) (fun c_97 => ?_)
                · skip
                  have c_97 := bI_z c_97
                  refine lv_iinc (v := nI (r + 1)) (lv' := [(8, .int (nI (r + 1))), (7, .int x7), (6, .int (nI m)), (5, .int (nI p)), (4, .int (nI c)), (3, .int f), (2, .int (nI K)), (1, .ref (a 5)), (0, .ref (a 0))]) hx hb dX4_faultsAt_103 hl (k := 0) rfl (nI_1 r) (by decide) rfl (fun ls hl => ?_)
                  refine lv_goto (tgt := 64) hx hb dX4_faultsAt_106 (by decide) ?_
                  exact ih64 (r + 1)  x7 (by omega) (by omega) (by rw [e64_7]; show _ = _ + (sT (fun r => if sk r = c then bI (rollOff (nI p) (hC ck cf cd nF (nI ((sk r) * 40 + p * 4 + m)) f) (hC ck cf cd nF (nI ((sk r) * 40 + (p - 1) * 4 + m)) f) (hC ck cf cd nF (nI ((fk r) * 40 + p * 4 + m)) f) cd cv = true) else 0) r + (fun r => if sk r = c then bI (rollOff (nI p) (hC ck cf cd nF (nI ((sk r) * 40 + p * 4 + m)) f) (hC ck cf cd nF (nI ((sk r) * 40 + (p - 1) * 4 + m)) f) (hC ck cf cd nF (nI ((fk r) * 40 + p * 4 + m)) f) cd cv = true) else 0) r); rw [← Int32.add_assoc]; show _ = _ + (if sk r = c then bI _ else 0); first | (rw [if_neg hsc]; exact (Int32.add_zero _).symm) | (rw [if_pos hsc, ← bI_f c_97]; exact (Int32.add_zero _).symm) | (rw [if_pos hsc, ← bI_t c_97]))  _ (lv_sub hl [0, 1, 2, 3, 4, 5, 6, 7, 8] rfl)
                · skip
                  have c_97 := bI_n c_97
                  refine lv_iinc (v := x7 + 1) (lv' := [(7, .int (x7 + 1)), (8, .int (nI r)), (6, .int (nI m)), (5, .int (nI p)), (4, .int (nI c)), (3, .int f), (2, .int (nI K)), (1, .ref (a 5)), (0, .ref (a 0))]) hx hb dX4_faultsAt_100 hl (k := 1) rfl (rfl) (by decide) rfl (fun ls hl => ?_)
                  refine lv_iinc (v := nI (r + 1)) (lv' := [(8, .int (nI (r + 1))), (7, .int (x7 + 1)), (6, .int (nI m)), (5, .int (nI p)), (4, .int (nI c)), (3, .int f), (2, .int (nI K)), (1, .ref (a 5)), (0, .ref (a 0))]) hx hb dX4_faultsAt_103 hl (k := 1) rfl (nI_1 r) (by decide) rfl (fun ls hl => ?_)
                  refine lv_goto (tgt := 64) hx hb dX4_faultsAt_106 (by decide) ?_
                  exact ih64 (r + 1)  (x7 + 1) (by omega) (by omega) (by rw [e64_7]; show _ = _ + (sT (fun r => if sk r = c then bI (rollOff (nI p) (hC ck cf cd nF (nI ((sk r) * 40 + p * 4 + m)) f) (hC ck cf cd nF (nI ((sk r) * 40 + (p - 1) * 4 + m)) f) (hC ck cf cd nF (nI ((fk r) * 40 + p * 4 + m)) f) cd cv = true) else 0) r + (fun r => if sk r = c then bI (rollOff (nI p) (hC ck cf cd nF (nI ((sk r) * 40 + p * 4 + m)) f) (hC ck cf cd nF (nI ((sk r) * 40 + (p - 1) * 4 + m)) f) (hC ck cf cd nF (nI ((fk r) * 40 + p * 4 + m)) f) cd cv = true) else 0) r); rw [← Int32.add_assoc]; show _ = _ + (if sk r = c then bI _ else 0); first | (rw [if_neg hsc]; exact (Int32.add_zero _).symm) | (rw [if_pos hsc, ← bI_f c_97]; exact (Int32.add_zero _).symm) | (rw [if_pos hsc, ← bI_t c_97]))  _ (lv_sub hl [0, 1, 2, 3, 4, 5, 6, 7, 8] rfl)
        exact lp64 (nR + 1) 0  (0 + 1) (by omega) (by omega) (Int32.add_zero _).symm  _ (lv_sub hl [0, 1, 2, 3, 4, 8, 7, 6, 5] rfl)
  · skip
    have c_31 := bI_n c_31
    refine lv_iconst (v := 1) hx hb dX4_faultsAt_34 (by decide) ?_
    refine lv_goto (tgt := 39) hx hb dX4_faultsAt_35 (by decide) ?_
    refine lv_istore (lv' := [(7, .int 1), (6, .int (nI m)), (5, .int (nI p)), (4, .int (nI c)), (0, .ref (a 0)), (1, .ref (a 5)), (2, .int (nI K)), (3, .int f)]) hx hb dX4_faultsAt_39 hl (by decide) rfl (fun ls hl => ?_)
    refine lv_iload hx hb dX4_faultsAt_41 (lv_at hl 1 rfl) ?_
    refine lv_if_ne (tgt := 61) hx hb dX4_faultsAt_43 (by decide) (fun c_43 => ?_) (fun c_43 => ?_)
    · skip
      have hm0 : ¬ m = 0 := fun q => c_43 (by rw [q]; rfl)
      refine lv_iconst (v := 0) hx hb dX4_faultsAt_61 (by decide) ?_
      refine lv_istore (lv' := [(8, .int 0), (7, .int 1), (6, .int (nI m)), (5, .int (nI p)), (4, .int (nI c)), (0, .ref (a 0)), (1, .ref (a 5)), (2, .int (nI K)), (3, .int f)]) hx hb dX4_faultsAt_62 hl (by decide) rfl (fun ls hl => ?_)
      have lp64 : ∀ (n64 r : Nat)  (x7 : Int32), nR < r + n64 → r ≤ nR → x7 = 1 + sT (fun r => if sk r = c then bI (rollOff (nI p) (hC ck cf cd nF (nI ((sk r) * 40 + p * 4 + m)) f) (hC ck cf cd nF (nI ((sk r) * 40 + (p - 1) * 4 + m)) f) (hC ck cf cd nF (nI ((fk r) * 40 + p * 4 + m)) f) cd cv = true) else 0) r → ∀ ls : Array Slot, lv_has ls 9 [(8, .int (nI r)), (7, .int x7), (6, .int (nI m)), (5, .int (nI p)), (4, .int (nI c)), (3, .int f), (2, .int (nI K)), (1, .ref (a 5)), (0, .ref (a 0))] → W p9 l e9 (headSpec wsX4_faultsAt ({ frames := 4, cells := 0, slots := 0, locals := 102 } : Room)).room s m9 ([.ref (a 0), .ref (a 5), .int (nI K), .int f] : List Value).toArray below meth c9 s.heap [] 0 0 (MQ below (vp_Si (fun z => z = fltA nC nR par wt sk fk (fun K => hC ck cf cd nF (nI K) f) cd cv c p m)) ([.ref (a 0), .ref (a 5), .int (nI K), .int f] : List Value).toArray s 0 0 (fun _ => False)) (F0 m9 64 ls []) := by
        intro n64
        induction n64 with
        | zero => intro r  x7 h1 h2; exact absurd h1 (by omega)
        | succ n64 ih64 =>
          intro r  x7 hn64 hk64 e64_7  ls hl
          refine lv_iload hx hb dX4_faultsAt_64 (lv_at hl 0 rfl) ?_
          refine lv_aload_n hx hb dX4_faultsAt_66 rfl (lv_at hl 8 rfl) ?_
          refine va_get (D := D) (ci := 3) (v := .int (nI nR)) (C := RX4) (T := TX4) (N := 11) hx hb hts win_X4 hown hK hP (0) (rfl) rfl 5 (by decide) w_0 (fun _ h9 => h9) rfl dX4_faultsAt_67 ?_
          refine lv_icmp_ge (tgt := 109) hx hb dX4_faultsAt_70 (by decide) (fun c_70 => ?_) (fun c_70 => ?_)
          · skip
            have hkF : r = nR := by have := (nI_leI (a := nR) (b := r) (by omega) (by omega)).mp c_70; omega
            rw [hkF] at e64_7
            refine lv_iload hx hb dX4_faultsAt_109 (lv_at hl 1 rfl) ?_
            exact W.iret (v := x7) hx hb hr (fun t ht hW => ⟨x7, rfl, (by rw [e64_7]; unfold fltA; congr 1; show _ = bI _ + _; first | (rw [← bI_t c_31]; first | (rw [if_pos hm0, ← bI_t c_55]; done) | (rw [if_pos hm0, ← bI_f c_55]; rfl) | (rw [if_neg hm0]; rfl)) | (rw [← bI_f c_31]; first | (rw [if_pos hm0, ← bI_t c_55]; done) | (rw [if_pos hm0, ← bI_f c_55]; rfl) | (rw [if_neg hm0]; rfl))), ht⟩) (fun q h => nomatch h) dX4_faultsAt_111
          · skip
            have hkF : r < nR := by have := mt (nI_leI (a := nR) (b := r) (by omega) (by omega)).mpr c_70; omega
            refine lv_aload_n hx hb dX4_faultsAt_73 rfl (lv_at hl 8 rfl) ?_
            refine va_get (D := D) (ci := 3) (v := .ref (a 3)) (C := RX4) (T := TX4) (N := 11) hx hb hts win_X4 hown hK hP (0) (rfl) rfl 3 (by decide) w_2 (fun _ h9 => h9) rfl dX4_faultsAt_74 ?_
            refine lv_iload hx hb dX4_faultsAt_77 (lv_at hl 0 rfl) ?_
            refine g_iald hx hb hK hP (3) 0 (n := 5) (f := stk) (rfl) rfl r rfl (by omega) (by decide) dX4_faultsAt_79 ?_
            refine lv_iload hx hb dX4_faultsAt_80 (lv_at hl 4 rfl) ?_
            refine lv_icmp_ne (tgt := 103) hx hb dX4_faultsAt_82 (by decide) (fun c_82 => ?_) (fun c_82 => ?_)
            · skip
              have hsc : ¬ sk r = c := fun q => c_82 (by rw [hsk r, q])
              refine lv_iinc (v := nI (r + 1)) (lv' := [(8, .int (nI (r + 1))), (7, .int x7), (6, .int (nI m)), (5, .int (nI p)), (4, .int (nI c)), (3, .int f), (2, .int (nI K)), (1, .ref (a 5)), (0, .ref (a 0))]) hx hb dX4_faultsAt_103 hl (k := 0) rfl (nI_1 r) (by decide) rfl (fun ls hl => ?_)
              refine lv_goto (tgt := 64) hx hb dX4_faultsAt_106 (by decide) ?_
              exact ih64 (r + 1)  x7 (by omega) (by omega) (by rw [e64_7]; show _ = _ + (sT (fun r => if sk r = c then bI (rollOff (nI p) (hC ck cf cd nF (nI ((sk r) * 40 + p * 4 + m)) f) (hC ck cf cd nF (nI ((sk r) * 40 + (p - 1) * 4 + m)) f) (hC ck cf cd nF (nI ((fk r) * 40 + p * 4 + m)) f) cd cv = true) else 0) r + (fun r => if sk r = c then bI (rollOff (nI p) (hC ck cf cd nF (nI ((sk r) * 40 + p * 4 + m)) f) (hC ck cf cd nF (nI ((sk r) * 40 + (p - 1) * 4 + m)) f) (hC ck cf cd nF (nI ((fk r) * 40 + p * 4 + m)) f) cd cv = true) else 0) r); rw [← Int32.add_assoc]; show _ = _ + (if sk r = c then bI _ else 0); first | (rw [if_neg hsc]; exact (Int32.add_zero _).symm) | (rw [if_pos hsc, ← bI_f c_97]; exact (Int32.add_zero _).symm) | (rw [if_pos hsc, ← bI_t c_97]))  _ (lv_sub hl [0, 1, 2, 3, 4, 5, 6, 7, 8] rfl)
            · skip
              have hsc : sk r = c := by rw [hsk r] at c_82; exact (nI_eq (by have := hsk12 r; omega) (by omega)).mp c_82
              refine lv_aload_n hx hb dX4_faultsAt_85 rfl (lv_at hl 8 rfl) ?_
              refine lv_aload_n hx hb dX4_faultsAt_86 rfl (lv_at hl 7 rfl) ?_
              refine lv_iload hx hb dX4_faultsAt_87 (lv_at hl 0 rfl) ?_
              refine lv_iload hx hb dX4_faultsAt_89 (lv_at hl 3 rfl) ?_
              refine lv_iload hx hb dX4_faultsAt_91 (lv_at hl 2 rfl) ?_
              refine lv_iload_n hx hb dX4_faultsAt_93 rfl (lv_at hl 5 rfl) ?_
              refine g_csi (va_runV (As := [.ref (a 5), .int (nI r), .int (nI p), .int (nI m), .int f]) (rest := []) ⟨hx, hb, hml, hown, hts⟩ (c4_rollFails_L l D cI cZ cO cL dt A a FA nC nR nL nF par wt stk flw hd rea sig ck cf cd cv nx R r (sk r) (fk r) p m f hF hC12 hck hcf hcd hcv hwt hCh (by omega) (hsk r) (hfk r) (hsk12 r) (hfk12 r) hp hm) (cwV 5 hts gX4_faultsAt_X4_rollFails rfl rfl rfl (by decide +kernel) ⟨Nat.le_of_ble_eq_true rfl, Nat.le_of_ble_eq_true rfl⟩) (gP.v hg hP 3 rfl (0) (rfl) hP) rfl rfl hl.1 rfl (lv_room (Nat.le_of_ble_eq_true rfl)) dX4_faultsAt_94 ⟨Nat.le_of_ble_eq_true rfl, Nat.le_of_ble_eq_true rfl⟩) (fun r_6 hr_6 => ?_)
              obtain rfl : r_6 = bI (rollOff (nI p) (hC ck cf cd nF (nI ((sk r) * 40 + p * 4 + m)) f) (hC ck cf cd nF (nI ((sk r) * 40 + (p - 1) * 4 + m)) f) (hC ck cf cd nF (nI ((fk r) * 40 + p * 4 + m)) f) cd cv = true) := hr_6
              refine lv_if_eq (tgt := 103) hx hb dX4_faultsAt_97 (by decide) (fun c_97 => ?_) (fun c_97 => ?_)
              · skip
                have c_97 := bI_z c_97
                refine lv_iinc (v := nI (r + 1)) (lv' := [(8, .int (nI (r + 1))), (7, .int x7), (6, .int (nI m)), (5, .int (nI p)), (4, .int (nI c)), (3, .int f), (2, .int (nI K)), (1, .ref (a 5)), (0, .ref (a 0))]) hx hb dX4_faultsAt_103 hl (k := 0) rfl (nI_1 r) (by decide) rfl (fun ls hl => ?_)
                refine lv_goto (tgt := 64) hx hb dX4_faultsAt_106 (by decide) ?_
                exact ih64 (r + 1)  x7 (by omega) (by omega) (by rw [e64_7]; show _ = _ + (sT (fun r => if sk r = c then bI (rollOff (nI p) (hC ck cf cd nF (nI ((sk r) * 40 + p * 4 + m)) f) (hC ck cf cd nF (nI ((sk r) * 40 + (p - 1) * 4 + m)) f) (hC ck cf cd nF (nI ((fk r) * 40 + p * 4 + m)) f) cd cv = true) else 0) r + (fun r => if sk r = c then bI (rollOff (nI p) (hC ck cf cd nF (nI ((sk r) * 40 + p * 4 + m)) f) (hC ck cf cd nF (nI ((sk r) * 40 + (p - 1) * 4 + m)) f) (hC ck cf cd nF (nI ((fk r) * 40 + p * 4 + m)) f) cd cv = true) else 0) r); rw [← Int32.add_assoc]; show _ = _ + (if sk r = c then bI _ else 0); first | (rw [if_neg hsc]; exact (Int32.add_zero _).symm) | (rw [if_pos hsc, ← bI_f c_97]; exact (Int32.add_zero _).symm) | (rw [if_pos hsc, ← bI_t c_97]))  _ (lv_sub hl [0, 1, 2, 3, 4, 5, 6, 7, 8] rfl)
              · skip
                have c_97 := bI_n c_97
                refine lv_iinc (v := x7 + 1) (lv' := [(7, .int (x7 + 1)), (8, .int (nI r)), (6, .int (nI m)), (5, .int (nI p)), (4, .int (nI c)), (3, .int f), (2, .int (nI K)), (1, .ref (a 5)), (0, .ref (a 0))]) hx hb dX4_faultsAt_100 hl (k := 1) rfl (rfl) (by decide) rfl (fun ls hl => ?_)
                refine lv_iinc (v := nI (r + 1)) (lv' := [(8, .int (nI (r + 1))), (7, .int (x7 + 1)), (6, .int (nI m)), (5, .int (nI p)), (4, .int (nI c)), (3, .int f), (2, .int (nI K)), (1, .ref (a 5)), (0, .ref (a 0))]) hx hb dX4_faultsAt_103 hl (k := 1) rfl (nI_1 r) (by decide) rfl (fun ls hl => ?_)
                refine lv_goto (tgt := 64) hx hb dX4_faultsAt_106 (by decide) ?_
                exact ih64 (r + 1)  (x7 + 1) (by omega) (by omega) (by rw [e64_7]; show _ = _ + (sT (fun r => if sk r = c then bI (rollOff (nI p) (hC ck cf cd nF (nI ((sk r) * 40 + p * 4 + m)) f) (hC ck cf cd nF (nI ((sk r) * 40 + (p - 1) * 4 + m)) f) (hC ck cf cd nF (nI ((fk r) * 40 + p * 4 + m)) f) cd cv = true) else 0) r + (fun r => if sk r = c then bI (rollOff (nI p) (hC ck cf cd nF (nI ((sk r) * 40 + p * 4 + m)) f) (hC ck cf cd nF (nI ((sk r) * 40 + (p - 1) * 4 + m)) f) (hC ck cf cd nF (nI ((fk r) * 40 + p * 4 + m)) f) cd cv = true) else 0) r); rw [← Int32.add_assoc]; show _ = _ + (if sk r = c then bI _ else 0); first | (rw [if_neg hsc]; exact (Int32.add_zero _).symm) | (rw [if_pos hsc, ← bI_f c_97]; exact (Int32.add_zero _).symm) | (rw [if_pos hsc, ← bI_t c_97]))  _ (lv_sub hl [0, 1, 2, 3, 4, 5, 6, 7, 8] rfl)
      exact lp64 (nR + 1) 0  1 (by omega) (by omega) (Int32.add_zero _).symm  _ (lv_sub hl [0, 1, 2, 3, 4, 8, 7, 6, 5] rfl)
    · skip
      have hm0 : m = 0 := (nI_eq (by omega) (by decide)).mp c_43
      refine lv_aload_n hx hb dX4_faultsAt_46 rfl (lv_at hl 5 rfl) ?_
      refine lv_iload hx hb dX4_faultsAt_47 (lv_at hl 3 rfl) ?_
      refine lv_iload hx hb dX4_faultsAt_49 (lv_at hl 2 rfl) ?_
      refine lv_iload_n hx hb dX4_faultsAt_51 rfl (lv_at hl 7 rfl) ?_
      refine g_csi (va_runS (As := [.ref (a 5), .int (nI c), .int (nI p), .int f]) (rest := []) ⟨hx, hb, hml, hown, hts⟩ (c4_membersFail_L l D cI cZ cO cL dt A a FA nC nR nL nF par wt stk flw hd rea sig ck cf cd cv nx R c p f hF hC12 hck hcf hcd hcv hwt hCh hc hp) (va_cwS 4 hts gX4_faultsAt_X4_membersFail rfl rfl rfl (by decide +kernel) ⟨Nat.le_of_ble_eq_true rfl, Nat.le_of_ble_eq_true rfl⟩) (gP.s hg hP) rfl rfl hl.1 rfl (lv_room (Nat.le_of_ble_eq_true rfl)) dX4_faultsAt_52 ⟨Nat.le_of_ble_eq_true rfl, Nat.le_of_ble_eq_true rfl⟩) (fun r_7 hr_7 => ?_)
      obtain rfl : r_7 = bI (memOff (fun q => hC ck cf cd nF (nI (c * 40 + p * 4 + q)) f) cd cv = true) := hr_7
      refine lv_if_eq (tgt := 61) hx hb dX4_faultsAt_55 (by decide) (fun c_55 => ?_) (fun c_55 => ?_)
      · skip
        have c_55 := bI_z c_55
        refine lv_iconst (v := 0) hx hb dX4_faultsAt_61 (by decide) ?_
        refine lv_istore (lv' := [(8, .int 0), (7, .int 1), (6, .int (nI m)), (5, .int (nI p)), (4, .int (nI c)), (0, .ref (a 0)), (1, .ref (a 5)), (2, .int (nI K)), (3, .int f)]) hx hb dX4_faultsAt_62 hl (by decide) rfl (fun ls hl => ?_)
        have lp64 : ∀ (n64 r : Nat)  (x7 : Int32), nR < r + n64 → r ≤ nR → x7 = 1 + sT (fun r => if sk r = c then bI (rollOff (nI p) (hC ck cf cd nF (nI ((sk r) * 40 + p * 4 + m)) f) (hC ck cf cd nF (nI ((sk r) * 40 + (p - 1) * 4 + m)) f) (hC ck cf cd nF (nI ((fk r) * 40 + p * 4 + m)) f) cd cv = true) else 0) r → ∀ ls : Array Slot, lv_has ls 9 [(8, .int (nI r)), (7, .int x7), (6, .int (nI m)), (5, .int (nI p)), (4, .int (nI c)), (3, .int f), (2, .int (nI K)), (1, .ref (a 5)), (0, .ref (a 0))] → W p9 l e9 (headSpec wsX4_faultsAt ({ frames := 4, cells := 0, slots := 0, locals := 102 } : Room)).room s m9 ([.ref (a 0), .ref (a 5), .int (nI K), .int f] : List Value).toArray below meth c9 s.heap [] 0 0 (MQ below (vp_Si (fun z => z = fltA nC nR par wt sk fk (fun K => hC ck cf cd nF (nI K) f) cd cv c p m)) ([.ref (a 0), .ref (a 5), .int (nI K), .int f] : List Value).toArray s 0 0 (fun _ => False)) (F0 m9 64 ls []) := by
          intro n64
          induction n64 with
          | zero => intro r  x7 h1 h2; exact absurd h1 (by omega)
          | succ n64 ih64 =>
            intro r  x7 hn64 hk64 e64_7  ls hl
            refine lv_iload hx hb dX4_faultsAt_64 (lv_at hl 0 rfl) ?_
            refine lv_aload_n hx hb dX4_faultsAt_66 rfl (lv_at hl 8 rfl) ?_
            refine va_get (D := D) (ci := 3) (v := .int (nI nR)) (C := RX4) (T := TX4) (N := 11) hx hb hts win_X4 hown hK hP (0) (rfl) rfl 5 (by decide) w_0 (fun _ h9 => h9) rfl dX4_faultsAt_67 ?_
            refine lv_icmp_ge (tgt := 109) hx hb dX4_faultsAt_70 (by decide) (fun c_70 => ?_) (fun c_70 => ?_)
            · skip
              have hkF : r = nR := by have := (nI_leI (a := nR) (b := r) (by omega) (by omega)).mp c_70; omega
              rw [hkF] at e64_7
              refine lv_iload hx hb dX4_faultsAt_109 (lv_at hl 1 rfl) ?_
              exact W.iret (v := x7) hx hb hr (fun t ht hW => ⟨x7, rfl, (by rw [e64_7]; unfold fltA; congr 1; show _ = bI _ + _; first | (rw [← bI_t c_31]; first | (rw [if_pos hm0, ← bI_t c_55]; done) | (rw [if_pos hm0, ← bI_f c_55]; rfl) | (rw [if_neg hm0]; rfl)) | (rw [← bI_f c_31]; first | (rw [if_pos hm0, ← bI_t c_55]; done) | (rw [if_pos hm0, ← bI_f c_55]; rfl) | (rw [if_neg hm0]; rfl))), ht⟩) (fun q h => nomatch h) dX4_faultsAt_111
            · skip
              have hkF : r < nR := by have := mt (nI_leI (a := nR) (b := r) (by omega) (by omega)).mpr c_70; omega
              refine lv_aload_n hx hb dX4_faultsAt_73 rfl (lv_at hl 8 rfl) ?_
              refine va_get (D := D) (ci := 3) (v := .ref (a 3)) (C := RX4) (T := TX4) (N := 11) hx hb hts win_X4 hown hK hP (0) (rfl) rfl 3 (by decide) w_2 (fun _ h9 => h9) rfl dX4_faultsAt_74 ?_
              refine lv_iload hx hb dX4_faultsAt_77 (lv_at hl 0 rfl) ?_
              refine g_iald hx hb hK hP (3) 0 (n := 5) (f := stk) (rfl) rfl r rfl (by omega) (by decide) dX4_faultsAt_79 ?_
              refine lv_iload hx hb dX4_faultsAt_80 (lv_at hl 4 rfl) ?_
              refine lv_icmp_ne (tgt := 103) hx hb dX4_faultsAt_82 (by decide) (fun c_82 => ?_) (fun c_82 => ?_)
              · skip
                have hsc : ¬ sk r = c := fun q => c_82 (by rw [hsk r, q])
                refine lv_iinc (v := nI (r + 1)) (lv' := [(8, .int (nI (r + 1))), (7, .int x7), (6, .int (nI m)), (5, .int (nI p)), (4, .int (nI c)), (3, .int f), (2, .int (nI K)), (1, .ref (a 5)), (0, .ref (a 0))]) hx hb dX4_faultsAt_103 hl (k := 0) rfl (nI_1 r) (by decide) rfl (fun ls hl => ?_)
                refine lv_goto (tgt := 64) hx hb dX4_faultsAt_106 (by decide) ?_
                exact ih64 (r + 1)  x7 (by omega) (by omega) (by rw [e64_7]; show _ = _ + (sT (fun r => if sk r = c then bI (rollOff (nI p) (hC ck cf cd nF (nI ((sk r) * 40 + p * 4 + m)) f) (hC ck cf cd nF (nI ((sk r) * 40 + (p - 1) * 4 + m)) f) (hC ck cf cd nF (nI ((fk r) * 40 + p * 4 + m)) f) cd cv = true) else 0) r + (fun r => if sk r = c then bI (rollOff (nI p) (hC ck cf cd nF (nI ((sk r) * 40 + p * 4 + m)) f) (hC ck cf cd nF (nI ((sk r) * 40 + (p - 1) * 4 + m)) f) (hC ck cf cd nF (nI ((fk r) * 40 + p * 4 + m)) f) cd cv = true) else 0) r); rw [← Int32.add_assoc]; show _ = _ + (if sk r = c then bI _ else 0); first | (rw [if_neg hsc]; exact (Int32.add_zero _).symm) | (rw [if_pos hsc, ← bI_f c_97]; exact (Int32.add_zero _).symm) | (rw [if_pos hsc, ← bI_t c_97]))  _ (lv_sub hl [0, 1, 2, 3, 4, 5, 6, 7, 8] rfl)
              · skip
                have hsc : sk r = c := by rw [hsk r] at c_82; exact (nI_eq (by have := hsk12 r; omega) (by omega)).mp c_82
                refine lv_aload_n hx hb dX4_faultsAt_85 rfl (lv_at hl 8 rfl) ?_
                refine lv_aload_n hx hb dX4_faultsAt_86 rfl (lv_at hl 7 rfl) ?_
                refine lv_iload hx hb dX4_faultsAt_87 (lv_at hl 0 rfl) ?_
                refine lv_iload hx hb dX4_faultsAt_89 (lv_at hl 3 rfl) ?_
                refine lv_iload hx hb dX4_faultsAt_91 (lv_at hl 2 rfl) ?_
                refine lv_iload_n hx hb dX4_faultsAt_93 rfl (lv_at hl 5 rfl) ?_
                refine g_csi (va_runV (As := [.ref (a 5), .int (nI r), .int (nI p), .int (nI m), .int f]) (rest := []) ⟨hx, hb, hml, hown, hts⟩ (c4_rollFails_L l D cI cZ cO cL dt A a FA nC nR nL nF par wt stk flw hd rea sig ck cf cd cv nx R r (sk r) (fk r) p m f hF hC12 hck hcf hcd hcv hwt hCh (by omega) (hsk r) (hfk r) (hsk12 r) (hfk12 r) hp hm) (cwV 5 hts gX4_faultsAt_X4_rollFails rfl rfl rfl (by decide +kernel) ⟨Nat.le_of_ble_eq_true rfl, Nat.le_of_ble_eq_true rfl⟩) (gP.v hg hP 3 rfl (0) (rfl) hP) rfl rfl hl.1 rfl (lv_room (Nat.le_of_ble_eq_true rfl)) dX4_faultsAt_94 ⟨Nat.le_of_ble_eq_true rfl, Nat.le_of_ble_eq_true rfl⟩) (fun r_8 hr_8 => ?_)
                obtain rfl : r_8 = bI (rollOff (nI p) (hC ck cf cd nF (nI ((sk r) * 40 + p * 4 + m)) f) (hC ck cf cd nF (nI ((sk r) * 40 + (p - 1) * 4 + m)) f) (hC ck cf cd nF (nI ((fk r) * 40 + p * 4 + m)) f) cd cv = true) := hr_8
                refine lv_if_eq (tgt := 103) hx hb dX4_faultsAt_97 (by decide) (fun c_97 => ?_) (fun c_97 => ?_)
                · skip
                  have c_97 := bI_z c_97
                  refine lv_iinc (v := nI (r + 1)) (lv' := [(8, .int (nI (r + 1))), (7, .int x7), (6, .int (nI m)), (5, .int (nI p)), (4, .int (nI c)), (3, .int f), (2, .int (nI K)), (1, .ref (a 5)), (0, .ref (a 0))]) hx hb dX4_faultsAt_103 hl (k := 0) rfl (nI_1 r) (by decide) rfl (fun ls hl => ?_)
                  refine lv_goto (tgt := 64) hx hb dX4_faultsAt_106 (by decide) ?_
                  exact ih64 (r + 1)  x7 (by omega) (by omega) (by rw [e64_7]; show _ = _ + (sT (fun r => if sk r = c then bI (rollOff (nI p) (hC ck cf cd nF (nI ((sk r) * 40 + p * 4 + m)) f) (hC ck cf cd nF (nI ((sk r) * 40 + (p - 1) * 4 + m)) f) (hC ck cf cd nF (nI ((fk r) * 40 + p * 4 + m)) f) cd cv = true) else 0) r + (fun r => if sk r = c then bI (rollOff (nI p) (hC ck cf cd nF (nI ((sk r) * 40 + p * 4 + m)) f) (hC ck cf cd nF (nI ((sk r) * 40 + (p - 1) * 4 + m)) f) (hC ck cf cd nF (nI ((fk r) * 40 + p * 4 + m)) f) cd cv = true) else 0) r); rw [← Int32.add_assoc]; show _ = _ + (if sk r = c then bI _ else 0); first | (rw [if_neg hsc]; exact (Int32.add_zero _).symm) | (rw [if_pos hsc, ← bI_f c_97]; exact (Int32.add_zero _).symm) | (rw [if_pos hsc, ← bI_t c_97]))  _ (lv_sub hl [0, 1, 2, 3, 4, 5, 6, 7, 8] rfl)
                · skip
                  have c_97 := bI_n c_97
                  refine lv_iinc (v := x7 + 1) (lv' := [(7, .int (x7 + 1)), (8, .int (nI r)), (6, .int (nI m)), (5, .int (nI p)), (4, .int (nI c)), (3, .int f), (2, .int (nI K)), (1, .ref (a 5)), (0, .ref (a 0))]) hx hb dX4_faultsAt_100 hl (k := 1) rfl (rfl) (by decide) rfl (fun ls hl => ?_)
                  refine lv_iinc (v := nI (r + 1)) (lv' := [(8, .int (nI (r + 1))), (7, .int (x7 + 1)), (6, .int (nI m)), (5, .int (nI p)), (4, .int (nI c)), (3, .int f), (2, .int (nI K)), (1, .ref (a 5)), (0, .ref (a 0))]) hx hb dX4_faultsAt_103 hl (k := 1) rfl (nI_1 r) (by decide) rfl (fun ls hl => ?_)
                  refine lv_goto (tgt := 64) hx hb dX4_faultsAt_106 (by decide) ?_
                  exact ih64 (r + 1)  (x7 + 1) (by omega) (by omega) (by rw [e64_7]; show _ = _ + (sT (fun r => if sk r = c then bI (rollOff (nI p) (hC ck cf cd nF (nI ((sk r) * 40 + p * 4 + m)) f) (hC ck cf cd nF (nI ((sk r) * 40 + (p - 1) * 4 + m)) f) (hC ck cf cd nF (nI ((fk r) * 40 + p * 4 + m)) f) cd cv = true) else 0) r + (fun r => if sk r = c then bI (rollOff (nI p) (hC ck cf cd nF (nI ((sk r) * 40 + p * 4 + m)) f) (hC ck cf cd nF (nI ((sk r) * 40 + (p - 1) * 4 + m)) f) (hC ck cf cd nF (nI ((fk r) * 40 + p * 4 + m)) f) cd cv = true) else 0) r); rw [← Int32.add_assoc]; show _ = _ + (if sk r = c then bI _ else 0); first | (rw [if_neg hsc]; exact (Int32.add_zero _).symm) | (rw [if_pos hsc, ← bI_f c_97]; exact (Int32.add_zero _).symm) | (rw [if_pos hsc, ← bI_t c_97]))  _ (lv_sub hl [0, 1, 2, 3, 4, 5, 6, 7, 8] rfl)
        exact lp64 (nR + 1) 0  1 (by omega) (by omega) (Int32.add_zero _).symm  _ (lv_sub hl [0, 1, 2, 3, 4, 8, 7, 6, 5] rfl)
      · skip
        have c_55 := bI_n c_55
        refine lv_iinc (v := 1 + 1) (lv' := [(7, .int (1 + 1)), (6, .int (nI m)), (5, .int (nI p)), (4, .int (nI c)), (0, .ref (a 0)), (1, .ref (a 5)), (2, .int (nI K)), (3, .int f)]) hx hb dX4_faultsAt_58 hl (k := 0) rfl (rfl) (by decide) rfl (fun ls hl => ?_)
        refine lv_iconst (v := 0) hx hb dX4_faultsAt_61 (by decide) ?_
        refine lv_istore (lv' := [(8, .int 0), (7, .int (1 + 1)), (6, .int (nI m)), (5, .int (nI p)), (4, .int (nI c)), (0, .ref (a 0)), (1, .ref (a 5)), (2, .int (nI K)), (3, .int f)]) hx hb dX4_faultsAt_62 hl (by decide) rfl (fun ls hl => ?_)
        have lp64 : ∀ (n64 r : Nat)  (x7 : Int32), nR < r + n64 → r ≤ nR → x7 = (1 + 1) + sT (fun r => if sk r = c then bI (rollOff (nI p) (hC ck cf cd nF (nI ((sk r) * 40 + p * 4 + m)) f) (hC ck cf cd nF (nI ((sk r) * 40 + (p - 1) * 4 + m)) f) (hC ck cf cd nF (nI ((fk r) * 40 + p * 4 + m)) f) cd cv = true) else 0) r → ∀ ls : Array Slot, lv_has ls 9 [(8, .int (nI r)), (7, .int x7), (6, .int (nI m)), (5, .int (nI p)), (4, .int (nI c)), (3, .int f), (2, .int (nI K)), (1, .ref (a 5)), (0, .ref (a 0))] → W p9 l e9 (headSpec wsX4_faultsAt ({ frames := 4, cells := 0, slots := 0, locals := 102 } : Room)).room s m9 ([.ref (a 0), .ref (a 5), .int (nI K), .int f] : List Value).toArray below meth c9 s.heap [] 0 0 (MQ below (vp_Si (fun z => z = fltA nC nR par wt sk fk (fun K => hC ck cf cd nF (nI K) f) cd cv c p m)) ([.ref (a 0), .ref (a 5), .int (nI K), .int f] : List Value).toArray s 0 0 (fun _ => False)) (F0 m9 64 ls []) := by
          intro n64
          induction n64 with
          | zero => intro r  x7 h1 h2; exact absurd h1 (by omega)
          | succ n64 ih64 =>
            intro r  x7 hn64 hk64 e64_7  ls hl
            refine lv_iload hx hb dX4_faultsAt_64 (lv_at hl 0 rfl) ?_
            refine lv_aload_n hx hb dX4_faultsAt_66 rfl (lv_at hl 8 rfl) ?_
            refine va_get (D := D) (ci := 3) (v := .int (nI nR)) (C := RX4) (T := TX4) (N := 11) hx hb hts win_X4 hown hK hP (0) (rfl) rfl 5 (by decide) w_0 (fun _ h9 => h9) rfl dX4_faultsAt_67 ?_
            refine lv_icmp_ge (tgt := 109) hx hb dX4_faultsAt_70 (by decide) (fun c_70 => ?_) (fun c_70 => ?_)
            · skip
              have hkF : r = nR := by have := (nI_leI (a := nR) (b := r) (by omega) (by omega)).mp c_70; omega
              rw [hkF] at e64_7
              refine lv_iload hx hb dX4_faultsAt_109 (lv_at hl 1 rfl) ?_
              exact W.iret (v := x7) hx hb hr (fun t ht hW => ⟨x7, rfl, (by rw [e64_7]; unfold fltA; congr 1; show _ = bI _ + _; first | (rw [← bI_t c_31]; first | (rw [if_pos hm0, ← bI_t c_55]; done) | (rw [if_pos hm0, ← bI_f c_55]; rfl) | (rw [if_neg hm0]; rfl)) | (rw [← bI_f c_31]; first | (rw [if_pos hm0, ← bI_t c_55]; done) | (rw [if_pos hm0, ← bI_f c_55]; rfl) | (rw [if_neg hm0]; rfl))), ht⟩) (fun q h => nomatch h) dX4_faultsAt_111
            · skip
              have hkF : r < nR := by have := mt (nI_leI (a := nR) (b := r) (by omega) (by omega)).mpr c_70; omega
              refine lv_aload_n hx hb dX4_faultsAt_73 rfl (lv_at hl 8 rfl) ?_
              refine va_get (D := D) (ci := 3) (v := .ref (a 3)) (C := RX4) (T := TX4) (N := 11) hx hb hts win_X4 hown hK hP (0) (rfl) rfl 3 (by decide) w_2 (fun _ h9 => h9) rfl dX4_faultsAt_74 ?_
              refine lv_iload hx hb dX4_faultsAt_77 (lv_at hl 0 rfl) ?_
              refine g_iald hx hb hK hP (3) 0 (n := 5) (f := stk) (rfl) rfl r rfl (by omega) (by decide) dX4_faultsAt_79 ?_
              refine lv_iload hx hb dX4_faultsAt_80 (lv_at hl 4 rfl) ?_
              refine lv_icmp_ne (tgt := 103) hx hb dX4_faultsAt_82 (by decide) (fun c_82 => ?_) (fun c_82 => ?_)
              · skip
                have hsc : ¬ sk r = c := fun q => c_82 (by rw [hsk r, q])
                refine lv_iinc (v := nI (r + 1)) (lv' := [(8, .int (nI (r + 1))), (7, .int x7), (6, .int (nI m)), (5, .int (nI p)), (4, .int (nI c)), (3, .int f), (2, .int (nI K)), (1, .ref (a 5)), (0, .ref (a 0))]) hx hb dX4_faultsAt_103 hl (k := 0) rfl (nI_1 r) (by decide) rfl (fun ls hl => ?_)
                refine lv_goto (tgt := 64) hx hb dX4_faultsAt_106 (by decide) ?_
                exact ih64 (r + 1)  x7 (by omega) (by omega) (by rw [e64_7]; show _ = _ + (sT (fun r => if sk r = c then bI (rollOff (nI p) (hC ck cf cd nF (nI ((sk r) * 40 + p * 4 + m)) f) (hC ck cf cd nF (nI ((sk r) * 40 + (p - 1) * 4 + m)) f) (hC ck cf cd nF (nI ((fk r) * 40 + p * 4 + m)) f) cd cv = true) else 0) r + (fun r => if sk r = c then bI (rollOff (nI p) (hC ck cf cd nF (nI ((sk r) * 40 + p * 4 + m)) f) (hC ck cf cd nF (nI ((sk r) * 40 + (p - 1) * 4 + m)) f) (hC ck cf cd nF (nI ((fk r) * 40 + p * 4 + m)) f) cd cv = true) else 0) r); rw [← Int32.add_assoc]; show _ = _ + (if sk r = c then bI _ else 0); first | (rw [if_neg hsc]; exact (Int32.add_zero _).symm) | (rw [if_pos hsc, ← bI_f c_97]; exact (Int32.add_zero _).symm) | (rw [if_pos hsc, ← bI_t c_97]))  _ (lv_sub hl [0, 1, 2, 3, 4, 5, 6, 7, 8] rfl)
              · skip
                have hsc : sk r = c := by rw [hsk r] at c_82; exact (nI_eq (by have := hsk12 r; omega) (by omega)).mp c_82
                refine lv_aload_n hx hb dX4_faultsAt_85 rfl (lv_at hl 8 rfl) ?_
                refine lv_aload_n hx hb dX4_faultsAt_86 rfl (lv_at hl 7 rfl) ?_
                refine lv_iload hx hb dX4_faultsAt_87 (lv_at hl 0 rfl) ?_
                refine lv_iload hx hb dX4_faultsAt_89 (lv_at hl 3 rfl) ?_
                refine lv_iload hx hb dX4_faultsAt_91 (lv_at hl 2 rfl) ?_
                refine lv_iload_n hx hb dX4_faultsAt_93 rfl (lv_at hl 5 rfl) ?_
                refine g_csi (va_runV (As := [.ref (a 5), .int (nI r), .int (nI p), .int (nI m), .int f]) (rest := []) ⟨hx, hb, hml, hown, hts⟩ (c4_rollFails_L l D cI cZ cO cL dt A a FA nC nR nL nF par wt stk flw hd rea sig ck cf cd cv nx R r (sk r) (fk r) p m f hF hC12 hck hcf hcd hcv hwt hCh (by omega) (hsk r) (hfk r) (hsk12 r) (hfk12 r) hp hm) (cwV 5 hts gX4_faultsAt_X4_rollFails rfl rfl rfl (by decide +kernel) ⟨Nat.le_of_ble_eq_true rfl, Nat.le_of_ble_eq_true rfl⟩) (gP.v hg hP 3 rfl (0) (rfl) hP) rfl rfl hl.1 rfl (lv_room (Nat.le_of_ble_eq_true rfl)) dX4_faultsAt_94 ⟨Nat.le_of_ble_eq_true rfl, Nat.le_of_ble_eq_true rfl⟩) (fun r_9 hr_9 => ?_)
                obtain rfl : r_9 = bI (rollOff (nI p) (hC ck cf cd nF (nI ((sk r) * 40 + p * 4 + m)) f) (hC ck cf cd nF (nI ((sk r) * 40 + (p - 1) * 4 + m)) f) (hC ck cf cd nF (nI ((fk r) * 40 + p * 4 + m)) f) cd cv = true) := hr_9
                refine lv_if_eq (tgt := 103) hx hb dX4_faultsAt_97 (by decide) (fun c_97 => ?_) (fun c_97 => ?_)
                · skip
                  have c_97 := bI_z c_97
                  refine lv_iinc (v := nI (r + 1)) (lv' := [(8, .int (nI (r + 1))), (7, .int x7), (6, .int (nI m)), (5, .int (nI p)), (4, .int (nI c)), (3, .int f), (2, .int (nI K)), (1, .ref (a 5)), (0, .ref (a 0))]) hx hb dX4_faultsAt_103 hl (k := 0) rfl (nI_1 r) (by decide) rfl (fun ls hl => ?_)
                  refine lv_goto (tgt := 64) hx hb dX4_faultsAt_106 (by decide) ?_
                  exact ih64 (r + 1)  x7 (by omega) (by omega) (by rw [e64_7]; show _ = _ + (sT (fun r => if sk r = c then bI (rollOff (nI p) (hC ck cf cd nF (nI ((sk r) * 40 + p * 4 + m)) f) (hC ck cf cd nF (nI ((sk r) * 40 + (p - 1) * 4 + m)) f) (hC ck cf cd nF (nI ((fk r) * 40 + p * 4 + m)) f) cd cv = true) else 0) r + (fun r => if sk r = c then bI (rollOff (nI p) (hC ck cf cd nF (nI ((sk r) * 40 + p * 4 + m)) f) (hC ck cf cd nF (nI ((sk r) * 40 + (p - 1) * 4 + m)) f) (hC ck cf cd nF (nI ((fk r) * 40 + p * 4 + m)) f) cd cv = true) else 0) r); rw [← Int32.add_assoc]; show _ = _ + (if sk r = c then bI _ else 0); first | (rw [if_neg hsc]; exact (Int32.add_zero _).symm) | (rw [if_pos hsc, ← bI_f c_97]; exact (Int32.add_zero _).symm) | (rw [if_pos hsc, ← bI_t c_97]))  _ (lv_sub hl [0, 1, 2, 3, 4, 5, 6, 7, 8] rfl)
                · skip
                  have c_97 := bI_n c_97
                  refine lv_iinc (v := x7 + 1) (lv' := [(7, .int (x7 + 1)), (8, .int (nI r)), (6, .int (nI m)), (5, .int (nI p)), (4, .int (nI c)), (3, .int f), (2, .int (nI K)), (1, .ref (a 5)), (0, .ref (a 0))]) hx hb dX4_faultsAt_100 hl (k := 1) rfl (rfl) (by decide) rfl (fun ls hl => ?_)
                  refine lv_iinc (v := nI (r + 1)) (lv' := [(8, .int (nI (r + 1))), (7, .int (x7 + 1)), (6, .int (nI m)), (5, .int (nI p)), (4, .int (nI c)), (3, .int f), (2, .int (nI K)), (1, .ref (a 5)), (0, .ref (a 0))]) hx hb dX4_faultsAt_103 hl (k := 1) rfl (nI_1 r) (by decide) rfl (fun ls hl => ?_)
                  refine lv_goto (tgt := 64) hx hb dX4_faultsAt_106 (by decide) ?_
                  exact ih64 (r + 1)  (x7 + 1) (by omega) (by omega) (by rw [e64_7]; show _ = _ + (sT (fun r => if sk r = c then bI (rollOff (nI p) (hC ck cf cd nF (nI ((sk r) * 40 + p * 4 + m)) f) (hC ck cf cd nF (nI ((sk r) * 40 + (p - 1) * 4 + m)) f) (hC ck cf cd nF (nI ((fk r) * 40 + p * 4 + m)) f) cd cv = true) else 0) r + (fun r => if sk r = c then bI (rollOff (nI p) (hC ck cf cd nF (nI ((sk r) * 40 + p * 4 + m)) f) (hC ck cf cd nF (nI ((sk r) * 40 + (p - 1) * 4 + m)) f) (hC ck cf cd nF (nI ((fk r) * 40 + p * 4 + m)) f) cd cv = true) else 0) r); rw [← Int32.add_assoc]; show _ = _ + (if sk r = c then bI _ else 0); first | (rw [if_neg hsc]; exact (Int32.add_zero _).symm) | (rw [if_pos hsc, ← bI_f c_97]; exact (Int32.add_zero _).symm) | (rw [if_pos hsc, ← bI_t c_97]))  _ (lv_sub hl [0, 1, 2, 3, 4, 5, 6, 7, 8] rfl)
        exact lp64 (nR + 1) 0  (1 + 1) (by omega) (by omega) (Int32.add_zero _).symm  _ (lv_sub hl [0, 1, 2, 3, 4, 8, 7, 6, 5] rfl)
set_option maxHeartbeats 4000000 in
set_option maxRecDepth 100000 in
/-- the fact of a part -/
theorem c4_partHolding_K (l : Launch) (D : va_G) (cI cZ cO cL : ClassId) (dt : Nat) (A : Nat → Prop) (a FA : Nat → Nat) (nC nR nL nF : Nat) (par wt stk flw : Nat → Int32) (hd : Nat → Option Nat) (rea sig : Nat → Int32) (ck cf cd : Nat → Nat) (cv : Nat → Int32) (nx : Nat → Option Nat) (R : va_W) (c k K : Nat) (f : Int32) (hF : nF ≤ 80) (hC12 : nC ≤ 12) (hck : ∀ k, ck k < 480) (hcf : ∀ k, cf k < 2 ^ 31) (hcd : ∀ k, cd k ≤ 4) (hcv : ∀ k, vOk (cv k)) (hwt : ∀ k, wOk (wt k)) (hCh : chOk ck cf cd hd nx nF) (hk : k < 12) (hKb : K < 480) : Met l yX4_partHolding wsX4_partHolding ({ frames := 1, cells := 0, slots := 0, locals := 23 } : Room) (gP D cI cZ cO cL dt A [.ref (a 0), .ref (a 6), .int (nI c), .int (nI k), .int (nI K), .int f] (fun H => va_P D vwCl (WD cI cO a FA nC nR nL nF par wt stk flw hd rea sig ++ (WF FA ck cf cd cv nx nF ++ R)) H)) (va_Sq (fun r => r = (if par k = nI c then hC ck cf cd nF (nI K) f else none).map FA)) 0 0 (fun _ => False) := by
  refine Met.ofW (cc := cX4_partHolding) (maxL := 6) (ret := (some (.object "Dimfacts$Fact"))) (by decide) rfl ?_
  intro p9 e9 s m9 args below meth c9 s₁ B hml hv
  obtain ⟨rfl, hg, hP⟩ := hv
  have hx := B.exec
  have hb := B.bytes
  have hr := B.returns
  have hts := atoms_spec (ws := wsX4_partHolding) B.pre
  have hown : s.vm.findClass RX4 = some m9.cls := findClass_of_methodNamed B.named
  have hlocks := B.notSynchronized
  have hK := hg.1
  have w_0 := hts (.fieldLink RX4 9 "Dimfacts" "parents" "[I") (by decide +kernel)
  have win_X4 : ∀ w ∈ wsX40, w ∈ wsX4_partHolding := by decide +kernel
  have hl := lv_entry ([.ref (a 0), .ref (a 6), .int (nI c), .int (nI k), .int (nI K), .int f]) (n := 6) (Nat.le_of_ble_eq_true rfl)
  rw [lg_entry_eq]
  generalize (lg_sl ([.ref (a 0), .ref (a 6), .int (nI c), .int (nI k), .int (nI K), .int f]) ++ List.replicate (6 - (lg_sl ([.ref (a 0), .ref (a 6), .int (nI c), .int (nI k), .int (nI K), .int f])).length) Slot.unset).toArray = ls at hl ⊢
  have hl : lv_has ls 6 [(0, .ref (a 0)), (1, .ref (a 6)), (2, .int (nI c)), (3, .int (nI k)), (4, .int (nI K)), (5, .int f)] := hl
  refine lv_aload_n hx hb dX4_partHolding_0 rfl (lv_at hl 0 rfl) ?_
  refine va_get (D := D) (ci := 3) (v := .ref (a 1)) (C := RX4) (T := TX4) (N := 11) hx hb hts win_X4 hown hK hP (0) (rfl) rfl 0 (by decide) w_0 (fun _ h9 => h9) rfl dX4_partHolding_1 ?_
  refine lv_iload_n hx hb dX4_partHolding_4 rfl (lv_at hl 3 rfl) ?_
  refine g_iald hx hb hK hP (1) 0 (n := 12) (f := par) (rfl) rfl k rfl (by omega) (by decide) dX4_partHolding_5 ?_
  refine lv_iload_n hx hb dX4_partHolding_6 rfl (lv_at hl 2 rfl) ?_
  refine lv_icmp_ne (tgt := 21) hx hb dX4_partHolding_7 (by decide) (fun c_7 => ?_) (fun c_7 => ?_)
  · skip
    refine lv_null hx hb dX4_partHolding_21 ?_
    exact W.aret (v := .null) hx hb hr (Or.inl ⟨_, rfl⟩) (Or.inl rfl) (fun t ht hW => ⟨none, rfl, (by first | (rw [if_neg c_7]; rfl) | (rw [if_pos c_7, hH]; rfl)), ht⟩) (fun q h => nomatch h) dX4_partHolding_22
  · skip
    refine lv_aload_n hx hb dX4_partHolding_10 rfl (lv_at hl 1 rfl) ?_
    refine lv_iload hx hb dX4_partHolding_11 (lv_at hl 4 rfl) ?_
    refine lv_iload hx hb dX4_partHolding_13 (lv_at hl 5 rfl) ?_
    refine g_csq (va_runU (As := [.int (nI K), .int f]) (rest := []) ⟨hx, hb, hml, hown, hts⟩ (c2_holding l D cI cZ cO cL dt A a FA nC nR nL nF par wt stk flw hd rea sig ck cf cd cv nx R K f (by omega) hck hCh) (va_cwA 2 hts gX4_partHolding_X2_holding_u196X2 rfl rfl rfl hg.2.1.2.2.2.2.2.1 (by decide +kernel) ⟨Nat.le_of_ble_eq_true rfl, Nat.le_of_ble_eq_true rfl⟩) (gP.v hg hP 1 rfl (6) (rfl) hP) rfl rfl hl.1 rfl (lv_room (Nat.le_of_ble_eq_true rfl)) dX4_partHolding_15 ⟨Nat.le_of_ble_eq_true rfl, Nat.le_of_ble_eq_true rfl⟩) (fun r_1 hr_1 => ?_)
    obtain ⟨o_r_1, hH⟩ : ∃ z, hC ck cf cd nF (nI K) f = z := ⟨_, rfl⟩
    rcases o_r_1 with _ | j
    · skip
      obtain rfl : r_1 = none := hr_1.trans (congrArg (Option.map FA) hH)
      refine lv_goto (tgt := 22) hx hb dX4_partHolding_18 (by decide) ?_
      exact W.aret (v := .null) hx hb hr (Or.inl ⟨_, rfl⟩) (Or.inl rfl) (fun t ht hW => ⟨none, rfl, (by first | (rw [if_neg c_7]; rfl) | (rw [if_pos c_7, hH]; rfl)), ht⟩) (fun q h => nomatch h) dX4_partHolding_22
    · skip
      obtain rfl : r_1 = some (FA j) := hr_1.trans (congrArg (Option.map FA) hH)
      have hj := (sel_lt hH).1
      refine lv_goto (tgt := 22) hx hb dX4_partHolding_18 (by decide) ?_
      exact W.aret (v := .ref (FA j)) hx hb hr (Or.inl ⟨_, rfl⟩) (Or.inr ⟨_, rfl⟩) (fun t ht hW => ⟨some (FA j), rfl, (by first | (rw [if_neg c_7]; rfl) | (rw [if_pos c_7, hH]; rfl)), ht⟩) (fun q h => nomatch h) dX4_partHolding_22
set_option maxHeartbeats 4000000 in
set_option maxRecDepth 100000 in
/-- a sum is off -/
theorem c4_sumFails_K (l : Launch) (D : va_G) (cI cZ cO cL : ClassId) (dt : Nat) (A : Nat → Prop) (a FA : Nat → Nat) (nC nR nL nF : Nat) (par wt stk flw : Nat → Int32) (hd : Nat → Option Nat) (rea sig : Nat → Int32) (ck cf cd : Nat → Nat) (cv : Nat → Int32) (nx : Nat → Option Nat) (R : va_W) (c p m : Nat) (f : Int32) (hF : nF ≤ 80) (hC12 : nC ≤ 12) (hck : ∀ k, ck k < 480) (hcf : ∀ k, cf k < 2 ^ 31) (hcd : ∀ k, cd k ≤ 4) (hcv : ∀ k, vOk (cv k)) (hwt : ∀ k, wOk (wt k)) (hCh : chOk ck cf cd hd nx nF) (hc : c < nC) (hp : p < 10) (hm : m < 4) : Met l yX4_sumFails wsX4_sumFails ({ frames := 2, cells := 0, slots := 0, locals := 62 } : Room) (gP D cI cZ cO cL dt A [.ref (a 0), .ref (a 6), .int (nI c), .int (nI p), .int (nI m), .int f] (fun H => va_P D vwCl (WD cI cO a FA nC nR nL nF par wt stk flw hd rea sig ++ (WF FA ck cf cd cv nx nF ++ R)) H)) (vp_Si (fun r => r = bI (sumOff nC par wt (fun k => hC ck cf cd nF (nI (k * 40 + p * 4 + m)) f) cd cv (nI c) (hC ck cf cd nF (nI (c * 40 + p * 4 + m)) f) = true))) 0 0 (fun _ => False) := by
  refine Met.ofW (cc := cX4_sumFails) (maxL := 12) (ret := (some .boolean)) (by decide) rfl ?_
  intro p9 e9 s m9 args below meth c9 s₁ B hml hv
  obtain ⟨rfl, hg, hP⟩ := hv
  have hx := B.exec
  have hb := B.bytes
  have hr := B.returns
  have hts := atoms_spec (ws := wsX4_sumFails) B.pre
  have hown : s.vm.findClass RX4 = some m9.cls := findClass_of_methodNamed B.named
  have hlocks := B.notSynchronized
  have hK := hg.1
  have w_0 := hts (.fieldLink RX4 138 "Dimfacts$Fact" "doubt" "I") (by decide +kernel)
  have win_X0 : ∀ w ∈ wsX00, w ∈ wsX4_sumFails := by decide +kernel
  have w_2 := hts (.fieldLink RX4 42 "Dimfacts" "conceptCount" "I") (by decide +kernel)
  have win_X4 : ∀ w ∈ wsX40, w ∈ wsX4_sumFails := by decide +kernel
  have w_4 := hts (.fieldLink RX4 135 "Dimfacts$Fact" "value" "I") (by decide +kernel)
  have w_5 := hts (.fieldLink RX4 13 "Dimfacts" "weights" "[I") (by decide +kernel)
  have hl := lv_entry ([.ref (a 0), .ref (a 6), .int (nI c), .int (nI p), .int (nI m), .int f]) (n := 12) (Nat.le_of_ble_eq_true rfl)
  rw [lg_entry_eq]
  generalize (lg_sl ([.ref (a 0), .ref (a 6), .int (nI c), .int (nI p), .int (nI m), .int f]) ++ List.replicate (12 - (lg_sl ([.ref (a 0), .ref (a 6), .int (nI c), .int (nI p), .int (nI m), .int f])).length) Slot.unset).toArray = ls at hl ⊢
  have hl : lv_has ls 12 [(0, .ref (a 0)), (1, .ref (a 6)), (2, .int (nI c)), (3, .int (nI p)), (4, .int (nI m)), (5, .int f)] := hl
  refine lv_aload_n hx hb dX4_sumFails_0 rfl (lv_at hl 1 rfl) ?_
  refine lv_iload_n hx hb dX4_sumFails_1 rfl (lv_at hl 2 rfl) ?_
  refine lv_iload_n hx hb dX4_sumFails_2 rfl (lv_at hl 3 rfl) ?_
  refine lv_iload hx hb dX4_sumFails_3 (lv_at hl 4 rfl) ?_
  refine g_csi (va_runS (As := [.int (nI c), .int (nI p), .int (nI m)]) (rest := [.ref (a 6)]) ⟨hx, hb, hml, hown, hts⟩ (c4_keyOf l D cI cZ cO cL dt A c p m (WD cI cO a FA nC nR nL nF par wt stk flw hd rea sig ++ (WF FA ck cf cd cv nx nF ++ R))) (va_cwS 3 hts gX4_sumFails_X4_keyOf rfl rfl rfl (by decide +kernel) ⟨Nat.le_of_ble_eq_true rfl, Nat.le_of_ble_eq_true rfl⟩) (gP.s hg hP) rfl rfl hl.1 rfl (lv_room (Nat.le_of_ble_eq_true rfl)) dX4_sumFails_5 ⟨Nat.le_of_ble_eq_true rfl, Nat.le_of_ble_eq_true rfl⟩) (fun r_1 hr_1 => ?_)
  obtain rfl : r_1 = nI (c * 40 + p * 4 + m) := hr_1
  refine lv_iload hx hb dX4_sumFails_8 (lv_at hl 5 rfl) ?_
  refine g_csq (va_runU (As := [.int (nI (c * 40 + p * 4 + m)), .int f]) (rest := []) ⟨hx, hb, hml, hown, hts⟩ (c2_holding l D cI cZ cO cL dt A a FA nC nR nL nF par wt stk flw hd rea sig ck cf cd cv nx R (c * 40 + p * 4 + m) f (by omega) hck hCh) (va_cwA 2 hts gX4_sumFails_X2_holding_u196X2 rfl rfl rfl hg.2.1.2.2.2.2.2.1 (by decide +kernel) ⟨Nat.le_of_ble_eq_true rfl, Nat.le_of_ble_eq_true rfl⟩) (gP.v hg hP 1 rfl (6) (rfl) hP) rfl rfl hl.1 rfl (lv_room (Nat.le_of_ble_eq_true rfl)) dX4_sumFails_10 ⟨Nat.le_of_ble_eq_true rfl, Nat.le_of_ble_eq_true rfl⟩) (fun r_2 hr_2 => ?_)
  obtain ⟨o_r_2, hO⟩ : ∃ z, hC ck cf cd nF (nI (c * 40 + p * 4 + m)) f = z := ⟨_, rfl⟩
  rcases o_r_2 with _ | o
  · skip
    obtain rfl : r_2 = none := hr_2.trans (congrArg (Option.map FA) hO)
    refine lv_astoreN (lv' := [(6, .null), (0, .ref (a 0)), (1, .ref (a 6)), (2, .int (nI c)), (3, .int (nI p)), (4, .int (nI m)), (5, .int f)]) hx hb dX4_sumFails_13 hl (by decide) rfl (fun ls hl => ?_)
    refine lv_aloadN hx hb dX4_sumFails_15 (lv_at hl 0 rfl) ?_
    refine lv_ifnonnullN hx hb dX4_sumFails_17 ?_
    refine lv_iconst (v := 0) hx hb dX4_sumFails_20 (by decide) ?_
    exact W.zret (v := 0) hx hb hr (rfl) (fun t ht hW => ⟨0, rfl, (bI_f (by unfold sumOff; rw [hO]; simp)), ht⟩) (fun q h => nomatch h) dX4_sumFails_21
  · skip
    obtain rfl : r_2 = some (FA o) := hr_2.trans (congrArg (Option.map FA) hO)
    have ho := (sel_lt hO).1
    refine lv_astore (lv' := [(6, .ref (FA o)), (0, .ref (a 0)), (1, .ref (a 6)), (2, .int (nI c)), (3, .int (nI p)), (4, .int (nI m)), (5, .int f)]) hx hb dX4_sumFails_13 hl (by decide) rfl (fun ls hl => ?_)
    refine lv_aload hx hb dX4_sumFails_15 (lv_at hl 0 rfl) ?_
    refine lv_ifnonnull (tgt := 22) hx hb dX4_sumFails_17 (by decide) ?_
    refine lv_iconst (v := 0) hx hb dX4_sumFails_22 (by decide) ?_
    refine lv_istore (lv' := [(7, .int 0), (6, .ref (FA o)), (0, .ref (a 0)), (1, .ref (a 6)), (2, .int (nI c)), (3, .int (nI p)), (4, .int (nI m)), (5, .int f)]) hx hb dX4_sumFails_23 hl (by decide) rfl (fun ls hl => ?_)
    refine lv_aload hx hb dX4_sumFails_25 (lv_at hl 1 rfl) ?_
    refine va_get (D := D) (ci := 0) (v := .int (nI (10 ^ cd o))) (C := RX0) (T := TX0) (N := 5) hx hb hts win_X0 hown hK hP (11 + o) (WDF_at (by omega)) rfl 3 (by decide) w_0 (fun _ h9 => h9) rfl dX4_sumFails_27 ?_
    refine lv_istore (lv' := [(8, .int (nI (10 ^ cd o))), (7, .int 0), (6, .ref (FA o)), (0, .ref (a 0)), (1, .ref (a 6)), (2, .int (nI c)), (3, .int (nI p)), (4, .int (nI m)), (5, .int f)]) hx hb dX4_sumFails_30 hl (by decide) rfl (fun ls hl => ?_)
    refine lv_iconst (v := 0) hx hb dX4_sumFails_32 (by decide) ?_
    refine lv_istore (lv' := [(9, .int 0), (8, .int (nI (10 ^ cd o))), (7, .int 0), (6, .ref (FA o)), (0, .ref (a 0)), (1, .ref (a 6)), (2, .int (nI c)), (3, .int (nI p)), (4, .int (nI m)), (5, .int f)]) hx hb dX4_sumFails_33 hl (by decide) rfl (fun ls hl => ?_)
    refine lv_iconst (v := 0) hx hb dX4_sumFails_35 (by decide) ?_
    refine lv_istore (lv' := [(10, .int 0), (9, .int 0), (8, .int (nI (10 ^ cd o))), (7, .int 0), (6, .ref (FA o)), (0, .ref (a 0)), (1, .ref (a 6)), (2, .int (nI c)), (3, .int (nI p)), (4, .int (nI m)), (5, .int f)]) hx hb dX4_sumFails_36 hl (by decide) rfl (fun ls hl => ?_)
    have lp38 : ∀ (n38 k : Nat)  (x7 : Int32) (x8 : Int32) (x9 : Int32), nC < k + n38 → k ≤ nC → x7 = sumN par wt (fun k => hC ck cf cd nF (nI (k * 40 + p * 4 + m)) f) cv (nI c) k → x8 = nI (10 ^ cd o) + dbtN par (fun k => hC ck cf cd nF (nI (k * 40 + p * 4 + m)) f) cd (nI c) k → x9 = bI (0 < cntN par (fun k => hC ck cf cd nF (nI (k * 40 + p * 4 + m)) f) (nI c) k) → ∀ ls : Array Slot, lv_has ls 12 [(10, .int (nI k)), (7, .int x7), (8, .int x8), (9, .int x9), (6, .ref (FA o)), (5, .int f), (4, .int (nI m)), (3, .int (nI p)), (2, .int (nI c)), (1, .ref (a 6)), (0, .ref (a 0))] → W p9 l e9 (headSpec wsX4_sumFails ({ frames := 2, cells := 0, slots := 0, locals := 62 } : Room)).room s m9 ([.ref (a 0), .ref (a 6), .int (nI c), .int (nI p), .int (nI m), .int f] : List Value).toArray below meth c9 s.heap [] 0 0 (MQ below (vp_Si (fun r => r = bI (sumOff nC par wt (fun k => hC ck cf cd nF (nI (k * 40 + p * 4 + m)) f) cd cv (nI c) (hC ck cf cd nF (nI (c * 40 + p * 4 + m)) f) = true))) ([.ref (a 0), .ref (a 6), .int (nI c), .int (nI p), .int (nI m), .int f] : List Value).toArray s 0 0 (fun _ => False)) (F0 m9 38 ls []) := by
      intro n38
      induction n38 with
      | zero => intro k  x7 x8 x9 h1 h2; exact absurd h1 (by omega)
      | succ n38 ih38 =>
        intro k  x7 x8 x9 hn38 hk38 e38_7 e38_8 e38_9  ls hl
        refine lv_iload hx hb dX4_sumFails_38 (lv_at hl 0 rfl) ?_
        refine lv_aload_n hx hb dX4_sumFails_40 rfl (lv_at hl 10 rfl) ?_
        refine va_get (D := D) (ci := 3) (v := .int (nI nC)) (C := RX4) (T := TX4) (N := 11) hx hb hts win_X4 hown hK hP (0) (rfl) rfl 2 (by decide) w_2 (fun _ h9 => h9) rfl dX4_sumFails_41 ?_
        refine lv_icmp_ge (tgt := 109) hx hb dX4_sumFails_44 (by decide) (fun c_44 => ?_) (fun c_44 => ?_)
        · skip
          have hkF : k = nC := by have := (nI_leI (a := nC) (b := k) (by omega) (by omega)).mp c_44; omega
          rw [hkF] at e38_7
          rw [hkF] at e38_8
          rw [hkF] at e38_9
          refine lv_iload hx hb dX4_sumFails_109 (lv_at hl 3 rfl) ?_
          refine lv_if_eq (tgt := 133) hx hb dX4_sumFails_111 (by decide) (fun c_111 => ?_) (fun c_111 => ?_)
          · skip
            rw [e38_9] at c_111
            have h0 := bI_z c_111
            refine lv_iconst (v := 0) hx hb dX4_sumFails_133 (by decide) ?_
            exact W.zret (v := 0) hx hb hr (rfl) (fun t ht hW => ⟨0, rfl, (bI_f (by unfold sumOff; rw [hO]; simp only [Bool.and_eq_true, decide_eq_true_eq]; intro q; first | exact h0 q.1 | exact c_126 (by rw [e38_7, e38_8]; exact q.2))), ht⟩) (fun q h => nomatch h) dX4_sumFails_134
          · skip
            rw [e38_9] at c_111
            have h0 := bI_n c_111
            refine lv_aload hx hb dX4_sumFails_114 (lv_at hl 4 rfl) ?_
            refine va_get (D := D) (ci := 0) (v := .int (cv o)) (C := RX0) (T := TX0) (N := 5) hx hb hts win_X0 hown hK hP (11 + o) (WDF_at (by omega)) rfl 2 (by decide) w_4 (fun _ h9 => h9) rfl dX4_sumFails_116 ?_
            refine lv_iload hx hb dX4_sumFails_119 (lv_at hl 1 rfl) ?_
            refine lv_iload hx hb dX4_sumFails_121 (lv_at hl 2 rfl) ?_
            refine g_csi (va_runS (As := [.int (cv o), .int x7, .int x8]) (rest := []) ⟨hx, hb, hml, hown, hts⟩ (c4_isApart l D cI cZ cO cL dt A (cv o) x7 x8 (WD cI cO a FA nC nR nL nF par wt stk flw hd rea sig ++ (WF FA ck cf cd cv nx nF ++ R)) ((hcv o).small) (by rw [e38_7]; exact sumN_small hwt hcv (by omega))) (va_cwS 3 hts gX4_sumFails_X4_isApart rfl rfl rfl (by decide +kernel) ⟨Nat.le_of_ble_eq_true rfl, Nat.le_of_ble_eq_true rfl⟩) (gP.s hg hP) rfl rfl hl.1 rfl (lv_room (Nat.le_of_ble_eq_true rfl)) dX4_sumFails_123 ⟨Nat.le_of_ble_eq_true rfl, Nat.le_of_ble_eq_true rfl⟩) (fun r_3 hr_3 => ?_)
            obtain rfl : r_3 = bI (x8 < 2 * farI (cv o) x7) := hr_3
            refine lv_if_eq (tgt := 133) hx hb dX4_sumFails_126 (by decide) (fun c_126 => ?_) (fun c_126 => ?_)
            · skip
              have c_126 := bI_z c_126
              refine lv_iconst (v := 0) hx hb dX4_sumFails_133 (by decide) ?_
              exact W.zret (v := 0) hx hb hr (rfl) (fun t ht hW => ⟨0, rfl, (bI_f (by unfold sumOff; rw [hO]; simp only [Bool.and_eq_true, decide_eq_true_eq]; intro q; first | exact h0 q.1 | exact c_126 (by rw [e38_7, e38_8]; exact q.2))), ht⟩) (fun q h => nomatch h) dX4_sumFails_134
            · skip
              have c_126 := bI_n c_126
              refine lv_iconst (v := 1) hx hb dX4_sumFails_129 (by decide) ?_
              refine lv_goto (tgt := 134) hx hb dX4_sumFails_130 (by decide) ?_
              exact W.zret (v := 1) hx hb hr (rfl) (fun t ht hW => ⟨1, rfl, (bI_t (by unfold sumOff; rw [hO]; simp only [Bool.and_eq_true, decide_eq_true_eq]; exact ⟨h0, by rw [← e38_7, ← e38_8]; exact c_126⟩)), ht⟩) (fun q h => nomatch h) dX4_sumFails_134
        · skip
          have hkF : k < nC := by have := mt (nI_leI (a := nC) (b := k) (by omega) (by omega)).mpr c_44; omega
          refine lv_aload_n hx hb dX4_sumFails_47 rfl (lv_at hl 10 rfl) ?_
          refine lv_aload_n hx hb dX4_sumFails_48 rfl (lv_at hl 9 rfl) ?_
          refine lv_iload_n hx hb dX4_sumFails_49 rfl (lv_at hl 8 rfl) ?_
          refine lv_iload hx hb dX4_sumFails_50 (lv_at hl 0 rfl) ?_
          refine lv_iload hx hb dX4_sumFails_52 (lv_at hl 0 rfl) ?_
          refine lv_iload_n hx hb dX4_sumFails_54 rfl (lv_at hl 7 rfl) ?_
          refine lv_iload hx hb dX4_sumFails_55 (lv_at hl 6 rfl) ?_
          refine g_csi (va_runS (As := [.int (nI k), .int (nI p), .int (nI m)]) (rest := [.int (nI k), .int (nI c), .ref (a 6), .ref (a 0)]) ⟨hx, hb, hml, hown, hts⟩ (c4_keyOf l D cI cZ cO cL dt A k p m (WD cI cO a FA nC nR nL nF par wt stk flw hd rea sig ++ (WF FA ck cf cd cv nx nF ++ R))) (va_cwS 3 hts gX4_sumFails_X4_keyOf rfl rfl rfl (by decide +kernel) ⟨Nat.le_of_ble_eq_true rfl, Nat.le_of_ble_eq_true rfl⟩) (gP.s hg hP) rfl rfl hl.1 rfl (lv_room (Nat.le_of_ble_eq_true rfl)) dX4_sumFails_57 ⟨Nat.le_of_ble_eq_true rfl, Nat.le_of_ble_eq_true rfl⟩) (fun r_4 hr_4 => ?_)
          obtain rfl : r_4 = nI (k * 40 + p * 4 + m) := hr_4
          refine lv_iload hx hb dX4_sumFails_60 (lv_at hl 5 rfl) ?_
          refine g_csq (va_runV (As := [.ref (a 6), .int (nI c), .int (nI k), .int (nI (k * 40 + p * 4 + m)), .int f]) (rest := []) ⟨hx, hb, hml, hown, hts⟩ (c4_partHolding_K l D cI cZ cO cL dt A a FA nC nR nL nF par wt stk flw hd rea sig ck cf cd cv nx R c k (k * 40 + p * 4 + m) f hF hC12 hck hcf hcd hcv hwt hCh (by omega) (by omega)) (cwV 5 hts gX4_sumFails_X4_partHolding rfl rfl rfl (by decide +kernel) ⟨Nat.le_of_ble_eq_true rfl, Nat.le_of_ble_eq_true rfl⟩) (gP.v hg hP 3 rfl (0) (rfl) hP) rfl rfl hl.1 rfl (lv_room (Nat.le_of_ble_eq_true rfl)) dX4_sumFails_62 ⟨Nat.le_of_ble_eq_true rfl, Nat.le_of_ble_eq_true rfl⟩) (fun r_5 hr_5 => ?_)
          obtain ⟨o_r_5, hS⟩ : ∃ z, (if par k = nI c then hC ck cf cd nF (nI (k * 40 + p * 4 + m)) f else none) = z := ⟨_, rfl⟩
          rcases o_r_5 with _ | j
          · skip
            obtain rfl : r_5 = none := hr_5.trans (congrArg (Option.map FA) hS)
            refine lv_astoreN (lv' := [(11, .null), (10, .int (nI k)), (7, .int x7), (8, .int x8), (9, .int x9), (6, .ref (FA o)), (5, .int f), (4, .int (nI m)), (3, .int (nI p)), (2, .int (nI c)), (1, .ref (a 6)), (0, .ref (a 0))]) hx hb dX4_sumFails_65 hl (by decide) rfl (fun ls hl => ?_)
            refine lv_aloadN hx hb dX4_sumFails_67 (lv_at hl 0 rfl) ?_
            refine lv_ifnullN (tgt := 103) hx hb dX4_sumFails_69 (by decide) ?_
            refine lv_iinc (v := nI (k + 1)) (lv' := [(10, .int (nI (k + 1))), (11, .null), (7, .int x7), (8, .int x8), (9, .int x9), (6, .ref (FA o)), (5, .int f), (4, .int (nI m)), (3, .int (nI p)), (2, .int (nI c)), (1, .ref (a 6)), (0, .ref (a 0))]) hx hb dX4_sumFails_103 hl (k := 1) rfl (nI_1 k) (by decide) rfl (fun ls hl => ?_)
            refine lv_goto (tgt := 38) hx hb dX4_sumFails_106 (by decide) ?_
            exact ih38 (k + 1)  x7 x8 x9 (by omega) (by omega) (by rw [sumN_s k, hS, e38_7]; first | done | rfl | exact (Int32.add_zero _).symm) (by rw [dbtN_s k, hS, e38_8]; first | done | exact Int32.add_assoc _ _ _ | exact (congrArg (fun z => _ + z) (Int32.add_zero _)).symm) (by rw [cntN_s k, hS, e38_9]; first | done | rfl)  _ (lv_sub hl [0, 2, 3, 4, 5, 6, 7, 8, 9, 10, 11] rfl)
          · skip
            obtain rfl : r_5 = some (FA j) := hr_5.trans (congrArg (Option.map FA) hS)
            have hj : j < nF := by
              by_cases hp : par k = nI c
              · rw [if_pos hp] at hS; exact (sel_lt hS).1
              · rw [if_neg hp] at hS; cases hS
            refine lv_astore (lv' := [(11, .ref (FA j)), (10, .int (nI k)), (7, .int x7), (8, .int x8), (9, .int x9), (6, .ref (FA o)), (5, .int f), (4, .int (nI m)), (3, .int (nI p)), (2, .int (nI c)), (1, .ref (a 6)), (0, .ref (a 0))]) hx hb dX4_sumFails_65 hl (by decide) rfl (fun ls hl => ?_)
            refine lv_aload hx hb dX4_sumFails_67 (lv_at hl 0 rfl) ?_
            refine lv_ifnull hx hb dX4_sumFails_69 ?_
            refine lv_iload hx hb dX4_sumFails_72 (lv_at hl 2 rfl) ?_
            refine lv_aload_n hx hb dX4_sumFails_74 rfl (lv_at hl 11 rfl) ?_
            refine va_get (D := D) (ci := 3) (v := .ref (a 2)) (C := RX4) (T := TX4) (N := 11) hx hb hts win_X4 hown hK hP (0) (rfl) rfl 1 (by decide) w_5 (fun _ h9 => h9) rfl dX4_sumFails_75 ?_
            refine lv_iload hx hb dX4_sumFails_78 (lv_at hl 1 rfl) ?_
            refine g_iald hx hb hK hP (2) 0 (n := 12) (f := wt) (rfl) rfl k rfl (by omega) (by decide) dX4_sumFails_80 ?_
            refine lv_aload hx hb dX4_sumFails_81 (lv_at hl 0 rfl) ?_
            refine va_get (D := D) (ci := 0) (v := .int (cv j)) (C := RX0) (T := TX0) (N := 5) hx hb hts win_X0 hown hK hP (11 + j) (WDF_at (by omega)) rfl 2 (by decide) w_4 (fun _ h9 => h9) rfl dX4_sumFails_83 ?_
            refine lv_imul hx hb dX4_sumFails_86 ?_
            refine lv_iadd hx hb dX4_sumFails_87 ?_
            refine lv_istore (lv' := [(7, .int (x7 + ((wt k) * (cv j)))), (11, .ref (FA j)), (10, .int (nI k)), (8, .int x8), (9, .int x9), (6, .ref (FA o)), (5, .int f), (4, .int (nI m)), (3, .int (nI p)), (2, .int (nI c)), (1, .ref (a 6)), (0, .ref (a 0))]) hx hb dX4_sumFails_88 hl (by decide) rfl (fun ls hl => ?_)
            refine lv_iload hx hb dX4_sumFails_90 (lv_at hl 3 rfl) ?_
            refine lv_aload hx hb dX4_sumFails_92 (lv_at hl 1 rfl) ?_
            refine va_get (D := D) (ci := 0) (v := .int (nI (10 ^ cd j))) (C := RX0) (T := TX0) (N := 5) hx hb hts win_X0 hown hK hP (11 + j) (WDF_at (by omega)) rfl 3 (by decide) w_0 (fun _ h9 => h9) rfl dX4_sumFails_94 ?_
            refine lv_iadd hx hb dX4_sumFails_97 ?_
            refine lv_istore (lv' := [(8, .int (x8 + (nI (10 ^ cd j)))), (7, .int (x7 + ((wt k) * (cv j)))), (11, .ref (FA j)), (10, .int (nI k)), (9, .int x9), (6, .ref (FA o)), (5, .int f), (4, .int (nI m)), (3, .int (nI p)), (2, .int (nI c)), (1, .ref (a 6)), (0, .ref (a 0))]) hx hb dX4_sumFails_98 hl (by decide) rfl (fun ls hl => ?_)
            refine lv_iconst (v := 1) hx hb dX4_sumFails_100 (by decide) ?_
            refine lv_istore (lv' := [(9, .int 1), (8, .int (x8 + (nI (10 ^ cd j)))), (7, .int (x7 + ((wt k) * (cv j)))), (11, .ref (FA j)), (10, .int (nI k)), (6, .ref (FA o)), (5, .int f), (4, .int (nI m)), (3, .int (nI p)), (2, .int (nI c)), (1, .ref (a 6)), (0, .ref (a 0))]) hx hb dX4_sumFails_101 hl (by decide) rfl (fun ls hl => ?_)
            refine lv_iinc (v := nI (k + 1)) (lv' := [(10, .int (nI (k + 1))), (9, .int 1), (8, .int (x8 + (nI (10 ^ cd j)))), (7, .int (x7 + ((wt k) * (cv j)))), (11, .ref (FA j)), (6, .ref (FA o)), (5, .int f), (4, .int (nI m)), (3, .int (nI p)), (2, .int (nI c)), (1, .ref (a 6)), (0, .ref (a 0))]) hx hb dX4_sumFails_103 hl (k := 4) rfl (nI_1 k) (by decide) rfl (fun ls hl => ?_)
            refine lv_goto (tgt := 38) hx hb dX4_sumFails_106 (by decide) ?_
            exact ih38 (k + 1)  (x7 + ((wt k) * (cv j))) (x8 + (nI (10 ^ cd j))) 1 (by omega) (by omega) (by rw [sumN_s k, hS, e38_7]; first | done | rfl | exact (Int32.add_zero _).symm) (by rw [dbtN_s k, hS, e38_8]; first | done | exact Int32.add_assoc _ _ _ | exact (congrArg (fun z => _ + z) (Int32.add_zero _)).symm) (bI_t (by rw [cntN_s k, hS]; show 0 < _ + 1; omega))  _ (lv_sub hl [0, 3, 2, 1, 5, 6, 7, 8, 9, 10, 11] rfl)
    exact lp38 (nC + 1) 0  0 (nI (10 ^ cd o)) 0 (by omega) (by omega) rfl (Int32.add_zero _).symm (bI_f (by show ¬ 0 < 0; omega))  _ (lv_sub hl [0, 3, 2, 1, 4, 10, 9, 8, 7, 6, 5] rfl)
set_option maxHeartbeats 4000000 in
set_option maxRecDepth 100000 in
/-- members are off -/
theorem c4_membersFail_K (l : Launch) (D : va_G) (cI cZ cO cL : ClassId) (dt : Nat) (A : Nat → Prop) (a FA : Nat → Nat) (nC nR nL nF : Nat) (par wt stk flw : Nat → Int32) (hd : Nat → Option Nat) (rea sig : Nat → Int32) (ck cf cd : Nat → Nat) (cv : Nat → Int32) (nx : Nat → Option Nat) (R : va_W) (c p : Nat) (f : Int32) (hF : nF ≤ 80) (hC12 : nC ≤ 12) (hck : ∀ k, ck k < 480) (hcf : ∀ k, cf k < 2 ^ 31) (hcd : ∀ k, cd k ≤ 4) (hcv : ∀ k, vOk (cv k)) (hwt : ∀ k, wOk (wt k)) (hCh : chOk ck cf cd hd nx nF) (hc : c < nC) (hp : p < 10) : Met l yX4_membersFail wsX4_membersFail ({ frames := 2, cells := 0, slots := 0, locals := 62 } : Room) (gP D cI cZ cO cL dt A [.ref (a 6), .int (nI c), .int (nI p), .int f] (fun H => va_P D vwCl (WD cI cO a FA nC nR nL nF par wt stk flw hd rea sig ++ (WF FA ck cf cd cv nx nF ++ R)) H)) (vp_Si (fun r => r = bI (memOff (fun q => hC ck cf cd nF (nI (c * 40 + p * 4 + q)) f) cd cv = true))) 0 0 (fun _ => False) := by
  refine Met.ofW (cc := cX4_membersFail) (maxL := 9) (ret := (some .boolean)) (by decide) rfl ?_
  intro p9 e9 s m9 args below meth c9 s₁ B hml hv
  obtain ⟨rfl, hg, hP⟩ := hv
  have hx := B.exec
  have hb := B.bytes
  have hr := B.returns
  have hts := atoms_spec (ws := wsX4_membersFail) B.pre
  have hown : s.vm.findClass RX4 = some m9.cls := findClass_of_methodNamed B.named
  have hlocks := B.notSynchronized
  have hK := hg.1
  have w_0 := hts (.fieldLink RX4 138 "Dimfacts$Fact" "doubt" "I") (by decide +kernel)
  have win_X0 : ∀ w ∈ wsX00, w ∈ wsX4_membersFail := by decide +kernel
  have w_2 := hts (.fieldLink RX4 135 "Dimfacts$Fact" "value" "I") (by decide +kernel)
  have hl := lv_entry ([.ref (a 6), .int (nI c), .int (nI p), .int f]) (n := 9) (Nat.le_of_ble_eq_true rfl)
  rw [lg_entry_eq]
  generalize (lg_sl ([.ref (a 6), .int (nI c), .int (nI p), .int f]) ++ List.replicate (9 - (lg_sl ([.ref (a 6), .int (nI c), .int (nI p), .int f])).length) Slot.unset).toArray = ls at hl ⊢
  have hl : lv_has ls 9 [(0, .ref (a 6)), (1, .int (nI c)), (2, .int (nI p)), (3, .int f)] := hl
  refine lv_aload_n hx hb dX4_membersFail_0 rfl (lv_at hl 0 rfl) ?_
  refine lv_iload_n hx hb dX4_membersFail_1 rfl (lv_at hl 1 rfl) ?_
  refine lv_iload_n hx hb dX4_membersFail_2 rfl (lv_at hl 2 rfl) ?_
  refine lv_iconst (v := 0) hx hb dX4_membersFail_3 (by decide) ?_
  refine g_csi (va_runS (As := [.int (nI c), .int (nI p), .int 0]) (rest := [.ref (a 6)]) ⟨hx, hb, hml, hown, hts⟩ (c4_keyOf l D cI cZ cO cL dt A c p 0 (WD cI cO a FA nC nR nL nF par wt stk flw hd rea sig ++ (WF FA ck cf cd cv nx nF ++ R))) (va_cwS 3 hts gX4_membersFail_X4_keyOf rfl rfl rfl (by decide +kernel) ⟨Nat.le_of_ble_eq_true rfl, Nat.le_of_ble_eq_true rfl⟩) (gP.s hg hP) rfl rfl hl.1 rfl (lv_room (Nat.le_of_ble_eq_true rfl)) dX4_membersFail_4 ⟨Nat.le_of_ble_eq_true rfl, Nat.le_of_ble_eq_true rfl⟩) (fun r_1 hr_1 => ?_)
  obtain rfl : r_1 = nI (c * 40 + p * 4 + 0) := hr_1
  refine lv_iload_n hx hb dX4_membersFail_7 rfl (lv_at hl 3 rfl) ?_
  refine g_csq (va_runU (As := [.int (nI (c * 40 + p * 4 + 0)), .int f]) (rest := []) ⟨hx, hb, hml, hown, hts⟩ (c2_holding l D cI cZ cO cL dt A a FA nC nR nL nF par wt stk flw hd rea sig ck cf cd cv nx R (c * 40 + p * 4 + 0) f (by omega) hck hCh) (va_cwA 2 hts gX4_membersFail_X2_holding_u196X2 rfl rfl rfl hg.2.1.2.2.2.2.2.1 (by decide +kernel) ⟨Nat.le_of_ble_eq_true rfl, Nat.le_of_ble_eq_true rfl⟩) (gP.v hg hP 1 rfl (6) (rfl) hP) rfl rfl hl.1 rfl (lv_room (Nat.le_of_ble_eq_true rfl)) dX4_membersFail_8 ⟨Nat.le_of_ble_eq_true rfl, Nat.le_of_ble_eq_true rfl⟩) (fun r_2 hr_2 => ?_)
  obtain ⟨o_r_2, hO⟩ : ∃ z, hC ck cf cd nF (nI (c * 40 + p * 4 + 0)) f = z := ⟨_, rfl⟩
  rcases o_r_2 with _ | o
  · skip
    obtain rfl : r_2 = none := hr_2.trans (congrArg (Option.map FA) hO)
    refine lv_astoreN (lv' := [(4, .null), (0, .ref (a 6)), (1, .int (nI c)), (2, .int (nI p)), (3, .int f)]) hx hb dX4_membersFail_11 hl (by decide) rfl (fun ls hl => ?_)
    refine lv_aloadN hx hb dX4_membersFail_13 (lv_at hl 0 rfl) ?_
    refine lv_ifnonnullN hx hb dX4_membersFail_15 ?_
    refine lv_iconst (v := 0) hx hb dX4_membersFail_18 (by decide) ?_
    exact W.zret (v := 0) hx hb hr (rfl) (fun t ht hW => ⟨0, rfl, (bI_f (by unfold memOff; rw [show (fun q => hC ck cf cd nF (nI (c * 40 + p * 4 + q)) f) 0 = none from hO]; simp)), ht⟩) (fun q h => nomatch h) dX4_membersFail_19
  · skip
    obtain rfl : r_2 = some (FA o) := hr_2.trans (congrArg (Option.map FA) hO)
    have ho := (sel_lt hO).1
    refine lv_astore (lv' := [(4, .ref (FA o)), (0, .ref (a 6)), (1, .int (nI c)), (2, .int (nI p)), (3, .int f)]) hx hb dX4_membersFail_11 hl (by decide) rfl (fun ls hl => ?_)
    refine lv_aload hx hb dX4_membersFail_13 (lv_at hl 0 rfl) ?_
    refine lv_ifnonnull (tgt := 20) hx hb dX4_membersFail_15 (by decide) ?_
    refine lv_iconst (v := 0) hx hb dX4_membersFail_20 (by decide) ?_
    refine lv_istore (lv' := [(5, .int 0), (4, .ref (FA o)), (0, .ref (a 6)), (1, .int (nI c)), (2, .int (nI p)), (3, .int f)]) hx hb dX4_membersFail_21 hl (by decide) rfl (fun ls hl => ?_)
    refine lv_aload hx hb dX4_membersFail_23 (lv_at hl 1 rfl) ?_
    refine va_get (D := D) (ci := 0) (v := .int (nI (10 ^ cd o))) (C := RX0) (T := TX0) (N := 5) hx hb hts win_X0 hown hK hP (11 + o) (WDF_at (by omega)) rfl 3 (by decide) w_0 (fun _ h9 => h9) rfl dX4_membersFail_25 ?_
    refine lv_istore (lv' := [(6, .int (nI (10 ^ cd o))), (5, .int 0), (4, .ref (FA o)), (0, .ref (a 6)), (1, .int (nI c)), (2, .int (nI p)), (3, .int f)]) hx hb dX4_membersFail_28 hl (by decide) rfl (fun ls hl => ?_)
    refine lv_iconst (v := 1) hx hb dX4_membersFail_30 (by decide) ?_
    refine lv_istore (lv' := [(7, .int 1), (6, .int (nI (10 ^ cd o))), (5, .int 0), (4, .ref (FA o)), (0, .ref (a 6)), (1, .int (nI c)), (2, .int (nI p)), (3, .int f)]) hx hb dX4_membersFail_31 hl (by decide) rfl (fun ls hl => ?_)
    have lp33 : ∀ (n33 k : Nat)  (x5 : Int32) (x6 : Int32), 4 < k + n33 → k ≤ 4 → x5 = mSum (fun q => hC ck cf cd nF (nI (c * 40 + p * 4 + q)) f) cv k → x6 = mDbt (fun q => hC ck cf cd nF (nI (c * 40 + p * 4 + q)) f) cd k → mAll (fun q => hC ck cf cd nF (nI (c * 40 + p * 4 + q)) f) k = true → 1 ≤ k → ∀ ls : Array Slot, lv_has ls 9 [(7, .int (nI k)), (5, .int x5), (6, .int x6), (4, .ref (FA o)), (3, .int f), (2, .int (nI p)), (1, .int (nI c)), (0, .ref (a 6))] → W p9 l e9 (headSpec wsX4_membersFail ({ frames := 2, cells := 0, slots := 0, locals := 62 } : Room)).room s m9 ([.ref (a 6), .int (nI c), .int (nI p), .int f] : List Value).toArray below meth c9 s.heap [] 0 0 (MQ below (vp_Si (fun r => r = bI (memOff (fun q => hC ck cf cd nF (nI (c * 40 + p * 4 + q)) f) cd cv = true))) ([.ref (a 6), .int (nI c), .int (nI p), .int f] : List Value).toArray s 0 0 (fun _ => False)) (F0 m9 33 ls []) := by
      intro n33
      induction n33 with
      | zero => intro k  x5 x6 h1 h2; exact absurd h1 (by omega)
      | succ n33 ih33 =>
        intro k  x5 x6 hn33 hk33 e33_5 e33_6 v33_0 v33_1 ls hl
        refine lv_iload hx hb dX4_membersFail_33 (lv_at hl 0 rfl) ?_
        refine lv_iconst (v := 4) hx hb dX4_membersFail_35 (by decide) ?_
        refine lv_icmp_ge (tgt := 86) hx hb dX4_membersFail_36 (by decide) (fun c_36 => ?_) (fun c_36 => ?_)
        · skip
          have hkF : k = 4 := by have := (nI_leI (a := 4) (b := k) (by omega) (by omega)).mp c_36; omega
          rw [hkF] at e33_5
          rw [hkF] at e33_6
          rw [hkF] at v33_0
          rw [hkF] at v33_1
          refine lv_aload hx hb dX4_membersFail_86 (lv_at hl 3 rfl) ?_
          refine va_get (D := D) (ci := 0) (v := .int (cv o)) (C := RX0) (T := TX0) (N := 5) hx hb hts win_X0 hown hK hP (11 + o) (WDF_at (by omega)) rfl 2 (by decide) w_2 (fun _ h9 => h9) rfl dX4_membersFail_88 ?_
          refine lv_iload hx hb dX4_membersFail_91 (lv_at hl 1 rfl) ?_
          refine lv_iload hx hb dX4_membersFail_93 (lv_at hl 2 rfl) ?_
          refine g_csi (va_runS (As := [.int (cv o), .int x5, .int x6]) (rest := []) ⟨hx, hb, hml, hown, hts⟩ (c4_isApart l D cI cZ cO cL dt A (cv o) x5 x6 (WD cI cO a FA nC nR nL nF par wt stk flw hd rea sig ++ (WF FA ck cf cd cv nx nF ++ R)) ((hcv o).small) (by rw [e33_5]; exact mSum_small hcv (by omega))) (va_cwS 3 hts gX4_membersFail_X4_isApart rfl rfl rfl (by decide +kernel) ⟨Nat.le_of_ble_eq_true rfl, Nat.le_of_ble_eq_true rfl⟩) (gP.s hg hP) rfl rfl hl.1 rfl (lv_room (Nat.le_of_ble_eq_true rfl)) dX4_membersFail_95 ⟨Nat.le_of_ble_eq_true rfl, Nat.le_of_ble_eq_true rfl⟩) (fun r_3 hr_3 => ?_)
          obtain rfl : r_3 = bI (x6 < 2 * farI (cv o) x5) := hr_3
          exact W.zret (v := bI (x6 < 2 * farI (cv o) x5)) hx hb hr (bI_nr _) (fun t ht hW => ⟨bI (x6 < 2 * farI (cv o) x5), rfl, (bI_congr (by unfold memOff; rw [show (fun q => hC ck cf cd nF (nI (c * 40 + p * 4 + q)) f) 0 = some o from hO]; simp only [Bool.and_eq_true, decide_eq_true_eq]; rw [← e33_5, ← e33_6]; exact ⟨fun q => ⟨v33_0, q⟩, fun q => q.2⟩)), ht⟩) (fun q h => nomatch h) dX4_membersFail_98
        · skip
          have hkF : k < 4 := by have := mt (nI_leI (a := 4) (b := k) (by omega) (by omega)).mpr c_36; omega
          refine lv_aload_n hx hb dX4_membersFail_39 rfl (lv_at hl 7 rfl) ?_
          refine lv_iload_n hx hb dX4_membersFail_40 rfl (lv_at hl 6 rfl) ?_
          refine lv_iload_n hx hb dX4_membersFail_41 rfl (lv_at hl 5 rfl) ?_
          refine lv_iload hx hb dX4_membersFail_42 (lv_at hl 0 rfl) ?_
          refine g_csi (va_runS (As := [.int (nI c), .int (nI p), .int (nI k)]) (rest := [.ref (a 6)]) ⟨hx, hb, hml, hown, hts⟩ (c4_keyOf l D cI cZ cO cL dt A c p k (WD cI cO a FA nC nR nL nF par wt stk flw hd rea sig ++ (WF FA ck cf cd cv nx nF ++ R))) (va_cwS 3 hts gX4_membersFail_X4_keyOf rfl rfl rfl (by decide +kernel) ⟨Nat.le_of_ble_eq_true rfl, Nat.le_of_ble_eq_true rfl⟩) (gP.s hg hP) rfl rfl hl.1 rfl (lv_room (Nat.le_of_ble_eq_true rfl)) dX4_membersFail_44 ⟨Nat.le_of_ble_eq_true rfl, Nat.le_of_ble_eq_true rfl⟩) (fun r_4 hr_4 => ?_)
          obtain rfl : r_4 = nI (c * 40 + p * 4 + k) := hr_4
          refine lv_iload_n hx hb dX4_membersFail_47 rfl (lv_at hl 4 rfl) ?_
          refine g_csq (va_runU (As := [.int (nI (c * 40 + p * 4 + k)), .int f]) (rest := []) ⟨hx, hb, hml, hown, hts⟩ (c2_holding l D cI cZ cO cL dt A a FA nC nR nL nF par wt stk flw hd rea sig ck cf cd cv nx R (c * 40 + p * 4 + k) f (by omega) hck hCh) (va_cwA 2 hts gX4_membersFail_X2_holding_u196X2 rfl rfl rfl hg.2.1.2.2.2.2.2.1 (by decide +kernel) ⟨Nat.le_of_ble_eq_true rfl, Nat.le_of_ble_eq_true rfl⟩) (gP.v hg hP 1 rfl (6) (rfl) hP) rfl rfl hl.1 rfl (lv_room (Nat.le_of_ble_eq_true rfl)) dX4_membersFail_48 ⟨Nat.le_of_ble_eq_true rfl, Nat.le_of_ble_eq_true rfl⟩) (fun r_5 hr_5 => ?_)
          obtain ⟨o_r_5, hS⟩ : ∃ z, hC ck cf cd nF (nI (c * 40 + p * 4 + k)) f = z := ⟨_, rfl⟩
          rcases o_r_5 with _ | j
          · skip
            obtain rfl : r_5 = none := hr_5.trans (congrArg (Option.map FA) hS)
            refine lv_astoreN (lv' := [(8, .null), (7, .int (nI k)), (5, .int x5), (6, .int x6), (4, .ref (FA o)), (3, .int f), (2, .int (nI p)), (1, .int (nI c)), (0, .ref (a 6))]) hx hb dX4_membersFail_51 hl (by decide) rfl (fun ls hl => ?_)
            refine lv_aloadN hx hb dX4_membersFail_53 (lv_at hl 0 rfl) ?_
            refine lv_ifnonnullN hx hb dX4_membersFail_55 ?_
            refine lv_iconst (v := 0) hx hb dX4_membersFail_58 (by decide) ?_
            exact W.zret (v := 0) hx hb hr (rfl) (fun t ht hW => ⟨0, rfl, (bI_f (by unfold memOff; rw [show (fun q => hC ck cf cd nF (nI (c * 40 + p * 4 + q)) f) 0 = some o from hO]; simp only [Bool.and_eq_true]; intro q; have := mAll_at (k := k) q.1 (by omega); rw [hS] at this; cases this)), ht⟩) (fun q h => nomatch h) dX4_membersFail_59
          · skip
            obtain rfl : r_5 = some (FA j) := hr_5.trans (congrArg (Option.map FA) hS)
            have hj := (sel_lt hS).1
            refine lv_astore (lv' := [(8, .ref (FA j)), (7, .int (nI k)), (5, .int x5), (6, .int x6), (4, .ref (FA o)), (3, .int f), (2, .int (nI p)), (1, .int (nI c)), (0, .ref (a 6))]) hx hb dX4_membersFail_51 hl (by decide) rfl (fun ls hl => ?_)
            refine lv_aload hx hb dX4_membersFail_53 (lv_at hl 0 rfl) ?_
            refine lv_ifnonnull (tgt := 60) hx hb dX4_membersFail_55 (by decide) ?_
            refine lv_iload hx hb dX4_membersFail_60 (lv_at hl 2 rfl) ?_
            refine lv_aload hx hb dX4_membersFail_62 (lv_at hl 0 rfl) ?_
            refine va_get (D := D) (ci := 0) (v := .int (cv j)) (C := RX0) (T := TX0) (N := 5) hx hb hts win_X0 hown hK hP (11 + j) (WDF_at (by omega)) rfl 2 (by decide) w_2 (fun _ h9 => h9) rfl dX4_membersFail_64 ?_
            refine lv_iadd hx hb dX4_membersFail_67 ?_
            refine lv_istore (lv' := [(5, .int (x5 + (cv j))), (8, .ref (FA j)), (7, .int (nI k)), (6, .int x6), (4, .ref (FA o)), (3, .int f), (2, .int (nI p)), (1, .int (nI c)), (0, .ref (a 6))]) hx hb dX4_membersFail_68 hl (by decide) rfl (fun ls hl => ?_)
            refine lv_iload hx hb dX4_membersFail_70 (lv_at hl 3 rfl) ?_
            refine lv_aload hx hb dX4_membersFail_72 (lv_at hl 1 rfl) ?_
            refine va_get (D := D) (ci := 0) (v := .int (nI (10 ^ cd j))) (C := RX0) (T := TX0) (N := 5) hx hb hts win_X0 hown hK hP (11 + j) (WDF_at (by omega)) rfl 3 (by decide) w_0 (fun _ h9 => h9) rfl dX4_membersFail_74 ?_
            refine lv_iadd hx hb dX4_membersFail_77 ?_
            refine lv_istore (lv' := [(6, .int (x6 + (nI (10 ^ cd j)))), (5, .int (x5 + (cv j))), (8, .ref (FA j)), (7, .int (nI k)), (4, .ref (FA o)), (3, .int f), (2, .int (nI p)), (1, .int (nI c)), (0, .ref (a 6))]) hx hb dX4_membersFail_78 hl (by decide) rfl (fun ls hl => ?_)
            refine lv_iinc (v := nI (k + 1)) (lv' := [(7, .int (nI (k + 1))), (6, .int (x6 + (nI (10 ^ cd j)))), (5, .int (x5 + (cv j))), (8, .ref (FA j)), (4, .ref (FA o)), (3, .int f), (2, .int (nI p)), (1, .int (nI c)), (0, .ref (a 6))]) hx hb dX4_membersFail_80 hl (k := 3) rfl (nI_1 k) (by decide) rfl (fun ls hl => ?_)
            refine lv_goto (tgt := 33) hx hb dX4_membersFail_83 (by decide) ?_
            exact ih33 (k + 1)  (x5 + (cv j)) (x6 + (nI (10 ^ cd j))) (by omega) (by omega) (by show _ = mSum (fun q => hC ck cf cd nF (nI (c * 40 + p * 4 + q)) f) cv k + (if k = 0 then 0 else (match (fun q => hC ck cf cd nF (nI (c * 40 + p * 4 + q)) f) k with | none => 0 | some j => cv j)); rw [if_neg (by omega), show (fun q => hC ck cf cd nF (nI (c * 40 + p * 4 + q)) f) k = some j from hS, e33_5]) (by show _ = mDbt (fun q => hC ck cf cd nF (nI (c * 40 + p * 4 + q)) f) cd k + (match (fun q => hC ck cf cd nF (nI (c * 40 + p * 4 + q)) f) k with | none => 0 | some j => nI (10 ^ cd j)); rw [show (fun q => hC ck cf cd nF (nI (c * 40 + p * 4 + q)) f) k = some j from hS, e33_6]) (by show (mAll (fun q => hC ck cf cd nF (nI (c * 40 + p * 4 + q)) f) k && ((fun q => hC ck cf cd nF (nI (c * 40 + p * 4 + q)) f) k).isSome) = true; rw [v33_0, show (fun q => hC ck cf cd nF (nI (c * 40 + p * 4 + q)) f) k = some j from hS]; rfl) (by omega) _ (lv_sub hl [0, 2, 1, 4, 5, 6, 7, 8] rfl)
    exact lp33 (4 + 1) 1  0 (nI (10 ^ cd o)) (by omega) (by omega) (by show _ = (0 : Int32) + 0; rfl) (by show _ = (0 : Int32) + (match (fun q => hC ck cf cd nF (nI (c * 40 + p * 4 + q)) f) 0 with | none => 0 | some j => nI (10 ^ cd j)); rw [show (fun q => hC ck cf cd nF (nI (c * 40 + p * 4 + q)) f) 0 = some o from hO]; exact (Int32.zero_add _).symm) (by show (true && ((fun q => hC ck cf cd nF (nI (c * 40 + p * 4 + q)) f) 0).isSome) = true; rw [show (fun q => hC ck cf cd nF (nI (c * 40 + p * 4 + q)) f) 0 = some o from hO]; rfl) (by omega) _ (lv_sub hl [0, 2, 1, 3, 7, 6, 5, 4] rfl)
set_option maxHeartbeats 4000000 in
set_option maxRecDepth 100000 in
/-- a stock does not roll forward -/
theorem c4_rollFails_K (l : Launch) (D : va_G) (cI cZ cO cL : ClassId) (dt : Nat) (A : Nat → Prop) (a FA : Nat → Nat) (nC nR nL nF : Nat) (par wt stk flw : Nat → Int32) (hd : Nat → Option Nat) (rea sig : Nat → Int32) (ck cf cd : Nat → Nat) (cv : Nat → Int32) (nx : Nat → Option Nat) (R : va_W) (r x y p m : Nat) (f : Int32) (hF : nF ≤ 80) (hC12 : nC ≤ 12) (hck : ∀ k, ck k < 480) (hcf : ∀ k, cf k < 2 ^ 31) (hcd : ∀ k, cd k ≤ 4) (hcv : ∀ k, vOk (cv k)) (hwt : ∀ k, wOk (wt k)) (hCh : chOk ck cf cd hd nx nF) (hr : r < 5) (hsx : stk r = nI x) (hty : flw r = nI y) (hx12 : x < 12) (hy12 : y < 12) (hp : p < 10) (hm : m < 4) : Met l yX4_rollFails wsX4_rollFails ({ frames := 2, cells := 0, slots := 0, locals := 62 } : Room) (gP D cI cZ cO cL dt A [.ref (a 0), .ref (a 6), .int (nI r), .int (nI p), .int (nI m), .int f] (fun H => va_P D vwCl (WD cI cO a FA nC nR nL nF par wt stk flw hd rea sig ++ (WF FA ck cf cd cv nx nF ++ R)) H)) (vp_Si (fun z => z = bI (rollOff (nI p) (hC ck cf cd nF (nI (x * 40 + p * 4 + m)) f) (hC ck cf cd nF (nI (x * 40 + (p - 1) * 4 + m)) f) (hC ck cf cd nF (nI (y * 40 + p * 4 + m)) f) cd cv = true))) 0 0 (fun _ => False) := by
  refine Met.ofW (cc := cX4_rollFails) (maxL := 9) (ret := (some .boolean)) (by decide) rfl ?_
  intro p9 e9 s m9 args below meth c9 s₁ B hml hv
  obtain ⟨rfl, hg, hP⟩ := hv
  have hx := B.exec
  have hb := B.bytes
  have hr := B.returns
  have hts := atoms_spec (ws := wsX4_rollFails) B.pre
  have hown : s.vm.findClass RX4 = some m9.cls := findClass_of_methodNamed B.named
  have hlocks := B.notSynchronized
  have hK := hg.1
  have w_0 := hts (.fieldLink RX4 16 "Dimfacts" "stocks" "[I") (by decide +kernel)
  have win_X4 : ∀ w ∈ wsX40, w ∈ wsX4_rollFails := by decide +kernel
  have w_2 := hts (.fieldLink RX4 19 "Dimfacts" "flows" "[I") (by decide +kernel)
  have w_3 := hts (.fieldLink RX4 135 "Dimfacts$Fact" "value" "I") (by decide +kernel)
  have win_X0 : ∀ w ∈ wsX00, w ∈ wsX4_rollFails := by decide +kernel
  have w_5 := hts (.fieldLink RX4 138 "Dimfacts$Fact" "doubt" "I") (by decide +kernel)
  have hl := lv_entry ([.ref (a 0), .ref (a 6), .int (nI r), .int (nI p), .int (nI m), .int f]) (n := 9) (Nat.le_of_ble_eq_true rfl)
  rw [lg_entry_eq]
  generalize (lg_sl ([.ref (a 0), .ref (a 6), .int (nI r), .int (nI p), .int (nI m), .int f]) ++ List.replicate (9 - (lg_sl ([.ref (a 0), .ref (a 6), .int (nI r), .int (nI p), .int (nI m), .int f])).length) Slot.unset).toArray = ls at hl ⊢
  have hl : lv_has ls 9 [(0, .ref (a 0)), (1, .ref (a 6)), (2, .int (nI r)), (3, .int (nI p)), (4, .int (nI m)), (5, .int f)] := hl
  refine lv_iload_n hx hb dX4_rollFails_0 rfl (lv_at hl 3 rfl) ?_
  refine lv_if_ne (tgt := 6) hx hb dX4_rollFails_1 (by decide) (fun c_1 => ?_) (fun c_1 => ?_)
  · skip
    have hp0 : 0 < p := by
      rcases Nat.eq_zero_or_pos p with q | q
      · exact absurd (by rw [q]; rfl) c_1
      · exact q
    refine lv_aload_n hx hb dX4_rollFails_6 rfl (lv_at hl 1 rfl) ?_
    refine lv_aload_n hx hb dX4_rollFails_7 rfl (lv_at hl 0 rfl) ?_
    refine va_get (D := D) (ci := 3) (v := .ref (a 3)) (C := RX4) (T := TX4) (N := 11) hx hb hts win_X4 hown hK hP (0) (rfl) rfl 3 (by decide) w_0 (fun _ h9 => h9) rfl dX4_rollFails_8 ?_
    refine lv_iload_n hx hb dX4_rollFails_11 rfl (lv_at hl 2 rfl) ?_
    refine g_iald hx hb hK hP (3) 0 (n := 5) (f := stk) (rfl) rfl r rfl (by omega) (by decide) dX4_rollFails_12 ?_
    refine lv_topi (fun dv edv => ?_)
    obtain rfl : dv = nI x := by rw [edv]; exact hsx
    refine lv_iload_n hx hb dX4_rollFails_13 rfl (lv_at hl 3 rfl) ?_
    refine lv_iload hx hb dX4_rollFails_14 (lv_at hl 4 rfl) ?_
    refine g_csi (va_runS (As := [.int (nI x), .int (nI p), .int (nI m)]) (rest := [.ref (a 6)]) ⟨hx, hb, hml, hown, hts⟩ (c4_keyOf l D cI cZ cO cL dt A x p m (WD cI cO a FA nC nR nL nF par wt stk flw hd rea sig ++ (WF FA ck cf cd cv nx nF ++ R))) (va_cwS 3 hts gX4_rollFails_X4_keyOf rfl rfl rfl (by decide +kernel) ⟨Nat.le_of_ble_eq_true rfl, Nat.le_of_ble_eq_true rfl⟩) (gP.s hg hP) rfl rfl hl.1 rfl (lv_room (Nat.le_of_ble_eq_true rfl)) dX4_rollFails_16 ⟨Nat.le_of_ble_eq_true rfl, Nat.le_of_ble_eq_true rfl⟩) (fun r_1 hr_1 => ?_)
    obtain rfl : r_1 = nI (x * 40 + p * 4 + m) := hr_1
    refine lv_iload hx hb dX4_rollFails_19 (lv_at hl 5 rfl) ?_
    refine g_csq (va_runU (As := [.int (nI (x * 40 + p * 4 + m)), .int f]) (rest := []) ⟨hx, hb, hml, hown, hts⟩ (c2_holding l D cI cZ cO cL dt A a FA nC nR nL nF par wt stk flw hd rea sig ck cf cd cv nx R (x * 40 + p * 4 + m) f (by omega) hck hCh) (va_cwA 2 hts gX4_rollFails_X2_holding_u196X2 rfl rfl rfl hg.2.1.2.2.2.2.2.1 (by decide +kernel) ⟨Nat.le_of_ble_eq_true rfl, Nat.le_of_ble_eq_true rfl⟩) (gP.v hg hP 1 rfl (6) (rfl) hP) rfl rfl hl.1 rfl (lv_room (Nat.le_of_ble_eq_true rfl)) dX4_rollFails_21 ⟨Nat.le_of_ble_eq_true rfl, Nat.le_of_ble_eq_true rfl⟩) (fun r_2 hr_2 => ?_)
    obtain ⟨o_r_2, hA⟩ : ∃ z, hC ck cf cd nF (nI (x * 40 + p * 4 + m)) f = z := ⟨_, rfl⟩
    rcases o_r_2 with _ | ja
    · skip
      obtain rfl : r_2 = none := hr_2.trans (congrArg (Option.map FA) hA)
      refine lv_astoreN (lv' := [(6, .null), (0, .ref (a 0)), (1, .ref (a 6)), (2, .int (nI r)), (3, .int (nI p)), (4, .int (nI m)), (5, .int f)]) hx hb dX4_rollFails_24 hl (by decide) rfl (fun ls hl => ?_)
      refine lv_aload_n hx hb dX4_rollFails_26 rfl (lv_at hl 2 rfl) ?_
      refine lv_aload_n hx hb dX4_rollFails_27 rfl (lv_at hl 1 rfl) ?_
      refine va_get (D := D) (ci := 3) (v := .ref (a 3)) (C := RX4) (T := TX4) (N := 11) hx hb hts win_X4 hown hK hP (0) (rfl) rfl 3 (by decide) w_0 (fun _ h9 => h9) rfl dX4_rollFails_28 ?_
      refine lv_iload_n hx hb dX4_rollFails_31 rfl (lv_at hl 3 rfl) ?_
      refine g_iald hx hb hK hP (3) 0 (n := 5) (f := stk) (rfl) rfl r rfl (by omega) (by decide) dX4_rollFails_32 ?_
      refine lv_topi (fun dv edv => ?_)
      obtain rfl : dv = nI x := by rw [edv]; exact hsx
      refine lv_iload_n hx hb dX4_rollFails_33 rfl (lv_at hl 4 rfl) ?_
      refine lv_iconst (v := 1) hx hb dX4_rollFails_34 (by decide) ?_
      refine lv_isub hx hb dX4_rollFails_35 ?_
      refine lv_topi (fun dv edv => ?_)
      obtain rfl : dv = nI (p - 1) := by rw [edv]; exact nI_sub1 hp0
      refine lv_iload hx hb dX4_rollFails_36 (lv_at hl 5 rfl) ?_
      refine g_csi (va_runS (As := [.int (nI x), .int (nI (p - 1)), .int (nI m)]) (rest := [.ref (a 6)]) ⟨hx, hb, hml, hown, hts⟩ (c4_keyOf l D cI cZ cO cL dt A x (p - 1) m (WD cI cO a FA nC nR nL nF par wt stk flw hd rea sig ++ (WF FA ck cf cd cv nx nF ++ R))) (va_cwS 3 hts gX4_rollFails_X4_keyOf rfl rfl rfl (by decide +kernel) ⟨Nat.le_of_ble_eq_true rfl, Nat.le_of_ble_eq_true rfl⟩) (gP.s hg hP) rfl rfl hl.1 rfl (lv_room (Nat.le_of_ble_eq_true rfl)) dX4_rollFails_38 ⟨Nat.le_of_ble_eq_true rfl, Nat.le_of_ble_eq_true rfl⟩) (fun r_3 hr_3 => ?_)
      obtain rfl : r_3 = nI (x * 40 + (p - 1) * 4 + m) := hr_3
      refine lv_iload hx hb dX4_rollFails_41 (lv_at hl 6 rfl) ?_
      refine g_csq (va_runU (As := [.int (nI (x * 40 + (p - 1) * 4 + m)), .int f]) (rest := []) ⟨hx, hb, hml, hown, hts⟩ (c2_holding l D cI cZ cO cL dt A a FA nC nR nL nF par wt stk flw hd rea sig ck cf cd cv nx R (x * 40 + (p - 1) * 4 + m) f (by omega) hck hCh) (va_cwA 2 hts gX4_rollFails_X2_holding_u196X2 rfl rfl rfl hg.2.1.2.2.2.2.2.1 (by decide +kernel) ⟨Nat.le_of_ble_eq_true rfl, Nat.le_of_ble_eq_true rfl⟩) (gP.v hg hP 1 rfl (6) (rfl) hP) rfl rfl hl.1 rfl (lv_room (Nat.le_of_ble_eq_true rfl)) dX4_rollFails_43 ⟨Nat.le_of_ble_eq_true rfl, Nat.le_of_ble_eq_true rfl⟩) (fun r_4 hr_4 => ?_)
      obtain ⟨o_r_4, hB⟩ : ∃ z, hC ck cf cd nF (nI (x * 40 + (p - 1) * 4 + m)) f = z := ⟨_, rfl⟩
      rcases o_r_4 with _ | jb
      · skip
        obtain rfl : r_4 = none := hr_4.trans (congrArg (Option.map FA) hB)
        refine lv_astoreN (lv' := [(7, .null), (6, .null), (0, .ref (a 0)), (1, .ref (a 6)), (2, .int (nI r)), (3, .int (nI p)), (4, .int (nI m)), (5, .int f)]) hx hb dX4_rollFails_46 hl (by decide) rfl (fun ls hl => ?_)
        refine lv_aload_n hx hb dX4_rollFails_48 rfl (lv_at hl 3 rfl) ?_
        refine lv_aload_n hx hb dX4_rollFails_49 rfl (lv_at hl 2 rfl) ?_
        refine va_get (D := D) (ci := 3) (v := .ref (a 4)) (C := RX4) (T := TX4) (N := 11) hx hb hts win_X4 hown hK hP (0) (rfl) rfl 4 (by decide) w_2 (fun _ h9 => h9) rfl dX4_rollFails_50 ?_
        refine lv_iload_n hx hb dX4_rollFails_53 rfl (lv_at hl 4 rfl) ?_
        refine g_iald hx hb hK hP (4) 0 (n := 5) (f := flw) (rfl) rfl r rfl (by omega) (by decide) dX4_rollFails_54 ?_
        refine lv_topi (fun dv edv => ?_)
        obtain rfl : dv = nI y := by rw [edv]; exact hty
        refine lv_iload_n hx hb dX4_rollFails_55 rfl (lv_at hl 5 rfl) ?_
        refine lv_iload hx hb dX4_rollFails_56 (lv_at hl 6 rfl) ?_
        refine g_csi (va_runS (As := [.int (nI y), .int (nI p), .int (nI m)]) (rest := [.ref (a 6)]) ⟨hx, hb, hml, hown, hts⟩ (c4_keyOf l D cI cZ cO cL dt A y p m (WD cI cO a FA nC nR nL nF par wt stk flw hd rea sig ++ (WF FA ck cf cd cv nx nF ++ R))) (va_cwS 3 hts gX4_rollFails_X4_keyOf rfl rfl rfl (by decide +kernel) ⟨Nat.le_of_ble_eq_true rfl, Nat.le_of_ble_eq_true rfl⟩) (gP.s hg hP) rfl rfl hl.1 rfl (lv_room (Nat.le_of_ble_eq_true rfl)) dX4_rollFails_58 ⟨Nat.le_of_ble_eq_true rfl, Nat.le_of_ble_eq_true rfl⟩) (fun r_5 hr_5 => ?_)
        obtain rfl : r_5 = nI (y * 40 + p * 4 + m) := hr_5
        refine lv_iload hx hb dX4_rollFails_61 (lv_at hl 7 rfl) ?_
        refine g_csq (va_runU (As := [.int (nI (y * 40 + p * 4 + m)), .int f]) (rest := []) ⟨hx, hb, hml, hown, hts⟩ (c2_holding l D cI cZ cO cL dt A a FA nC nR nL nF par wt stk flw hd rea sig ck cf cd cv nx R (y * 40 + p * 4 + m) f (by omega) hck hCh) (va_cwA 2 hts gX4_rollFails_X2_holding_u196X2 rfl rfl rfl hg.2.1.2.2.2.2.2.1 (by decide +kernel) ⟨Nat.le_of_ble_eq_true rfl, Nat.le_of_ble_eq_true rfl⟩) (gP.v hg hP 1 rfl (6) (rfl) hP) rfl rfl hl.1 rfl (lv_room (Nat.le_of_ble_eq_true rfl)) dX4_rollFails_63 ⟨Nat.le_of_ble_eq_true rfl, Nat.le_of_ble_eq_true rfl⟩) (fun r_6 hr_6 => ?_)
        obtain ⟨o_r_6, hD⟩ : ∃ z, hC ck cf cd nF (nI (y * 40 + p * 4 + m)) f = z := ⟨_, rfl⟩
        rcases o_r_6 with _ | jc
        · skip
          obtain rfl : r_6 = none := hr_6.trans (congrArg (Option.map FA) hD)
          refine lv_astoreN (lv' := [(8, .null), (7, .null), (6, .null), (0, .ref (a 0)), (1, .ref (a 6)), (2, .int (nI r)), (3, .int (nI p)), (4, .int (nI m)), (5, .int f)]) hx hb dX4_rollFails_66 hl (by decide) rfl (fun ls hl => ?_)
          refine lv_aloadN hx hb dX4_rollFails_68 (lv_at hl 2 rfl) ?_
          refine lv_ifnullN (tgt := 83) hx hb dX4_rollFails_70 (by decide) ?_
          refine lv_iconst (v := 0) hx hb dX4_rollFails_83 (by decide) ?_
          exact W.zret (v := 0) hx hb hr (rfl) (fun t ht hW => ⟨0, rfl, (bI_f (by unfold rollOff; rw [hA, hB, hD]; simp)), ht⟩) (fun q h => nomatch h) dX4_rollFails_84
        · skip
          obtain rfl : r_6 = some (FA jc) := hr_6.trans (congrArg (Option.map FA) hD)
          have hjc := (sel_lt hD).1
          refine lv_astore (lv' := [(8, .ref (FA jc)), (7, .null), (6, .null), (0, .ref (a 0)), (1, .ref (a 6)), (2, .int (nI r)), (3, .int (nI p)), (4, .int (nI m)), (5, .int f)]) hx hb dX4_rollFails_66 hl (by decide) rfl (fun ls hl => ?_)
          refine lv_aloadN hx hb dX4_rollFails_68 (lv_at hl 2 rfl) ?_
          refine lv_ifnullN (tgt := 83) hx hb dX4_rollFails_70 (by decide) ?_
          refine lv_iconst (v := 0) hx hb dX4_rollFails_83 (by decide) ?_
          exact W.zret (v := 0) hx hb hr (rfl) (fun t ht hW => ⟨0, rfl, (bI_f (by unfold rollOff; rw [hA, hB, hD]; simp)), ht⟩) (fun q h => nomatch h) dX4_rollFails_84
      · skip
        obtain rfl : r_4 = some (FA jb) := hr_4.trans (congrArg (Option.map FA) hB)
        have hjb := (sel_lt hB).1
        refine lv_astore (lv' := [(7, .ref (FA jb)), (6, .null), (0, .ref (a 0)), (1, .ref (a 6)), (2, .int (nI r)), (3, .int (nI p)), (4, .int (nI m)), (5, .int f)]) hx hb dX4_rollFails_46 hl (by decide) rfl (fun ls hl => ?_)
        refine lv_aload_n hx hb dX4_rollFails_48 rfl (lv_at hl 3 rfl) ?_
        refine lv_aload_n hx hb dX4_rollFails_49 rfl (lv_at hl 2 rfl) ?_
        refine va_get (D := D) (ci := 3) (v := .ref (a 4)) (C := RX4) (T := TX4) (N := 11) hx hb hts win_X4 hown hK hP (0) (rfl) rfl 4 (by decide) w_2 (fun _ h9 => h9) rfl dX4_rollFails_50 ?_
        refine lv_iload_n hx hb dX4_rollFails_53 rfl (lv_at hl 4 rfl) ?_
        refine g_iald hx hb hK hP (4) 0 (n := 5) (f := flw) (rfl) rfl r rfl (by omega) (by decide) dX4_rollFails_54 ?_
        refine lv_topi (fun dv edv => ?_)
        obtain rfl : dv = nI y := by rw [edv]; exact hty
        refine lv_iload_n hx hb dX4_rollFails_55 rfl (lv_at hl 5 rfl) ?_
        refine lv_iload hx hb dX4_rollFails_56 (lv_at hl 6 rfl) ?_
        refine g_csi (va_runS (As := [.int (nI y), .int (nI p), .int (nI m)]) (rest := [.ref (a 6)]) ⟨hx, hb, hml, hown, hts⟩ (c4_keyOf l D cI cZ cO cL dt A y p m (WD cI cO a FA nC nR nL nF par wt stk flw hd rea sig ++ (WF FA ck cf cd cv nx nF ++ R))) (va_cwS 3 hts gX4_rollFails_X4_keyOf rfl rfl rfl (by decide +kernel) ⟨Nat.le_of_ble_eq_true rfl, Nat.le_of_ble_eq_true rfl⟩) (gP.s hg hP) rfl rfl hl.1 rfl (lv_room (Nat.le_of_ble_eq_true rfl)) dX4_rollFails_58 ⟨Nat.le_of_ble_eq_true rfl, Nat.le_of_ble_eq_true rfl⟩) (fun r_7 hr_7 => ?_)
        obtain rfl : r_7 = nI (y * 40 + p * 4 + m) := hr_7
        refine lv_iload hx hb dX4_rollFails_61 (lv_at hl 7 rfl) ?_
        refine g_csq (va_runU (As := [.int (nI (y * 40 + p * 4 + m)), .int f]) (rest := []) ⟨hx, hb, hml, hown, hts⟩ (c2_holding l D cI cZ cO cL dt A a FA nC nR nL nF par wt stk flw hd rea sig ck cf cd cv nx R (y * 40 + p * 4 + m) f (by omega) hck hCh) (va_cwA 2 hts gX4_rollFails_X2_holding_u196X2 rfl rfl rfl hg.2.1.2.2.2.2.2.1 (by decide +kernel) ⟨Nat.le_of_ble_eq_true rfl, Nat.le_of_ble_eq_true rfl⟩) (gP.v hg hP 1 rfl (6) (rfl) hP) rfl rfl hl.1 rfl (lv_room (Nat.le_of_ble_eq_true rfl)) dX4_rollFails_63 ⟨Nat.le_of_ble_eq_true rfl, Nat.le_of_ble_eq_true rfl⟩) (fun r_8 hr_8 => ?_)
        obtain ⟨o_r_8, hD⟩ : ∃ z, hC ck cf cd nF (nI (y * 40 + p * 4 + m)) f = z := ⟨_, rfl⟩
        rcases o_r_8 with _ | jc
        · skip
          obtain rfl : r_8 = none := hr_8.trans (congrArg (Option.map FA) hD)
          refine lv_astoreN (lv' := [(8, .null), (7, .ref (FA jb)), (6, .null), (0, .ref (a 0)), (1, .ref (a 6)), (2, .int (nI r)), (3, .int (nI p)), (4, .int (nI m)), (5, .int f)]) hx hb dX4_rollFails_66 hl (by decide) rfl (fun ls hl => ?_)
          refine lv_aloadN hx hb dX4_rollFails_68 (lv_at hl 2 rfl) ?_
          refine lv_ifnullN (tgt := 83) hx hb dX4_rollFails_70 (by decide) ?_
          refine lv_iconst (v := 0) hx hb dX4_rollFails_83 (by decide) ?_
          exact W.zret (v := 0) hx hb hr (rfl) (fun t ht hW => ⟨0, rfl, (bI_f (by unfold rollOff; rw [hA, hB, hD]; simp)), ht⟩) (fun q h => nomatch h) dX4_rollFails_84
        · skip
          obtain rfl : r_8 = some (FA jc) := hr_8.trans (congrArg (Option.map FA) hD)
          have hjc := (sel_lt hD).1
          refine lv_astore (lv' := [(8, .ref (FA jc)), (7, .ref (FA jb)), (6, .null), (0, .ref (a 0)), (1, .ref (a 6)), (2, .int (nI r)), (3, .int (nI p)), (4, .int (nI m)), (5, .int f)]) hx hb dX4_rollFails_66 hl (by decide) rfl (fun ls hl => ?_)
          refine lv_aloadN hx hb dX4_rollFails_68 (lv_at hl 2 rfl) ?_
          refine lv_ifnullN (tgt := 83) hx hb dX4_rollFails_70 (by decide) ?_
          refine lv_iconst (v := 0) hx hb dX4_rollFails_83 (by decide) ?_
          exact W.zret (v := 0) hx hb hr (rfl) (fun t ht hW => ⟨0, rfl, (bI_f (by unfold rollOff; rw [hA, hB, hD]; simp)), ht⟩) (fun q h => nomatch h) dX4_rollFails_84
    · skip
      obtain rfl : r_2 = some (FA ja) := hr_2.trans (congrArg (Option.map FA) hA)
      have hja := (sel_lt hA).1
      refine lv_astore (lv' := [(6, .ref (FA ja)), (0, .ref (a 0)), (1, .ref (a 6)), (2, .int (nI r)), (3, .int (nI p)), (4, .int (nI m)), (5, .int f)]) hx hb dX4_rollFails_24 hl (by decide) rfl (fun ls hl => ?_)
      refine lv_aload_n hx hb dX4_rollFails_26 rfl (lv_at hl 2 rfl) ?_
      refine lv_aload_n hx hb dX4_rollFails_27 rfl (lv_at hl 1 rfl) ?_
      refine va_get (D := D) (ci := 3) (v := .ref (a 3)) (C := RX4) (T := TX4) (N := 11) hx hb hts win_X4 hown hK hP (0) (rfl) rfl 3 (by decide) w_0 (fun _ h9 => h9) rfl dX4_rollFails_28 ?_
      refine lv_iload_n hx hb dX4_rollFails_31 rfl (lv_at hl 3 rfl) ?_
      refine g_iald hx hb hK hP (3) 0 (n := 5) (f := stk) (rfl) rfl r rfl (by omega) (by decide) dX4_rollFails_32 ?_
      refine lv_topi (fun dv edv => ?_)
      obtain rfl : dv = nI x := by rw [edv]; exact hsx
      refine lv_iload_n hx hb dX4_rollFails_33 rfl (lv_at hl 4 rfl) ?_
      refine lv_iconst (v := 1) hx hb dX4_rollFails_34 (by decide) ?_
      refine lv_isub hx hb dX4_rollFails_35 ?_
      refine lv_topi (fun dv edv => ?_)
      obtain rfl : dv = nI (p - 1) := by rw [edv]; exact nI_sub1 hp0
      refine lv_iload hx hb dX4_rollFails_36 (lv_at hl 5 rfl) ?_
      refine g_csi (va_runS (As := [.int (nI x), .int (nI (p - 1)), .int (nI m)]) (rest := [.ref (a 6)]) ⟨hx, hb, hml, hown, hts⟩ (c4_keyOf l D cI cZ cO cL dt A x (p - 1) m (WD cI cO a FA nC nR nL nF par wt stk flw hd rea sig ++ (WF FA ck cf cd cv nx nF ++ R))) (va_cwS 3 hts gX4_rollFails_X4_keyOf rfl rfl rfl (by decide +kernel) ⟨Nat.le_of_ble_eq_true rfl, Nat.le_of_ble_eq_true rfl⟩) (gP.s hg hP) rfl rfl hl.1 rfl (lv_room (Nat.le_of_ble_eq_true rfl)) dX4_rollFails_38 ⟨Nat.le_of_ble_eq_true rfl, Nat.le_of_ble_eq_true rfl⟩) (fun r_9 hr_9 => ?_)
      obtain rfl : r_9 = nI (x * 40 + (p - 1) * 4 + m) := hr_9
      refine lv_iload hx hb dX4_rollFails_41 (lv_at hl 6 rfl) ?_
      refine g_csq (va_runU (As := [.int (nI (x * 40 + (p - 1) * 4 + m)), .int f]) (rest := []) ⟨hx, hb, hml, hown, hts⟩ (c2_holding l D cI cZ cO cL dt A a FA nC nR nL nF par wt stk flw hd rea sig ck cf cd cv nx R (x * 40 + (p - 1) * 4 + m) f (by omega) hck hCh) (va_cwA 2 hts gX4_rollFails_X2_holding_u196X2 rfl rfl rfl hg.2.1.2.2.2.2.2.1 (by decide +kernel) ⟨Nat.le_of_ble_eq_true rfl, Nat.le_of_ble_eq_true rfl⟩) (gP.v hg hP 1 rfl (6) (rfl) hP) rfl rfl hl.1 rfl (lv_room (Nat.le_of_ble_eq_true rfl)) dX4_rollFails_43 ⟨Nat.le_of_ble_eq_true rfl, Nat.le_of_ble_eq_true rfl⟩) (fun r_10 hr_10 => ?_)
      obtain ⟨o_r_10, hB⟩ : ∃ z, hC ck cf cd nF (nI (x * 40 + (p - 1) * 4 + m)) f = z := ⟨_, rfl⟩
      rcases o_r_10 with _ | jb
      · skip
        obtain rfl : r_10 = none := hr_10.trans (congrArg (Option.map FA) hB)
        refine lv_astoreN (lv' := [(7, .null), (6, .ref (FA ja)), (0, .ref (a 0)), (1, .ref (a 6)), (2, .int (nI r)), (3, .int (nI p)), (4, .int (nI m)), (5, .int f)]) hx hb dX4_rollFails_46 hl (by decide) rfl (fun ls hl => ?_)
        refine lv_aload_n hx hb dX4_rollFails_48 rfl (lv_at hl 3 rfl) ?_
        refine lv_aload_n hx hb dX4_rollFails_49 rfl (lv_at hl 2 rfl) ?_
        refine va_get (D := D) (ci := 3) (v := .ref (a 4)) (C := RX4) (T := TX4) (N := 11) hx hb hts win_X4 hown hK hP (0) (rfl) rfl 4 (by decide) w_2 (fun _ h9 => h9) rfl dX4_rollFails_50 ?_
        refine lv_iload_n hx hb dX4_rollFails_53 rfl (lv_at hl 4 rfl) ?_
        refine g_iald hx hb hK hP (4) 0 (n := 5) (f := flw) (rfl) rfl r rfl (by omega) (by decide) dX4_rollFails_54 ?_
        refine lv_topi (fun dv edv => ?_)
        obtain rfl : dv = nI y := by rw [edv]; exact hty
        refine lv_iload_n hx hb dX4_rollFails_55 rfl (lv_at hl 5 rfl) ?_
        refine lv_iload hx hb dX4_rollFails_56 (lv_at hl 6 rfl) ?_
        refine g_csi (va_runS (As := [.int (nI y), .int (nI p), .int (nI m)]) (rest := [.ref (a 6)]) ⟨hx, hb, hml, hown, hts⟩ (c4_keyOf l D cI cZ cO cL dt A y p m (WD cI cO a FA nC nR nL nF par wt stk flw hd rea sig ++ (WF FA ck cf cd cv nx nF ++ R))) (va_cwS 3 hts gX4_rollFails_X4_keyOf rfl rfl rfl (by decide +kernel) ⟨Nat.le_of_ble_eq_true rfl, Nat.le_of_ble_eq_true rfl⟩) (gP.s hg hP) rfl rfl hl.1 rfl (lv_room (Nat.le_of_ble_eq_true rfl)) dX4_rollFails_58 ⟨Nat.le_of_ble_eq_true rfl, Nat.le_of_ble_eq_true rfl⟩) (fun r_11 hr_11 => ?_)
        obtain rfl : r_11 = nI (y * 40 + p * 4 + m) := hr_11
        refine lv_iload hx hb dX4_rollFails_61 (lv_at hl 7 rfl) ?_
        refine g_csq (va_runU (As := [.int (nI (y * 40 + p * 4 + m)), .int f]) (rest := []) ⟨hx, hb, hml, hown, hts⟩ (c2_holding l D cI cZ cO cL dt A a FA nC nR nL nF par wt stk flw hd rea sig ck cf cd cv nx R (y * 40 + p * 4 + m) f (by omega) hck hCh) (va_cwA 2 hts gX4_rollFails_X2_holding_u196X2 rfl rfl rfl hg.2.1.2.2.2.2.2.1 (by decide +kernel) ⟨Nat.le_of_ble_eq_true rfl, Nat.le_of_ble_eq_true rfl⟩) (gP.v hg hP 1 rfl (6) (rfl) hP) rfl rfl hl.1 rfl (lv_room (Nat.le_of_ble_eq_true rfl)) dX4_rollFails_63 ⟨Nat.le_of_ble_eq_true rfl, Nat.le_of_ble_eq_true rfl⟩) (fun r_12 hr_12 => ?_)
        obtain ⟨o_r_12, hD⟩ : ∃ z, hC ck cf cd nF (nI (y * 40 + p * 4 + m)) f = z := ⟨_, rfl⟩
        rcases o_r_12 with _ | jc
        · skip
          obtain rfl : r_12 = none := hr_12.trans (congrArg (Option.map FA) hD)
          refine lv_astoreN (lv' := [(8, .null), (7, .null), (6, .ref (FA ja)), (0, .ref (a 0)), (1, .ref (a 6)), (2, .int (nI r)), (3, .int (nI p)), (4, .int (nI m)), (5, .int f)]) hx hb dX4_rollFails_66 hl (by decide) rfl (fun ls hl => ?_)
          refine lv_aload hx hb dX4_rollFails_68 (lv_at hl 2 rfl) ?_
          refine lv_ifnull hx hb dX4_rollFails_70 ?_
          refine lv_aloadN hx hb dX4_rollFails_73 (lv_at hl 1 rfl) ?_
          refine lv_ifnullN (tgt := 83) hx hb dX4_rollFails_75 (by decide) ?_
          refine lv_iconst (v := 0) hx hb dX4_rollFails_83 (by decide) ?_
          exact W.zret (v := 0) hx hb hr (rfl) (fun t ht hW => ⟨0, rfl, (bI_f (by unfold rollOff; rw [hA, hB, hD]; simp)), ht⟩) (fun q h => nomatch h) dX4_rollFails_84
        · skip
          obtain rfl : r_12 = some (FA jc) := hr_12.trans (congrArg (Option.map FA) hD)
          have hjc := (sel_lt hD).1
          refine lv_astore (lv' := [(8, .ref (FA jc)), (7, .null), (6, .ref (FA ja)), (0, .ref (a 0)), (1, .ref (a 6)), (2, .int (nI r)), (3, .int (nI p)), (4, .int (nI m)), (5, .int f)]) hx hb dX4_rollFails_66 hl (by decide) rfl (fun ls hl => ?_)
          refine lv_aload hx hb dX4_rollFails_68 (lv_at hl 2 rfl) ?_
          refine lv_ifnull hx hb dX4_rollFails_70 ?_
          refine lv_aloadN hx hb dX4_rollFails_73 (lv_at hl 1 rfl) ?_
          refine lv_ifnullN (tgt := 83) hx hb dX4_rollFails_75 (by decide) ?_
          refine lv_iconst (v := 0) hx hb dX4_rollFails_83 (by decide) ?_
          exact W.zret (v := 0) hx hb hr (rfl) (fun t ht hW => ⟨0, rfl, (bI_f (by unfold rollOff; rw [hA, hB, hD]; simp)), ht⟩) (fun q h => nomatch h) dX4_rollFails_84
      · skip
        obtain rfl : r_10 = some (FA jb) := hr_10.trans (congrArg (Option.map FA) hB)
        have hjb := (sel_lt hB).1
        refine lv_astore (lv' := [(7, .ref (FA jb)), (6, .ref (FA ja)), (0, .ref (a 0)), (1, .ref (a 6)), (2, .int (nI r)), (3, .int (nI p)), (4, .int (nI m)), (5, .int f)]) hx hb dX4_rollFails_46 hl (by decide) rfl (fun ls hl => ?_)
        refine lv_aload_n hx hb dX4_rollFails_48 rfl (lv_at hl 3 rfl) ?_
        refine lv_aload_n hx hb dX4_rollFails_49 rfl (lv_at hl 2 rfl) ?_
        refine va_get (D := D) (ci := 3) (v := .ref (a 4)) (C := RX4) (T := TX4) (N := 11) hx hb hts win_X4 hown hK hP (0) (rfl) rfl 4 (by decide) w_2 (fun _ h9 => h9) rfl dX4_rollFails_50 ?_
        refine lv_iload_n hx hb dX4_rollFails_53 rfl (lv_at hl 4 rfl) ?_
        refine g_iald hx hb hK hP (4) 0 (n := 5) (f := flw) (rfl) rfl r rfl (by omega) (by decide) dX4_rollFails_54 ?_
        refine lv_topi (fun dv edv => ?_)
        obtain rfl : dv = nI y := by rw [edv]; exact hty
        refine lv_iload_n hx hb dX4_rollFails_55 rfl (lv_at hl 5 rfl) ?_
        refine lv_iload hx hb dX4_rollFails_56 (lv_at hl 6 rfl) ?_
        refine g_csi (va_runS (As := [.int (nI y), .int (nI p), .int (nI m)]) (rest := [.ref (a 6)]) ⟨hx, hb, hml, hown, hts⟩ (c4_keyOf l D cI cZ cO cL dt A y p m (WD cI cO a FA nC nR nL nF par wt stk flw hd rea sig ++ (WF FA ck cf cd cv nx nF ++ R))) (va_cwS 3 hts gX4_rollFails_X4_keyOf rfl rfl rfl (by decide +kernel) ⟨Nat.le_of_ble_eq_true rfl, Nat.le_of_ble_eq_true rfl⟩) (gP.s hg hP) rfl rfl hl.1 rfl (lv_room (Nat.le_of_ble_eq_true rfl)) dX4_rollFails_58 ⟨Nat.le_of_ble_eq_true rfl, Nat.le_of_ble_eq_true rfl⟩) (fun r_13 hr_13 => ?_)
        obtain rfl : r_13 = nI (y * 40 + p * 4 + m) := hr_13
        refine lv_iload hx hb dX4_rollFails_61 (lv_at hl 7 rfl) ?_
        refine g_csq (va_runU (As := [.int (nI (y * 40 + p * 4 + m)), .int f]) (rest := []) ⟨hx, hb, hml, hown, hts⟩ (c2_holding l D cI cZ cO cL dt A a FA nC nR nL nF par wt stk flw hd rea sig ck cf cd cv nx R (y * 40 + p * 4 + m) f (by omega) hck hCh) (va_cwA 2 hts gX4_rollFails_X2_holding_u196X2 rfl rfl rfl hg.2.1.2.2.2.2.2.1 (by decide +kernel) ⟨Nat.le_of_ble_eq_true rfl, Nat.le_of_ble_eq_true rfl⟩) (gP.v hg hP 1 rfl (6) (rfl) hP) rfl rfl hl.1 rfl (lv_room (Nat.le_of_ble_eq_true rfl)) dX4_rollFails_63 ⟨Nat.le_of_ble_eq_true rfl, Nat.le_of_ble_eq_true rfl⟩) (fun r_14 hr_14 => ?_)
        obtain ⟨o_r_14, hD⟩ : ∃ z, hC ck cf cd nF (nI (y * 40 + p * 4 + m)) f = z := ⟨_, rfl⟩
        rcases o_r_14 with _ | jc
        · skip
          obtain rfl : r_14 = none := hr_14.trans (congrArg (Option.map FA) hD)
          refine lv_astoreN (lv' := [(8, .null), (7, .ref (FA jb)), (6, .ref (FA ja)), (0, .ref (a 0)), (1, .ref (a 6)), (2, .int (nI r)), (3, .int (nI p)), (4, .int (nI m)), (5, .int f)]) hx hb dX4_rollFails_66 hl (by decide) rfl (fun ls hl => ?_)
          refine lv_aload hx hb dX4_rollFails_68 (lv_at hl 2 rfl) ?_
          refine lv_ifnull hx hb dX4_rollFails_70 ?_
          refine lv_aload hx hb dX4_rollFails_73 (lv_at hl 1 rfl) ?_
          refine lv_ifnull hx hb dX4_rollFails_75 ?_
          refine lv_aloadN hx hb dX4_rollFails_78 (lv_at hl 0 rfl) ?_
          refine lv_ifnonnullN hx hb dX4_rollFails_80 ?_
          refine lv_iconst (v := 0) hx hb dX4_rollFails_83 (by decide) ?_
          exact W.zret (v := 0) hx hb hr (rfl) (fun t ht hW => ⟨0, rfl, (bI_f (by unfold rollOff; rw [hA, hB, hD]; simp)), ht⟩) (fun q h => nomatch h) dX4_rollFails_84
        · skip
          obtain rfl : r_14 = some (FA jc) := hr_14.trans (congrArg (Option.map FA) hD)
          have hjc := (sel_lt hD).1
          refine lv_astore (lv' := [(8, .ref (FA jc)), (7, .ref (FA jb)), (6, .ref (FA ja)), (0, .ref (a 0)), (1, .ref (a 6)), (2, .int (nI r)), (3, .int (nI p)), (4, .int (nI m)), (5, .int f)]) hx hb dX4_rollFails_66 hl (by decide) rfl (fun ls hl => ?_)
          refine lv_aload hx hb dX4_rollFails_68 (lv_at hl 2 rfl) ?_
          refine lv_ifnull hx hb dX4_rollFails_70 ?_
          refine lv_aload hx hb dX4_rollFails_73 (lv_at hl 1 rfl) ?_
          refine lv_ifnull hx hb dX4_rollFails_75 ?_
          refine lv_aload hx hb dX4_rollFails_78 (lv_at hl 0 rfl) ?_
          refine lv_ifnonnull (tgt := 85) hx hb dX4_rollFails_80 (by decide) ?_
          refine lv_aload hx hb dX4_rollFails_85 (lv_at hl 2 rfl) ?_
          refine va_get (D := D) (ci := 0) (v := .int (cv ja)) (C := RX0) (T := TX0) (N := 5) hx hb hts win_X0 hown hK hP (11 + ja) (WDF_at (by omega)) rfl 2 (by decide) w_3 (fun _ h9 => h9) rfl dX4_rollFails_87 ?_
          refine lv_aload hx hb dX4_rollFails_90 (lv_at hl 1 rfl) ?_
          refine va_get (D := D) (ci := 0) (v := .int (cv jb)) (C := RX0) (T := TX0) (N := 5) hx hb hts win_X0 hown hK hP (11 + jb) (WDF_at (by omega)) rfl 2 (by decide) w_3 (fun _ h9 => h9) rfl dX4_rollFails_92 ?_
          refine lv_aload hx hb dX4_rollFails_95 (lv_at hl 0 rfl) ?_
          refine va_get (D := D) (ci := 0) (v := .int (cv jc)) (C := RX0) (T := TX0) (N := 5) hx hb hts win_X0 hown hK hP (11 + jc) (WDF_at (by omega)) rfl 2 (by decide) w_3 (fun _ h9 => h9) rfl dX4_rollFails_97 ?_
          refine lv_iadd hx hb dX4_rollFails_100 ?_
          refine lv_aload hx hb dX4_rollFails_101 (lv_at hl 2 rfl) ?_
          refine va_get (D := D) (ci := 0) (v := .int (nI (10 ^ cd ja))) (C := RX0) (T := TX0) (N := 5) hx hb hts win_X0 hown hK hP (11 + ja) (WDF_at (by omega)) rfl 3 (by decide) w_5 (fun _ h9 => h9) rfl dX4_rollFails_103 ?_
          refine lv_aload hx hb dX4_rollFails_106 (lv_at hl 1 rfl) ?_
          refine va_get (D := D) (ci := 0) (v := .int (nI (10 ^ cd jb))) (C := RX0) (T := TX0) (N := 5) hx hb hts win_X0 hown hK hP (11 + jb) (WDF_at (by omega)) rfl 3 (by decide) w_5 (fun _ h9 => h9) rfl dX4_rollFails_108 ?_
          refine lv_iadd hx hb dX4_rollFails_111 ?_
          refine lv_aload hx hb dX4_rollFails_112 (lv_at hl 0 rfl) ?_
          refine va_get (D := D) (ci := 0) (v := .int (nI (10 ^ cd jc))) (C := RX0) (T := TX0) (N := 5) hx hb hts win_X0 hown hK hP (11 + jc) (WDF_at (by omega)) rfl 3 (by decide) w_5 (fun _ h9 => h9) rfl dX4_rollFails_114 ?_
          refine lv_iadd hx hb dX4_rollFails_117 ?_
          refine g_csi (va_runS (As := [.int (cv ja), .int ((cv jb) + (cv jc)), .int (((nI (10 ^ cd ja)) + (nI (10 ^ cd jb))) + (nI (10 ^ cd jc)))]) (rest := []) ⟨hx, hb, hml, hown, hts⟩ (c4_isApart l D cI cZ cO cL dt A (cv ja) ((cv jb) + (cv jc)) (((nI (10 ^ cd ja)) + (nI (10 ^ cd jb))) + (nI (10 ^ cd jc))) (WD cI cO a FA nC nR nL nF par wt stk flw hd rea sig ++ (WF FA ck cf cd cv nx nF ++ R)) ((hcv ja).small) (add_small (hcv jb) (hcv jc))) (va_cwS 3 hts gX4_rollFails_X4_isApart rfl rfl rfl (by decide +kernel) ⟨Nat.le_of_ble_eq_true rfl, Nat.le_of_ble_eq_true rfl⟩) (gP.s hg hP) rfl rfl hl.1 rfl (lv_room (Nat.le_of_ble_eq_true rfl)) dX4_rollFails_118 ⟨Nat.le_of_ble_eq_true rfl, Nat.le_of_ble_eq_true rfl⟩) (fun r_15 hr_15 => ?_)
          obtain rfl : r_15 = bI (((nI (10 ^ cd ja)) + (nI (10 ^ cd jb))) + (nI (10 ^ cd jc)) < 2 * farI (cv ja) ((cv jb) + (cv jc))) := hr_15
          exact W.zret (v := bI (((nI (10 ^ cd ja)) + (nI (10 ^ cd jb))) + (nI (10 ^ cd jc)) < 2 * farI (cv ja) ((cv jb) + (cv jc)))) hx hb hr (bI_nr _) (fun t ht hW => ⟨bI (((nI (10 ^ cd ja)) + (nI (10 ^ cd jb))) + (nI (10 ^ cd jc)) < 2 * farI (cv ja) ((cv jb) + (cv jc))), rfl, (bI_congr (by unfold rollOff; rw [hA, hB, hD]; simp only [Bool.and_eq_true, decide_eq_true_eq]; exact ⟨fun q => ⟨nI_lt hp0 (by omega), q⟩, fun q => q.2⟩)), ht⟩) (fun q h => nomatch h) dX4_rollFails_121
  · skip
    have hp0 : p = 0 := (nI_eq (by omega) (by decide)).mp c_1
    refine lv_iconst (v := 0) hx hb dX4_rollFails_4 (by decide) ?_
    exact W.zret (v := 0) hx hb hr (rfl) (fun t ht hW => ⟨0, rfl, (bI_f (by unfold rollOff; subst hp0; cases hC ck cf cd nF (nI (x * 40 + 0 * 4 + m)) f <;> cases hC ck cf cd nF (nI (x * 40 + (0 - 1) * 4 + m)) f <;> cases hC ck cf cd nF (nI (y * 40 + 0 * 4 + m)) f <;> simp [nI_0])), ht⟩) (fun q h => nomatch h) dX4_rollFails_5
set_option maxHeartbeats 4000000 in
set_option maxRecDepth 100000 in
/-- the faults of a key -/
theorem c4_faultsAt_K (l : Launch) (D : va_G) (cI cZ cO cL : ClassId) (dt : Nat) (A : Nat → Prop) (a FA : Nat → Nat) (nC nR nL nF : Nat) (par wt stk flw : Nat → Int32) (hd : Nat → Option Nat) (rea sig : Nat → Int32) (ck cf cd : Nat → Nat) (cv : Nat → Int32) (nx : Nat → Option Nat) (R : va_W) (sk fk : Nat → Nat) (K c p m : Nat) (f : Int32) (hF : nF ≤ 80) (hC12 : nC ≤ 12) (hck : ∀ k, ck k < 480) (hcf : ∀ k, cf k < 2 ^ 31) (hcd : ∀ k, cd k ≤ 4) (hcv : ∀ k, vOk (cv k)) (hwt : ∀ k, wOk (wt k)) (hCh : chOk ck cf cd hd nx nF) (hR : nR ≤ 5) (hsk : ∀ r, stk r = nI (sk r)) (hfk : ∀ r, flw r = nI (fk r)) (hsk12 : ∀ r, sk r < 12) (hfk12 : ∀ r, fk r < 12) (hKe : K = c * 40 + p * 4 + m) (hc : c < nC) (hp : p < 10) (hm : m < 4) : Met l yX4_faultsAt wsX4_faultsAt ({ frames := 3, cells := 0, slots := 0, locals := 93 } : Room) (gP D cI cZ cO cL dt A [.ref (a 0), .ref (a 6), .int (nI K), .int f] (fun H => va_P D vwCl (WD cI cO a FA nC nR nL nF par wt stk flw hd rea sig ++ (WF FA ck cf cd cv nx nF ++ R)) H)) (vp_Si (fun z => z = fltA nC nR par wt sk fk (fun K => hC ck cf cd nF (nI K) f) cd cv c p m)) 0 0 (fun _ => False) := by
  refine Met.ofW (cc := cX4_faultsAt) (maxL := 9) (ret := (some .int)) (by decide) rfl ?_
  intro p9 e9 s m9 args below meth c9 s₁ B hml hv
  obtain ⟨rfl, hg, hP⟩ := hv
  have hx := B.exec
  have hb := B.bytes
  have hr := B.returns
  have hts := atoms_spec (ws := wsX4_faultsAt) B.pre
  have hown : s.vm.findClass RX4 = some m9.cls := findClass_of_methodNamed B.named
  have hlocks := B.notSynchronized
  have hK := hg.1
  have w_0 := hts (.fieldLink RX4 68 "Dimfacts" "ruleCount" "I") (by decide +kernel)
  have win_X4 : ∀ w ∈ wsX40, w ∈ wsX4_faultsAt := by decide +kernel
  have w_2 := hts (.fieldLink RX4 16 "Dimfacts" "stocks" "[I") (by decide +kernel)
  have hl := lv_entry ([.ref (a 0), .ref (a 6), .int (nI K), .int f]) (n := 9) (Nat.le_of_ble_eq_true rfl)
  rw [lg_entry_eq]
  generalize (lg_sl ([.ref (a 0), .ref (a 6), .int (nI K), .int f]) ++ List.replicate (9 - (lg_sl ([.ref (a 0), .ref (a 6), .int (nI K), .int f])).length) Slot.unset).toArray = ls at hl ⊢
  have hl : lv_has ls 9 [(0, .ref (a 0)), (1, .ref (a 6)), (2, .int (nI K)), (3, .int f)] := hl
  refine lv_iload_n hx hb dX4_faultsAt_0 rfl (lv_at hl 2 rfl) ?_
  refine lv_bipush (v := 40) hx hb dX4_faultsAt_1 (by decide) ?_
  refine lv_idiv hx hb dX4_faultsAt_3 (by decide) ?_
  refine lv_topi (fun dv edv => ?_)
  obtain rfl : dv = nI c := by rw [edv]; exact (pk_div (d := 40) (by omega) (by decide) (by decide)).trans (congrArg nI (by omega))
  refine lv_istore (lv' := [(4, .int (nI c)), (0, .ref (a 0)), (1, .ref (a 6)), (2, .int (nI K)), (3, .int f)]) hx hb dX4_faultsAt_4 hl (by decide) rfl (fun ls hl => ?_)
  refine lv_iload_n hx hb dX4_faultsAt_6 rfl (lv_at hl 3 rfl) ?_
  refine lv_iconst (v := 4) hx hb dX4_faultsAt_7 (by decide) ?_
  refine lv_idiv hx hb dX4_faultsAt_8 (by decide) ?_
  refine lv_bipush (v := 10) hx hb dX4_faultsAt_9 (by decide) ?_
  refine lv_irem hx hb dX4_faultsAt_11 (by decide) ?_
  refine lv_topi (fun dv edv => ?_)
  obtain rfl : dv = nI p := by rw [edv]; exact (congrArg (fun z => z - z / 10 * 10) (pk_div (d := 4) (by omega) (by decide) (by decide))).trans ((pk_rem (d := 10) (by omega) (by decide) (by decide)).trans (congrArg nI (by omega)))
  refine lv_istore (lv' := [(5, .int (nI p)), (4, .int (nI c)), (0, .ref (a 0)), (1, .ref (a 6)), (2, .int (nI K)), (3, .int f)]) hx hb dX4_faultsAt_12 hl (by decide) rfl (fun ls hl => ?_)
  refine lv_iload_n hx hb dX4_faultsAt_14 rfl (lv_at hl 4 rfl) ?_
  refine lv_iconst (v := 4) hx hb dX4_faultsAt_15 (by decide) ?_
  refine lv_irem hx hb dX4_faultsAt_16 (by decide) ?_
  refine lv_topi (fun dv edv => ?_)
  obtain rfl : dv = nI m := by rw [edv]; exact (pk_rem (d := 4) (by omega) (by decide) (by decide)).trans (congrArg nI (by omega))
  refine lv_istore (lv' := [(6, .int (nI m)), (5, .int (nI p)), (4, .int (nI c)), (0, .ref (a 0)), (1, .ref (a 6)), (2, .int (nI K)), (3, .int f)]) hx hb dX4_faultsAt_17 hl (by decide) rfl (fun ls hl => ?_)
  refine lv_aload_n hx hb dX4_faultsAt_19 rfl (lv_at hl 3 rfl) ?_
  refine lv_aload_n hx hb dX4_faultsAt_20 rfl (lv_at hl 4 rfl) ?_
  refine lv_iload hx hb dX4_faultsAt_21 (lv_at hl 2 rfl) ?_
  refine lv_iload hx hb dX4_faultsAt_23 (lv_at hl 1 rfl) ?_
  refine lv_iload hx hb dX4_faultsAt_25 (lv_at hl 0 rfl) ?_
  refine lv_iload_n hx hb dX4_faultsAt_27 rfl (lv_at hl 6 rfl) ?_
  refine g_csi (va_runV (As := [.ref (a 6), .int (nI c), .int (nI p), .int (nI m), .int f]) (rest := []) ⟨hx, hb, hml, hown, hts⟩ (c4_sumFails_K l D cI cZ cO cL dt A a FA nC nR nL nF par wt stk flw hd rea sig ck cf cd cv nx R c p m f hF hC12 hck hcf hcd hcv hwt hCh hc hp hm) (cwV 5 hts gX4_faultsAt_X4_sumFails rfl rfl rfl (by decide +kernel) ⟨Nat.le_of_ble_eq_true rfl, Nat.le_of_ble_eq_true rfl⟩) (gP.v hg hP 3 rfl (0) (rfl) hP) rfl rfl hl.1 rfl (lv_room (Nat.le_of_ble_eq_true rfl)) dX4_faultsAt_28 ⟨Nat.le_of_ble_eq_true rfl, Nat.le_of_ble_eq_true rfl⟩) (fun r_1 hr_1 => ?_)
  obtain rfl : r_1 = bI (sumOff nC par wt (fun k => hC ck cf cd nF (nI (k * 40 + p * 4 + m)) f) cd cv (nI c) (hC ck cf cd nF (nI (c * 40 + p * 4 + m)) f) = true) := hr_1
  refine lv_if_eq (tgt := 38) hx hb dX4_faultsAt_31 (by decide) (fun c_31 => ?_) (fun c_31 => ?_)
  · skip
    have c_31 := bI_z c_31
    refine lv_iconst (v := 0) hx hb dX4_faultsAt_38 (by decide) ?_
    refine lv_istore (lv' := [(7, .int 0), (6, .int (nI m)), (5, .int (nI p)), (4, .int (nI c)), (0, .ref (a 0)), (1, .ref (a 6)), (2, .int (nI K)), (3, .int f)]) hx hb dX4_faultsAt_39 hl (by decide) rfl (fun ls hl => ?_)
    refine lv_iload hx hb dX4_faultsAt_41 (lv_at hl 1 rfl) ?_
    refine lv_if_ne (tgt := 61) hx hb dX4_faultsAt_43 (by decide) (fun c_43 => ?_) (fun c_43 => ?_)
    · skip
      have hm0 : ¬ m = 0 := fun q => c_43 (by rw [q]; rfl)
      refine lv_iconst (v := 0) hx hb dX4_faultsAt_61 (by decide) ?_
      refine lv_istore (lv' := [(8, .int 0), (7, .int 0), (6, .int (nI m)), (5, .int (nI p)), (4, .int (nI c)), (0, .ref (a 0)), (1, .ref (a 6)), (2, .int (nI K)), (3, .int f)]) hx hb dX4_faultsAt_62 hl (by decide) rfl (fun ls hl => ?_)
      have lp64 : ∀ (n64 r : Nat)  (x7 : Int32), nR < r + n64 → r ≤ nR → x7 = 0 + sT (fun r => if sk r = c then bI (rollOff (nI p) (hC ck cf cd nF (nI ((sk r) * 40 + p * 4 + m)) f) (hC ck cf cd nF (nI ((sk r) * 40 + (p - 1) * 4 + m)) f) (hC ck cf cd nF (nI ((fk r) * 40 + p * 4 + m)) f) cd cv = true) else 0) r → ∀ ls : Array Slot, lv_has ls 9 [(8, .int (nI r)), (7, .int x7), (6, .int (nI m)), (5, .int (nI p)), (4, .int (nI c)), (3, .int f), (2, .int (nI K)), (1, .ref (a 6)), (0, .ref (a 0))] → W p9 l e9 (headSpec wsX4_faultsAt ({ frames := 3, cells := 0, slots := 0, locals := 93 } : Room)).room s m9 ([.ref (a 0), .ref (a 6), .int (nI K), .int f] : List Value).toArray below meth c9 s.heap [] 0 0 (MQ below (vp_Si (fun z => z = fltA nC nR par wt sk fk (fun K => hC ck cf cd nF (nI K) f) cd cv c p m)) ([.ref (a 0), .ref (a 6), .int (nI K), .int f] : List Value).toArray s 0 0 (fun _ => False)) (F0 m9 64 ls []) := by
        intro n64
        induction n64 with
        | zero => intro r  x7 h1 h2; exact absurd h1 (by omega)
        | succ n64 ih64 =>
          intro r  x7 hn64 hk64 e64_7  ls hl
          refine lv_iload hx hb dX4_faultsAt_64 (lv_at hl 0 rfl) ?_
          refine lv_aload_n hx hb dX4_faultsAt_66 rfl (lv_at hl 8 rfl) ?_
          refine va_get (D := D) (ci := 3) (v := .int (nI nR)) (C := RX4) (T := TX4) (N := 11) hx hb hts win_X4 hown hK hP (0) (rfl) rfl 5 (by decide) w_0 (fun _ h9 => h9) rfl dX4_faultsAt_67 ?_
          refine lv_icmp_ge (tgt := 109) hx hb dX4_faultsAt_70 (by decide) (fun c_70 => ?_) (fun c_70 => ?_)
          · skip
            have hkF : r = nR := by have := (nI_leI (a := nR) (b := r) (by omega) (by omega)).mp c_70; omega
            rw [hkF] at e64_7
            refine lv_iload hx hb dX4_faultsAt_109 (lv_at hl 1 rfl) ?_
            exact W.iret (v := x7) hx hb hr (fun t ht hW => ⟨x7, rfl, (by rw [e64_7]; unfold fltA; congr 1; show _ = bI _ + _; first | (rw [← bI_t c_31]; first | (rw [if_pos hm0, ← bI_t c_55]; done) | (rw [if_pos hm0, ← bI_f c_55]; rfl) | (rw [if_neg hm0]; rfl)) | (rw [← bI_f c_31]; first | (rw [if_pos hm0, ← bI_t c_55]; done) | (rw [if_pos hm0, ← bI_f c_55]; rfl) | (rw [if_neg hm0]; rfl))), ht⟩) (fun q h => nomatch h) dX4_faultsAt_111
          · skip
            have hkF : r < nR := by have := mt (nI_leI (a := nR) (b := r) (by omega) (by omega)).mpr c_70; omega
            refine lv_aload_n hx hb dX4_faultsAt_73 rfl (lv_at hl 8 rfl) ?_
            refine va_get (D := D) (ci := 3) (v := .ref (a 3)) (C := RX4) (T := TX4) (N := 11) hx hb hts win_X4 hown hK hP (0) (rfl) rfl 3 (by decide) w_2 (fun _ h9 => h9) rfl dX4_faultsAt_74 ?_
            refine lv_iload hx hb dX4_faultsAt_77 (lv_at hl 0 rfl) ?_
            refine g_iald hx hb hK hP (3) 0 (n := 5) (f := stk) (rfl) rfl r rfl (by omega) (by decide) dX4_faultsAt_79 ?_
            refine lv_iload hx hb dX4_faultsAt_80 (lv_at hl 4 rfl) ?_
            refine lv_icmp_ne (tgt := 103) hx hb dX4_faultsAt_82 (by decide) (fun c_82 => ?_) (fun c_82 => ?_)
            · skip
              have hsc : ¬ sk r = c := fun q => c_82 (by rw [hsk r, q])
              refine lv_iinc (v := nI (r + 1)) (lv' := [(8, .int (nI (r + 1))), (7, .int x7), (6, .int (nI m)), (5, .int (nI p)), (4, .int (nI c)), (3, .int f), (2, .int (nI K)), (1, .ref (a 6)), (0, .ref (a 0))]) hx hb dX4_faultsAt_103 hl (k := 0) rfl (nI_1 r) (by decide) rfl (fun ls hl => ?_)
              refine lv_goto (tgt := 64) hx hb dX4_faultsAt_106 (by decide) ?_
              exact ih64 (r + 1)  x7 (by omega) (by omega) (by rw [e64_7]; show _ = _ + (sT (fun r => if sk r = c then bI (rollOff (nI p) (hC ck cf cd nF (nI ((sk r) * 40 + p * 4 + m)) f) (hC ck cf cd nF (nI ((sk r) * 40 + (p - 1) * 4 + m)) f) (hC ck cf cd nF (nI ((fk r) * 40 + p * 4 + m)) f) cd cv = true) else 0) r + (fun r => if sk r = c then bI (rollOff (nI p) (hC ck cf cd nF (nI ((sk r) * 40 + p * 4 + m)) f) (hC ck cf cd nF (nI ((sk r) * 40 + (p - 1) * 4 + m)) f) (hC ck cf cd nF (nI ((fk r) * 40 + p * 4 + m)) f) cd cv = true) else 0) r); rw [← Int32.add_assoc]; show _ = _ + (if sk r = c then bI _ else 0); first | (rw [if_neg hsc]; exact (Int32.add_zero _).symm) | (rw [if_pos hsc, ← bI_f c_97]; exact (Int32.add_zero _).symm) | (rw [if_pos hsc, ← bI_t c_97]))  _ (lv_sub hl [0, 1, 2, 3, 4, 5, 6, 7, 8] rfl)
            · skip
              have hsc : sk r = c := by rw [hsk r] at c_82; exact (nI_eq (by have := hsk12 r; omega) (by omega)).mp c_82
              refine lv_aload_n hx hb dX4_faultsAt_85 rfl (lv_at hl 8 rfl) ?_
              refine lv_aload_n hx hb dX4_faultsAt_86 rfl (lv_at hl 7 rfl) ?_
              refine lv_iload hx hb dX4_faultsAt_87 (lv_at hl 0 rfl) ?_
              refine lv_iload hx hb dX4_faultsAt_89 (lv_at hl 3 rfl) ?_
              refine lv_iload hx hb dX4_faultsAt_91 (lv_at hl 2 rfl) ?_
              refine lv_iload_n hx hb dX4_faultsAt_93 rfl (lv_at hl 5 rfl) ?_
              refine g_csi (va_runV (As := [.ref (a 6), .int (nI r), .int (nI p), .int (nI m), .int f]) (rest := []) ⟨hx, hb, hml, hown, hts⟩ (c4_rollFails_K l D cI cZ cO cL dt A a FA nC nR nL nF par wt stk flw hd rea sig ck cf cd cv nx R r (sk r) (fk r) p m f hF hC12 hck hcf hcd hcv hwt hCh (by omega) (hsk r) (hfk r) (hsk12 r) (hfk12 r) hp hm) (cwV 5 hts gX4_faultsAt_X4_rollFails rfl rfl rfl (by decide +kernel) ⟨Nat.le_of_ble_eq_true rfl, Nat.le_of_ble_eq_true rfl⟩) (gP.v hg hP 3 rfl (0) (rfl) hP) rfl rfl hl.1 rfl (lv_room (Nat.le_of_ble_eq_true rfl)) dX4_faultsAt_94 ⟨Nat.le_of_ble_eq_true rfl, Nat.le_of_ble_eq_true rfl⟩) (fun r_2 hr_2 => ?_)
              obtain rfl : r_2 = bI (rollOff (nI p) (hC ck cf cd nF (nI ((sk r) * 40 + p * 4 + m)) f) (hC ck cf cd nF (nI ((sk r) * 40 + (p - 1) * 4 + m)) f) (hC ck cf cd nF (nI ((fk r) * 40 + p * 4 + m)) f) cd cv = true) := hr_2
              refine lv_if_eq (tgt := 103) hx hb dX4_faultsAt_97 (by decide) (fun c_97 => ?_) (fun c_97 => ?_)
              · skip
                have c_97 := bI_z c_97
                refine lv_iinc (v := nI (r + 1)) (lv' := [(8, .int (nI (r + 1))), (7, .int x7), (6, .int (nI m)), (5, .int (nI p)), (4, .int (nI c)), (3, .int f), (2, .int (nI K)), (1, .ref (a 6)), (0, .ref (a 0))]) hx hb dX4_faultsAt_103 hl (k := 0) rfl (nI_1 r) (by decide) rfl (fun ls hl => ?_)
                refine lv_goto (tgt := 64) hx hb dX4_faultsAt_106 (by decide) ?_
                exact ih64 (r + 1)  x7 (by omega) (by omega) (by rw [e64_7]; show _ = _ + (sT (fun r => if sk r = c then bI (rollOff (nI p) (hC ck cf cd nF (nI ((sk r) * 40 + p * 4 + m)) f) (hC ck cf cd nF (nI ((sk r) * 40 + (p - 1) * 4 + m)) f) (hC ck cf cd nF (nI ((fk r) * 40 + p * 4 + m)) f) cd cv = true) else 0) r + (fun r => if sk r = c then bI (rollOff (nI p) (hC ck cf cd nF (nI ((sk r) * 40 + p * 4 + m)) f) (hC ck cf cd nF (nI ((sk r) * 40 + (p - 1) * 4 + m)) f) (hC ck cf cd nF (nI ((fk r) * 40 + p * 4 + m)) f) cd cv = true) else 0) r); rw [← Int32.add_assoc]; show _ = _ + (if sk r = c then bI _ else 0); first | (rw [if_neg hsc]; exact (Int32.add_zero _).symm) | (rw [if_pos hsc, ← bI_f c_97]; exact (Int32.add_zero _).symm) | (rw [if_pos hsc, ← bI_t c_97]))  _ (lv_sub hl [0, 1, 2, 3, 4, 5, 6, 7, 8] rfl)
              · skip
                have c_97 := bI_n c_97
                refine lv_iinc (v := x7 + 1) (lv' := [(7, .int (x7 + 1)), (8, .int (nI r)), (6, .int (nI m)), (5, .int (nI p)), (4, .int (nI c)), (3, .int f), (2, .int (nI K)), (1, .ref (a 6)), (0, .ref (a 0))]) hx hb dX4_faultsAt_100 hl (k := 1) rfl (rfl) (by decide) rfl (fun ls hl => ?_)
                refine lv_iinc (v := nI (r + 1)) (lv' := [(8, .int (nI (r + 1))), (7, .int (x7 + 1)), (6, .int (nI m)), (5, .int (nI p)), (4, .int (nI c)), (3, .int f), (2, .int (nI K)), (1, .ref (a 6)), (0, .ref (a 0))]) hx hb dX4_faultsAt_103 hl (k := 1) rfl (nI_1 r) (by decide) rfl (fun ls hl => ?_)
                refine lv_goto (tgt := 64) hx hb dX4_faultsAt_106 (by decide) ?_
                exact ih64 (r + 1)  (x7 + 1) (by omega) (by omega) (by rw [e64_7]; show _ = _ + (sT (fun r => if sk r = c then bI (rollOff (nI p) (hC ck cf cd nF (nI ((sk r) * 40 + p * 4 + m)) f) (hC ck cf cd nF (nI ((sk r) * 40 + (p - 1) * 4 + m)) f) (hC ck cf cd nF (nI ((fk r) * 40 + p * 4 + m)) f) cd cv = true) else 0) r + (fun r => if sk r = c then bI (rollOff (nI p) (hC ck cf cd nF (nI ((sk r) * 40 + p * 4 + m)) f) (hC ck cf cd nF (nI ((sk r) * 40 + (p - 1) * 4 + m)) f) (hC ck cf cd nF (nI ((fk r) * 40 + p * 4 + m)) f) cd cv = true) else 0) r); rw [← Int32.add_assoc]; show _ = _ + (if sk r = c then bI _ else 0); first | (rw [if_neg hsc]; exact (Int32.add_zero _).symm) | (rw [if_pos hsc, ← bI_f c_97]; exact (Int32.add_zero _).symm) | (rw [if_pos hsc, ← bI_t c_97]))  _ (lv_sub hl [0, 1, 2, 3, 4, 5, 6, 7, 8] rfl)
      exact lp64 (nR + 1) 0  0 (by omega) (by omega) (Int32.add_zero _).symm  _ (lv_sub hl [0, 1, 2, 3, 4, 8, 7, 6, 5] rfl)
    · skip
      have hm0 : m = 0 := (nI_eq (by omega) (by decide)).mp c_43
      refine lv_aload_n hx hb dX4_faultsAt_46 rfl (lv_at hl 5 rfl) ?_
      refine lv_iload hx hb dX4_faultsAt_47 (lv_at hl 3 rfl) ?_
      refine lv_iload hx hb dX4_faultsAt_49 (lv_at hl 2 rfl) ?_
      refine lv_iload_n hx hb dX4_faultsAt_51 rfl (lv_at hl 7 rfl) ?_
      refine g_csi (va_runS (As := [.ref (a 6), .int (nI c), .int (nI p), .int f]) (rest := []) ⟨hx, hb, hml, hown, hts⟩ (c4_membersFail_K l D cI cZ cO cL dt A a FA nC nR nL nF par wt stk flw hd rea sig ck cf cd cv nx R c p f hF hC12 hck hcf hcd hcv hwt hCh hc hp) (va_cwS 4 hts gX4_faultsAt_X4_membersFail rfl rfl rfl (by decide +kernel) ⟨Nat.le_of_ble_eq_true rfl, Nat.le_of_ble_eq_true rfl⟩) (gP.s hg hP) rfl rfl hl.1 rfl (lv_room (Nat.le_of_ble_eq_true rfl)) dX4_faultsAt_52 ⟨Nat.le_of_ble_eq_true rfl, Nat.le_of_ble_eq_true rfl⟩) (fun r_3 hr_3 => ?_)
      obtain rfl : r_3 = bI (memOff (fun q => hC ck cf cd nF (nI (c * 40 + p * 4 + q)) f) cd cv = true) := hr_3
      refine lv_if_eq (tgt := 61) hx hb dX4_faultsAt_55 (by decide) (fun c_55 => ?_) (fun c_55 => ?_)
      · skip
        have c_55 := bI_z c_55
        refine lv_iconst (v := 0) hx hb dX4_faultsAt_61 (by decide) ?_
        refine lv_istore (lv' := [(8, .int 0), (7, .int 0), (6, .int (nI m)), (5, .int (nI p)), (4, .int (nI c)), (0, .ref (a 0)), (1, .ref (a 6)), (2, .int (nI K)), (3, .int f)]) hx hb dX4_faultsAt_62 hl (by decide) rfl (fun ls hl => ?_)
        have lp64 : ∀ (n64 r : Nat)  (x7 : Int32), nR < r + n64 → r ≤ nR → x7 = 0 + sT (fun r => if sk r = c then bI (rollOff (nI p) (hC ck cf cd nF (nI ((sk r) * 40 + p * 4 + m)) f) (hC ck cf cd nF (nI ((sk r) * 40 + (p - 1) * 4 + m)) f) (hC ck cf cd nF (nI ((fk r) * 40 + p * 4 + m)) f) cd cv = true) else 0) r → ∀ ls : Array Slot, lv_has ls 9 [(8, .int (nI r)), (7, .int x7), (6, .int (nI m)), (5, .int (nI p)), (4, .int (nI c)), (3, .int f), (2, .int (nI K)), (1, .ref (a 6)), (0, .ref (a 0))] → W p9 l e9 (headSpec wsX4_faultsAt ({ frames := 3, cells := 0, slots := 0, locals := 93 } : Room)).room s m9 ([.ref (a 0), .ref (a 6), .int (nI K), .int f] : List Value).toArray below meth c9 s.heap [] 0 0 (MQ below (vp_Si (fun z => z = fltA nC nR par wt sk fk (fun K => hC ck cf cd nF (nI K) f) cd cv c p m)) ([.ref (a 0), .ref (a 6), .int (nI K), .int f] : List Value).toArray s 0 0 (fun _ => False)) (F0 m9 64 ls []) := by
          intro n64
          induction n64 with
          | zero => intro r  x7 h1 h2; exact absurd h1 (by omega)
          | succ n64 ih64 =>
            intro r  x7 hn64 hk64 e64_7  ls hl
            refine lv_iload hx hb dX4_faultsAt_64 (lv_at hl 0 rfl) ?_
            refine lv_aload_n hx hb dX4_faultsAt_66 rfl (lv_at hl 8 rfl) ?_
            refine va_get (D := D) (ci := 3) (v := .int (nI nR)) (C := RX4) (T := TX4) (N := 11) hx hb hts win_X4 hown hK hP (0) (rfl) rfl 5 (by decide) w_0 (fun _ h9 => h9) rfl dX4_faultsAt_67 ?_
            refine lv_icmp_ge (tgt := 109) hx hb dX4_faultsAt_70 (by decide) (fun c_70 => ?_) (fun c_70 => ?_)
            · skip
              have hkF : r = nR := by have := (nI_leI (a := nR) (b := r) (by omega) (by omega)).mp c_70; omega
              rw [hkF] at e64_7
              refine lv_iload hx hb dX4_faultsAt_109 (lv_at hl 1 rfl) ?_
              exact W.iret (v := x7) hx hb hr (fun t ht hW => ⟨x7, rfl, (by rw [e64_7]; unfold fltA; congr 1; show _ = bI _ + _; first | (rw [← bI_t c_31]; first | (rw [if_pos hm0, ← bI_t c_55]; done) | (rw [if_pos hm0, ← bI_f c_55]; rfl) | (rw [if_neg hm0]; rfl)) | (rw [← bI_f c_31]; first | (rw [if_pos hm0, ← bI_t c_55]; done) | (rw [if_pos hm0, ← bI_f c_55]; rfl) | (rw [if_neg hm0]; rfl))), ht⟩) (fun q h => nomatch h) dX4_faultsAt_111
            · skip
              have hkF : r < nR := by have := mt (nI_leI (a := nR) (b := r) (by omega) (by omega)).mpr c_70; omega
              refine lv_aload_n hx hb dX4_faultsAt_73 rfl (lv_at hl 8 rfl) ?_
              refine va_get (D := D) (ci := 3) (v := .ref (a 3)) (C := RX4) (T := TX4) (N := 11) hx hb hts win_X4 hown hK hP (0) (rfl) rfl 3 (by decide) w_2 (fun _ h9 => h9) rfl dX4_faultsAt_74 ?_
              refine lv_iload hx hb dX4_faultsAt_77 (lv_at hl 0 rfl) ?_
              refine g_iald hx hb hK hP (3) 0 (n := 5) (f := stk) (rfl) rfl r rfl (by omega) (by decide) dX4_faultsAt_79 ?_
              refine lv_iload hx hb dX4_faultsAt_80 (lv_at hl 4 rfl) ?_
              refine lv_icmp_ne (tgt := 103) hx hb dX4_faultsAt_82 (by decide) (fun c_82 => ?_) (fun c_82 => ?_)
              · skip
                have hsc : ¬ sk r = c := fun q => c_82 (by rw [hsk r, q])
                refine lv_iinc (v := nI (r + 1)) (lv' := [(8, .int (nI (r + 1))), (7, .int x7), (6, .int (nI m)), (5, .int (nI p)), (4, .int (nI c)), (3, .int f), (2, .int (nI K)), (1, .ref (a 6)), (0, .ref (a 0))]) hx hb dX4_faultsAt_103 hl (k := 0) rfl (nI_1 r) (by decide) rfl (fun ls hl => ?_)
                refine lv_goto (tgt := 64) hx hb dX4_faultsAt_106 (by decide) ?_
                exact ih64 (r + 1)  x7 (by omega) (by omega) (by rw [e64_7]; show _ = _ + (sT (fun r => if sk r = c then bI (rollOff (nI p) (hC ck cf cd nF (nI ((sk r) * 40 + p * 4 + m)) f) (hC ck cf cd nF (nI ((sk r) * 40 + (p - 1) * 4 + m)) f) (hC ck cf cd nF (nI ((fk r) * 40 + p * 4 + m)) f) cd cv = true) else 0) r + (fun r => if sk r = c then bI (rollOff (nI p) (hC ck cf cd nF (nI ((sk r) * 40 + p * 4 + m)) f) (hC ck cf cd nF (nI ((sk r) * 40 + (p - 1) * 4 + m)) f) (hC ck cf cd nF (nI ((fk r) * 40 + p * 4 + m)) f) cd cv = true) else 0) r); rw [← Int32.add_assoc]; show _ = _ + (if sk r = c then bI _ else 0); first | (rw [if_neg hsc]; exact (Int32.add_zero _).symm) | (rw [if_pos hsc, ← bI_f c_97]; exact (Int32.add_zero _).symm) | (rw [if_pos hsc, ← bI_t c_97]))  _ (lv_sub hl [0, 1, 2, 3, 4, 5, 6, 7, 8] rfl)
              · skip
                have hsc : sk r = c := by rw [hsk r] at c_82; exact (nI_eq (by have := hsk12 r; omega) (by omega)).mp c_82
                refine lv_aload_n hx hb dX4_faultsAt_85 rfl (lv_at hl 8 rfl) ?_
                refine lv_aload_n hx hb dX4_faultsAt_86 rfl (lv_at hl 7 rfl) ?_
                refine lv_iload hx hb dX4_faultsAt_87 (lv_at hl 0 rfl) ?_
                refine lv_iload hx hb dX4_faultsAt_89 (lv_at hl 3 rfl) ?_
                refine lv_iload hx hb dX4_faultsAt_91 (lv_at hl 2 rfl) ?_
                refine lv_iload_n hx hb dX4_faultsAt_93 rfl (lv_at hl 5 rfl) ?_
                refine g_csi (va_runV (As := [.ref (a 6), .int (nI r), .int (nI p), .int (nI m), .int f]) (rest := []) ⟨hx, hb, hml, hown, hts⟩ (c4_rollFails_K l D cI cZ cO cL dt A a FA nC nR nL nF par wt stk flw hd rea sig ck cf cd cv nx R r (sk r) (fk r) p m f hF hC12 hck hcf hcd hcv hwt hCh (by omega) (hsk r) (hfk r) (hsk12 r) (hfk12 r) hp hm) (cwV 5 hts gX4_faultsAt_X4_rollFails rfl rfl rfl (by decide +kernel) ⟨Nat.le_of_ble_eq_true rfl, Nat.le_of_ble_eq_true rfl⟩) (gP.v hg hP 3 rfl (0) (rfl) hP) rfl rfl hl.1 rfl (lv_room (Nat.le_of_ble_eq_true rfl)) dX4_faultsAt_94 ⟨Nat.le_of_ble_eq_true rfl, Nat.le_of_ble_eq_true rfl⟩) (fun r_4 hr_4 => ?_)
                obtain rfl : r_4 = bI (rollOff (nI p) (hC ck cf cd nF (nI ((sk r) * 40 + p * 4 + m)) f) (hC ck cf cd nF (nI ((sk r) * 40 + (p - 1) * 4 + m)) f) (hC ck cf cd nF (nI ((fk r) * 40 + p * 4 + m)) f) cd cv = true) := hr_4
                refine lv_if_eq (tgt := 103) hx hb dX4_faultsAt_97 (by decide) (fun c_97 => ?_) (fun c_97 => ?_)
                · skip
                  have c_97 := bI_z c_97
                  refine lv_iinc (v := nI (r + 1)) (lv' := [(8, .int (nI (r + 1))), (7, .int x7), (6, .int (nI m)), (5, .int (nI p)), (4, .int (nI c)), (3, .int f), (2, .int (nI K)), (1, .ref (a 6)), (0, .ref (a 0))]) hx hb dX4_faultsAt_103 hl (k := 0) rfl (nI_1 r) (by decide) rfl (fun ls hl => ?_)
                  refine lv_goto (tgt := 64) hx hb dX4_faultsAt_106 (by decide) ?_
                  exact ih64 (r + 1)  x7 (by omega) (by omega) (by rw [e64_7]; show _ = _ + (sT (fun r => if sk r = c then bI (rollOff (nI p) (hC ck cf cd nF (nI ((sk r) * 40 + p * 4 + m)) f) (hC ck cf cd nF (nI ((sk r) * 40 + (p - 1) * 4 + m)) f) (hC ck cf cd nF (nI ((fk r) * 40 + p * 4 + m)) f) cd cv = true) else 0) r + (fun r => if sk r = c then bI (rollOff (nI p) (hC ck cf cd nF (nI ((sk r) * 40 + p * 4 + m)) f) (hC ck cf cd nF (nI ((sk r) * 40 + (p - 1) * 4 + m)) f) (hC ck cf cd nF (nI ((fk r) * 40 + p * 4 + m)) f) cd cv = true) else 0) r); rw [← Int32.add_assoc]; show _ = _ + (if sk r = c then bI _ else 0); first | (rw [if_neg hsc]; exact (Int32.add_zero _).symm) | (rw [if_pos hsc, ← bI_f c_97]; exact (Int32.add_zero _).symm) | (rw [if_pos hsc, ← bI_t c_97]))  _ (lv_sub hl [0, 1, 2, 3, 4, 5, 6, 7, 8] rfl)
                · skip
                  have c_97 := bI_n c_97
                  refine lv_iinc (v := x7 + 1) (lv' := [(7, .int (x7 + 1)), (8, .int (nI r)), (6, .int (nI m)), (5, .int (nI p)), (4, .int (nI c)), (3, .int f), (2, .int (nI K)), (1, .ref (a 6)), (0, .ref (a 0))]) hx hb dX4_faultsAt_100 hl (k := 1) rfl (rfl) (by decide) rfl (fun ls hl => ?_)
                  refine lv_iinc (v := nI (r + 1)) (lv' := [(8, .int (nI (r + 1))), (7, .int (x7 + 1)), (6, .int (nI m)), (5, .int (nI p)), (4, .int (nI c)), (3, .int f), (2, .int (nI K)), (1, .ref (a 6)), (0, .ref (a 0))]) hx hb dX4_faultsAt_103 hl (k := 1) rfl (nI_1 r) (by decide) rfl (fun ls hl => ?_)
                  refine lv_goto (tgt := 64) hx hb dX4_faultsAt_106 (by decide) ?_
                  exact ih64 (r + 1)  (x7 + 1) (by omega) (by omega) (by rw [e64_7]; show _ = _ + (sT (fun r => if sk r = c then bI (rollOff (nI p) (hC ck cf cd nF (nI ((sk r) * 40 + p * 4 + m)) f) (hC ck cf cd nF (nI ((sk r) * 40 + (p - 1) * 4 + m)) f) (hC ck cf cd nF (nI ((fk r) * 40 + p * 4 + m)) f) cd cv = true) else 0) r + (fun r => if sk r = c then bI (rollOff (nI p) (hC ck cf cd nF (nI ((sk r) * 40 + p * 4 + m)) f) (hC ck cf cd nF (nI ((sk r) * 40 + (p - 1) * 4 + m)) f) (hC ck cf cd nF (nI ((fk r) * 40 + p * 4 + m)) f) cd cv = true) else 0) r); rw [← Int32.add_assoc]; show _ = _ + (if sk r = c then bI _ else 0); first | (rw [if_neg hsc]; exact (Int32.add_zero _).symm) | (rw [if_pos hsc, ← bI_f c_97]; exact (Int32.add_zero _).symm) | (rw [if_pos hsc, ← bI_t c_97]))  _ (lv_sub hl [0, 1, 2, 3, 4, 5, 6, 7, 8] rfl)
        exact lp64 (nR + 1) 0  0 (by omega) (by omega) (Int32.add_zero _).symm  _ (lv_sub hl [0, 1, 2, 3, 4, 8, 7, 6, 5] rfl)
      · skip
        have c_55 := bI_n c_55
        refine lv_iinc (v := 0 + 1) (lv' := [(7, .int (0 + 1)), (6, .int (nI m)), (5, .int (nI p)), (4, .int (nI c)), (0, .ref (a 0)), (1, .ref (a 6)), (2, .int (nI K)), (3, .int f)]) hx hb dX4_faultsAt_58 hl (k := 0) rfl (rfl) (by decide) rfl (fun ls hl => ?_)
        refine lv_iconst (v := 0) hx hb dX4_faultsAt_61 (by decide) ?_
        refine lv_istore (lv' := [(8, .int 0), (7, .int (0 + 1)), (6, .int (nI m)), (5, .int (nI p)), (4, .int (nI c)), (0, .ref (a 0)), (1, .ref (a 6)), (2, .int (nI K)), (3, .int f)]) hx hb dX4_faultsAt_62 hl (by decide) rfl (fun ls hl => ?_)
        have lp64 : ∀ (n64 r : Nat)  (x7 : Int32), nR < r + n64 → r ≤ nR → x7 = (0 + 1) + sT (fun r => if sk r = c then bI (rollOff (nI p) (hC ck cf cd nF (nI ((sk r) * 40 + p * 4 + m)) f) (hC ck cf cd nF (nI ((sk r) * 40 + (p - 1) * 4 + m)) f) (hC ck cf cd nF (nI ((fk r) * 40 + p * 4 + m)) f) cd cv = true) else 0) r → ∀ ls : Array Slot, lv_has ls 9 [(8, .int (nI r)), (7, .int x7), (6, .int (nI m)), (5, .int (nI p)), (4, .int (nI c)), (3, .int f), (2, .int (nI K)), (1, .ref (a 6)), (0, .ref (a 0))] → W p9 l e9 (headSpec wsX4_faultsAt ({ frames := 3, cells := 0, slots := 0, locals := 93 } : Room)).room s m9 ([.ref (a 0), .ref (a 6), .int (nI K), .int f] : List Value).toArray below meth c9 s.heap [] 0 0 (MQ below (vp_Si (fun z => z = fltA nC nR par wt sk fk (fun K => hC ck cf cd nF (nI K) f) cd cv c p m)) ([.ref (a 0), .ref (a 6), .int (nI K), .int f] : List Value).toArray s 0 0 (fun _ => False)) (F0 m9 64 ls []) := by
          intro n64
          induction n64 with
          | zero => intro r  x7 h1 h2; exact absurd h1 (by omega)
          | succ n64 ih64 =>
            intro r  x7 hn64 hk64 e64_7  ls hl
            refine lv_iload hx hb dX4_faultsAt_64 (lv_at hl 0 rfl) ?_
            refine lv_aload_n hx hb dX4_faultsAt_66 rfl (lv_at hl 8 rfl) ?_
            refine va_get (D := D) (ci := 3) (v := .int (nI nR)) (C := RX4) (T := TX4) (N := 11) hx hb hts win_X4 hown hK hP (0) (rfl) rfl 5 (by decide) w_0 (fun _ h9 => h9) rfl dX4_faultsAt_67 ?_
            refine lv_icmp_ge (tgt := 109) hx hb dX4_faultsAt_70 (by decide) (fun c_70 => ?_) (fun c_70 => ?_)
            · skip
              have hkF : r = nR := by have := (nI_leI (a := nR) (b := r) (by omega) (by omega)).mp c_70; omega
              rw [hkF] at e64_7
              refine lv_iload hx hb dX4_faultsAt_109 (lv_at hl 1 rfl) ?_
              exact W.iret (v := x7) hx hb hr (fun t ht hW => ⟨x7, rfl, (by rw [e64_7]; unfold fltA; congr 1; show _ = bI _ + _; first | (rw [← bI_t c_31]; first | (rw [if_pos hm0, ← bI_t c_55]; done) | (rw [if_pos hm0, ← bI_f c_55]; rfl) | (rw [if_neg hm0]; rfl)) | (rw [← bI_f c_31]; first | (rw [if_pos hm0, ← bI_t c_55]; done) | (rw [if_pos hm0, ← bI_f c_55]; rfl) | (rw [if_neg hm0]; rfl))), ht⟩) (fun q h => nomatch h) dX4_faultsAt_111
            · skip
              have hkF : r < nR := by have := mt (nI_leI (a := nR) (b := r) (by omega) (by omega)).mpr c_70; omega
              refine lv_aload_n hx hb dX4_faultsAt_73 rfl (lv_at hl 8 rfl) ?_
              refine va_get (D := D) (ci := 3) (v := .ref (a 3)) (C := RX4) (T := TX4) (N := 11) hx hb hts win_X4 hown hK hP (0) (rfl) rfl 3 (by decide) w_2 (fun _ h9 => h9) rfl dX4_faultsAt_74 ?_
              refine lv_iload hx hb dX4_faultsAt_77 (lv_at hl 0 rfl) ?_
              refine g_iald hx hb hK hP (3) 0 (n := 5) (f := stk) (rfl) rfl r rfl (by omega) (by decide) dX4_faultsAt_79 ?_
              refine lv_iload hx hb dX4_faultsAt_80 (lv_at hl 4 rfl) ?_
              refine lv_icmp_ne (tgt := 103) hx hb dX4_faultsAt_82 (by decide) (fun c_82 => ?_) (fun c_82 => ?_)
              · skip
                have hsc : ¬ sk r = c := fun q => c_82 (by rw [hsk r, q])
                refine lv_iinc (v := nI (r + 1)) (lv' := [(8, .int (nI (r + 1))), (7, .int x7), (6, .int (nI m)), (5, .int (nI p)), (4, .int (nI c)), (3, .int f), (2, .int (nI K)), (1, .ref (a 6)), (0, .ref (a 0))]) hx hb dX4_faultsAt_103 hl (k := 0) rfl (nI_1 r) (by decide) rfl (fun ls hl => ?_)
                refine lv_goto (tgt := 64) hx hb dX4_faultsAt_106 (by decide) ?_
                exact ih64 (r + 1)  x7 (by omega) (by omega) (by rw [e64_7]; show _ = _ + (sT (fun r => if sk r = c then bI (rollOff (nI p) (hC ck cf cd nF (nI ((sk r) * 40 + p * 4 + m)) f) (hC ck cf cd nF (nI ((sk r) * 40 + (p - 1) * 4 + m)) f) (hC ck cf cd nF (nI ((fk r) * 40 + p * 4 + m)) f) cd cv = true) else 0) r + (fun r => if sk r = c then bI (rollOff (nI p) (hC ck cf cd nF (nI ((sk r) * 40 + p * 4 + m)) f) (hC ck cf cd nF (nI ((sk r) * 40 + (p - 1) * 4 + m)) f) (hC ck cf cd nF (nI ((fk r) * 40 + p * 4 + m)) f) cd cv = true) else 0) r); rw [← Int32.add_assoc]; show _ = _ + (if sk r = c then bI _ else 0); first | (rw [if_neg hsc]; exact (Int32.add_zero _).symm) | (rw [if_pos hsc, ← bI_f c_97]; exact (Int32.add_zero _).symm) | (rw [if_pos hsc, ← bI_t c_97]))  _ (lv_sub hl [0, 1, 2, 3, 4, 5, 6, 7, 8] rfl)
              · skip
                have hsc : sk r = c := by rw [hsk r] at c_82; exact (nI_eq (by have := hsk12 r; omega) (by omega)).mp c_82
                refine lv_aload_n hx hb dX4_faultsAt_85 rfl (lv_at hl 8 rfl) ?_
                refine lv_aload_n hx hb dX4_faultsAt_86 rfl (lv_at hl 7 rfl) ?_
                refine lv_iload hx hb dX4_faultsAt_87 (lv_at hl 0 rfl) ?_
                refine lv_iload hx hb dX4_faultsAt_89 (lv_at hl 3 rfl) ?_
                refine lv_iload hx hb dX4_faultsAt_91 (lv_at hl 2 rfl) ?_
                refine lv_iload_n hx hb dX4_faultsAt_93 rfl (lv_at hl 5 rfl) ?_
                refine g_csi (va_runV (As := [.ref (a 6), .int (nI r), .int (nI p), .int (nI m), .int f]) (rest := []) ⟨hx, hb, hml, hown, hts⟩ (c4_rollFails_K l D cI cZ cO cL dt A a FA nC nR nL nF par wt stk flw hd rea sig ck cf cd cv nx R r (sk r) (fk r) p m f hF hC12 hck hcf hcd hcv hwt hCh (by omega) (hsk r) (hfk r) (hsk12 r) (hfk12 r) hp hm) (cwV 5 hts gX4_faultsAt_X4_rollFails rfl rfl rfl (by decide +kernel) ⟨Nat.le_of_ble_eq_true rfl, Nat.le_of_ble_eq_true rfl⟩) (gP.v hg hP 3 rfl (0) (rfl) hP) rfl rfl hl.1 rfl (lv_room (Nat.le_of_ble_eq_true rfl)) dX4_faultsAt_94 ⟨Nat.le_of_ble_eq_true rfl, Nat.le_of_ble_eq_true rfl⟩) (fun r_5 hr_5 => ?_)
                obtain rfl : r_5 = bI (rollOff (nI p) (hC ck cf cd nF (nI ((sk r) * 40 + p * 4 + m)) f) (hC ck cf cd nF (nI ((sk r) * 40 + (p - 1) * 4 + m)) f) (hC ck cf cd nF (nI ((fk r) * 40 + p * 4 + m)) f) cd cv = true) := hr_5
                refine lv_if_eq (tgt := 103) hx hb dX4_faultsAt_97 (by decide) (fun c_97 => ?_) (fun c_97 => ?_)
                · skip
                  have c_97 := bI_z c_97
                  refine lv_iinc (v := nI (r + 1)) (lv' := [(8, .int (nI (r + 1))), (7, .int x7), (6, .int (nI m)), (5, .int (nI p)), (4, .int (nI c)), (3, .int f), (2, .int (nI K)), (1, .ref (a 6)), (0, .ref (a 0))]) hx hb dX4_faultsAt_103 hl (k := 0) rfl (nI_1 r) (by decide) rfl (fun ls hl => ?_)
                  refine lv_goto (tgt := 64) hx hb dX4_faultsAt_106 (by decide) ?_
                  exact ih64 (r + 1)  x7 (by omega) (by omega) (by rw [e64_7]; show _ = _ + (sT (fun r => if sk r = c then bI (rollOff (nI p) (hC ck cf cd nF (nI ((sk r) * 40 + p * 4 + m)) f) (hC ck cf cd nF (nI ((sk r) * 40 + (p - 1) * 4 + m)) f) (hC ck cf cd nF (nI ((fk r) * 40 + p * 4 + m)) f) cd cv = true) else 0) r + (fun r => if sk r = c then bI (rollOff (nI p) (hC ck cf cd nF (nI ((sk r) * 40 + p * 4 + m)) f) (hC ck cf cd nF (nI ((sk r) * 40 + (p - 1) * 4 + m)) f) (hC ck cf cd nF (nI ((fk r) * 40 + p * 4 + m)) f) cd cv = true) else 0) r); rw [← Int32.add_assoc]; show _ = _ + (if sk r = c then bI _ else 0); first | (rw [if_neg hsc]; exact (Int32.add_zero _).symm) | (rw [if_pos hsc, ← bI_f c_97]; exact (Int32.add_zero _).symm) | (rw [if_pos hsc, ← bI_t c_97]))  _ (lv_sub hl [0, 1, 2, 3, 4, 5, 6, 7, 8] rfl)
                · skip
                  have c_97 := bI_n c_97
                  refine lv_iinc (v := x7 + 1) (lv' := [(7, .int (x7 + 1)), (8, .int (nI r)), (6, .int (nI m)), (5, .int (nI p)), (4, .int (nI c)), (3, .int f), (2, .int (nI K)), (1, .ref (a 6)), (0, .ref (a 0))]) hx hb dX4_faultsAt_100 hl (k := 1) rfl (rfl) (by decide) rfl (fun ls hl => ?_)
                  refine lv_iinc (v := nI (r + 1)) (lv' := [(8, .int (nI (r + 1))), (7, .int (x7 + 1)), (6, .int (nI m)), (5, .int (nI p)), (4, .int (nI c)), (3, .int f), (2, .int (nI K)), (1, .ref (a 6)), (0, .ref (a 0))]) hx hb dX4_faultsAt_103 hl (k := 1) rfl (nI_1 r) (by decide) rfl (fun ls hl => ?_)
                  refine lv_goto (tgt := 64) hx hb dX4_faultsAt_106 (by decide) ?_
                  exact ih64 (r + 1)  (x7 + 1) (by omega) (by omega) (by rw [e64_7]; show _ = _ + (sT (fun r => if sk r = c then bI (rollOff (nI p) (hC ck cf cd nF (nI ((sk r) * 40 + p * 4 + m)) f) (hC ck cf cd nF (nI ((sk r) * 40 + (p - 1) * 4 + m)) f) (hC ck cf cd nF (nI ((fk r) * 40 + p * 4 + m)) f) cd cv = true) else 0) r + (fun r => if sk r = c then bI (rollOff (nI p) (hC ck cf cd nF (nI ((sk r) * 40 + p * 4 + m)) f) (hC ck cf cd nF (nI ((sk r) * 40 + (p - 1) * 4 + m)) f) (hC ck cf cd nF (nI ((fk r) * 40 + p * 4 + m)) f) cd cv = true) else 0) r); rw [← Int32.add_assoc]; show _ = _ + (if sk r = c then bI _ else 0); first | (rw [if_neg hsc]; exact (Int32.add_zero _).symm) | (rw [if_pos hsc, ← bI_f c_97]; exact (Int32.add_zero _).symm) | (rw [if_pos hsc, ← bI_t c_97]))  _ (lv_sub hl [0, 1, 2, 3, 4, 5, 6, 7, 8] rfl)
        exact lp64 (nR + 1) 0  (0 + 1) (by omega) (by omega) (Int32.add_zero _).symm  _ (lv_sub hl [0, 1, 2, 3, 4, 8, 7, 6, 5] rfl)
  · skip
    have c_31 := bI_n c_31
    refine lv_iconst (v := 1) hx hb dX4_faultsAt_34 (by decide) ?_
    refine lv_goto (tgt := 39) hx hb dX4_faultsAt_35 (by decide) ?_
    refine lv_istore (lv' := [(7, .int 1), (6, .int (nI m)), (5, .int (nI p)), (4, .int (nI c)), (0, .ref (a 0)), (1, .ref (a 6)), (2, .int (nI K)), (3, .int f)]) hx hb dX4_faultsAt_39 hl (by decide) rfl (fun ls hl => ?_)
    refine lv_iload hx hb dX4_faultsAt_41 (lv_at hl 1 rfl) ?_
    refine lv_if_ne (tgt := 61) hx hb dX4_faultsAt_43 (by decide) (fun c_43 => ?_) (fun c_43 => ?_)
    · skip
      have hm0 : ¬ m = 0 := fun q => c_43 (by rw [q]; rfl)
      refine lv_iconst (v := 0) hx hb dX4_faultsAt_61 (by decide) ?_
      refine lv_istore (lv' := [(8, .int 0), (7, .int 1), (6, .int (nI m)), (5, .int (nI p)), (4, .int (nI c)), (0, .ref (a 0)), (1, .ref (a 6)), (2, .int (nI K)), (3, .int f)]) hx hb dX4_faultsAt_62 hl (by decide) rfl (fun ls hl => ?_)
      have lp64 : ∀ (n64 r : Nat)  (x7 : Int32), nR < r + n64 → r ≤ nR → x7 = 1 + sT (fun r => if sk r = c then bI (rollOff (nI p) (hC ck cf cd nF (nI ((sk r) * 40 + p * 4 + m)) f) (hC ck cf cd nF (nI ((sk r) * 40 + (p - 1) * 4 + m)) f) (hC ck cf cd nF (nI ((fk r) * 40 + p * 4 + m)) f) cd cv = true) else 0) r → ∀ ls : Array Slot, lv_has ls 9 [(8, .int (nI r)), (7, .int x7), (6, .int (nI m)), (5, .int (nI p)), (4, .int (nI c)), (3, .int f), (2, .int (nI K)), (1, .ref (a 6)), (0, .ref (a 0))] → W p9 l e9 (headSpec wsX4_faultsAt ({ frames := 3, cells := 0, slots := 0, locals := 93 } : Room)).room s m9 ([.ref (a 0), .ref (a 6), .int (nI K), .int f] : List Value).toArray below meth c9 s.heap [] 0 0 (MQ below (vp_Si (fun z => z = fltA nC nR par wt sk fk (fun K => hC ck cf cd nF (nI K) f) cd cv c p m)) ([.ref (a 0), .ref (a 6), .int (nI K), .int f] : List Value).toArray s 0 0 (fun _ => False)) (F0 m9 64 ls []) := by
        intro n64
        induction n64 with
        | zero => intro r  x7 h1 h2; exact absurd h1 (by omega)
        | succ n64 ih64 =>
          intro r  x7 hn64 hk64 e64_7  ls hl
          refine lv_iload hx hb dX4_faultsAt_64 (lv_at hl 0 rfl) ?_
          refine lv_aload_n hx hb dX4_faultsAt_66 rfl (lv_at hl 8 rfl) ?_
          refine va_get (D := D) (ci := 3) (v := .int (nI nR)) (C := RX4) (T := TX4) (N := 11) hx hb hts win_X4 hown hK hP (0) (rfl) rfl 5 (by decide) w_0 (fun _ h9 => h9) rfl dX4_faultsAt_67 ?_
          refine lv_icmp_ge (tgt := 109) hx hb dX4_faultsAt_70 (by decide) (fun c_70 => ?_) (fun c_70 => ?_)
          · skip
            have hkF : r = nR := by have := (nI_leI (a := nR) (b := r) (by omega) (by omega)).mp c_70; omega
            rw [hkF] at e64_7
            refine lv_iload hx hb dX4_faultsAt_109 (lv_at hl 1 rfl) ?_
            exact W.iret (v := x7) hx hb hr (fun t ht hW => ⟨x7, rfl, (by rw [e64_7]; unfold fltA; congr 1; show _ = bI _ + _; first | (rw [← bI_t c_31]; first | (rw [if_pos hm0, ← bI_t c_55]; done) | (rw [if_pos hm0, ← bI_f c_55]; rfl) | (rw [if_neg hm0]; rfl)) | (rw [← bI_f c_31]; first | (rw [if_pos hm0, ← bI_t c_55]; done) | (rw [if_pos hm0, ← bI_f c_55]; rfl) | (rw [if_neg hm0]; rfl))), ht⟩) (fun q h => nomatch h) dX4_faultsAt_111
          · skip
            have hkF : r < nR := by have := mt (nI_leI (a := nR) (b := r) (by omega) (by omega)).mpr c_70; omega
            refine lv_aload_n hx hb dX4_faultsAt_73 rfl (lv_at hl 8 rfl) ?_
            refine va_get (D := D) (ci := 3) (v := .ref (a 3)) (C := RX4) (T := TX4) (N := 11) hx hb hts win_X4 hown hK hP (0) (rfl) rfl 3 (by decide) w_2 (fun _ h9 => h9) rfl dX4_faultsAt_74 ?_
            refine lv_iload hx hb dX4_faultsAt_77 (lv_at hl 0 rfl) ?_
            refine g_iald hx hb hK hP (3) 0 (n := 5) (f := stk) (rfl) rfl r rfl (by omega) (by decide) dX4_faultsAt_79 ?_
            refine lv_iload hx hb dX4_faultsAt_80 (lv_at hl 4 rfl) ?_
            refine lv_icmp_ne (tgt := 103) hx hb dX4_faultsAt_82 (by decide) (fun c_82 => ?_) (fun c_82 => ?_)
            · skip
              have hsc : ¬ sk r = c := fun q => c_82 (by rw [hsk r, q])
              refine lv_iinc (v := nI (r + 1)) (lv' := [(8, .int (nI (r + 1))), (7, .int x7), (6, .int (nI m)), (5, .int (nI p)), (4, .int (nI c)), (3, .int f), (2, .int (nI K)), (1, .ref (a 6)), (0, .ref (a 0))]) hx hb dX4_faultsAt_103 hl (k := 0) rfl (nI_1 r) (by decide) rfl (fun ls hl => ?_)
              refine lv_goto (tgt := 64) hx hb dX4_faultsAt_106 (by decide) ?_
              exact ih64 (r + 1)  x7 (by omega) (by omega) (by rw [e64_7]; show _ = _ + (sT (fun r => if sk r = c then bI (rollOff (nI p) (hC ck cf cd nF (nI ((sk r) * 40 + p * 4 + m)) f) (hC ck cf cd nF (nI ((sk r) * 40 + (p - 1) * 4 + m)) f) (hC ck cf cd nF (nI ((fk r) * 40 + p * 4 + m)) f) cd cv = true) else 0) r + (fun r => if sk r = c then bI (rollOff (nI p) (hC ck cf cd nF (nI ((sk r) * 40 + p * 4 + m)) f) (hC ck cf cd nF (nI ((sk r) * 40 + (p - 1) * 4 + m)) f) (hC ck cf cd nF (nI ((fk r) * 40 + p * 4 + m)) f) cd cv = true) else 0) r); rw [← Int32.add_assoc]; show _ = _ + (if sk r = c then bI _ else 0); first | (rw [if_neg hsc]; exact (Int32.add_zero _).symm) | (rw [if_pos hsc, ← bI_f c_97]; exact (Int32.add_zero _).symm) | (rw [if_pos hsc, ← bI_t c_97]))  _ (lv_sub hl [0, 1, 2, 3, 4, 5, 6, 7, 8] rfl)
            · skip
              have hsc : sk r = c := by rw [hsk r] at c_82; exact (nI_eq (by have := hsk12 r; omega) (by omega)).mp c_82
              refine lv_aload_n hx hb dX4_faultsAt_85 rfl (lv_at hl 8 rfl) ?_
              refine lv_aload_n hx hb dX4_faultsAt_86 rfl (lv_at hl 7 rfl) ?_
              refine lv_iload hx hb dX4_faultsAt_87 (lv_at hl 0 rfl) ?_
              refine lv_iload hx hb dX4_faultsAt_89 (lv_at hl 3 rfl) ?_
              refine lv_iload hx hb dX4_faultsAt_91 (lv_at hl 2 rfl) ?_
              refine lv_iload_n hx hb dX4_faultsAt_93 rfl (lv_at hl 5 rfl) ?_
              refine g_csi (va_runV (As := [.ref (a 6), .int (nI r), .int (nI p), .int (nI m), .int f]) (rest := []) ⟨hx, hb, hml, hown, hts⟩ (c4_rollFails_K l D cI cZ cO cL dt A a FA nC nR nL nF par wt stk flw hd rea sig ck cf cd cv nx R r (sk r) (fk r) p m f hF hC12 hck hcf hcd hcv hwt hCh (by omega) (hsk r) (hfk r) (hsk12 r) (hfk12 r) hp hm) (cwV 5 hts gX4_faultsAt_X4_rollFails rfl rfl rfl (by decide +kernel) ⟨Nat.le_of_ble_eq_true rfl, Nat.le_of_ble_eq_true rfl⟩) (gP.v hg hP 3 rfl (0) (rfl) hP) rfl rfl hl.1 rfl (lv_room (Nat.le_of_ble_eq_true rfl)) dX4_faultsAt_94 ⟨Nat.le_of_ble_eq_true rfl, Nat.le_of_ble_eq_true rfl⟩) (fun r_6 hr_6 => ?_)
              obtain rfl : r_6 = bI (rollOff (nI p) (hC ck cf cd nF (nI ((sk r) * 40 + p * 4 + m)) f) (hC ck cf cd nF (nI ((sk r) * 40 + (p - 1) * 4 + m)) f) (hC ck cf cd nF (nI ((fk r) * 40 + p * 4 + m)) f) cd cv = true) := hr_6
              refine lv_if_eq (tgt := 103) hx hb dX4_faultsAt_97 (by decide) (fun c_97 => ?_) (fun c_97 => ?_)
              · skip
                have c_97 := bI_z c_97
                refine lv_iinc (v := nI (r + 1)) (lv' := [(8, .int (nI (r + 1))), (7, .int x7), (6, .int (nI m)), (5, .int (nI p)), (4, .int (nI c)), (3, .int f), (2, .int (nI K)), (1, .ref (a 6)), (0, .ref (a 0))]) hx hb dX4_faultsAt_103 hl (k := 0) rfl (nI_1 r) (by decide) rfl (fun ls hl => ?_)
                refine lv_goto (tgt := 64) hx hb dX4_faultsAt_106 (by decide) ?_
                exact ih64 (r + 1)  x7 (by omega) (by omega) (by rw [e64_7]; show _ = _ + (sT (fun r => if sk r = c then bI (rollOff (nI p) (hC ck cf cd nF (nI ((sk r) * 40 + p * 4 + m)) f) (hC ck cf cd nF (nI ((sk r) * 40 + (p - 1) * 4 + m)) f) (hC ck cf cd nF (nI ((fk r) * 40 + p * 4 + m)) f) cd cv = true) else 0) r + (fun r => if sk r = c then bI (rollOff (nI p) (hC ck cf cd nF (nI ((sk r) * 40 + p * 4 + m)) f) (hC ck cf cd nF (nI ((sk r) * 40 + (p - 1) * 4 + m)) f) (hC ck cf cd nF (nI ((fk r) * 40 + p * 4 + m)) f) cd cv = true) else 0) r); rw [← Int32.add_assoc]; show _ = _ + (if sk r = c then bI _ else 0); first | (rw [if_neg hsc]; exact (Int32.add_zero _).symm) | (rw [if_pos hsc, ← bI_f c_97]; exact (Int32.add_zero _).symm) | (rw [if_pos hsc, ← bI_t c_97]))  _ (lv_sub hl [0, 1, 2, 3, 4, 5, 6, 7, 8] rfl)
              · skip
                have c_97 := bI_n c_97
                refine lv_iinc (v := x7 + 1) (lv' := [(7, .int (x7 + 1)), (8, .int (nI r)), (6, .int (nI m)), (5, .int (nI p)), (4, .int (nI c)), (3, .int f), (2, .int (nI K)), (1, .ref (a 6)), (0, .ref (a 0))]) hx hb dX4_faultsAt_100 hl (k := 1) rfl (rfl) (by decide) rfl (fun ls hl => ?_)
                refine lv_iinc (v := nI (r + 1)) (lv' := [(8, .int (nI (r + 1))), (7, .int (x7 + 1)), (6, .int (nI m)), (5, .int (nI p)), (4, .int (nI c)), (3, .int f), (2, .int (nI K)), (1, .ref (a 6)), (0, .ref (a 0))]) hx hb dX4_faultsAt_103 hl (k := 1) rfl (nI_1 r) (by decide) rfl (fun ls hl => ?_)
                refine lv_goto (tgt := 64) hx hb dX4_faultsAt_106 (by decide) ?_
                exact ih64 (r + 1)  (x7 + 1) (by omega) (by omega) (by rw [e64_7]; show _ = _ + (sT (fun r => if sk r = c then bI (rollOff (nI p) (hC ck cf cd nF (nI ((sk r) * 40 + p * 4 + m)) f) (hC ck cf cd nF (nI ((sk r) * 40 + (p - 1) * 4 + m)) f) (hC ck cf cd nF (nI ((fk r) * 40 + p * 4 + m)) f) cd cv = true) else 0) r + (fun r => if sk r = c then bI (rollOff (nI p) (hC ck cf cd nF (nI ((sk r) * 40 + p * 4 + m)) f) (hC ck cf cd nF (nI ((sk r) * 40 + (p - 1) * 4 + m)) f) (hC ck cf cd nF (nI ((fk r) * 40 + p * 4 + m)) f) cd cv = true) else 0) r); rw [← Int32.add_assoc]; show _ = _ + (if sk r = c then bI _ else 0); first | (rw [if_neg hsc]; exact (Int32.add_zero _).symm) | (rw [if_pos hsc, ← bI_f c_97]; exact (Int32.add_zero _).symm) | (rw [if_pos hsc, ← bI_t c_97]))  _ (lv_sub hl [0, 1, 2, 3, 4, 5, 6, 7, 8] rfl)
      exact lp64 (nR + 1) 0  1 (by omega) (by omega) (Int32.add_zero _).symm  _ (lv_sub hl [0, 1, 2, 3, 4, 8, 7, 6, 5] rfl)
    · skip
      have hm0 : m = 0 := (nI_eq (by omega) (by decide)).mp c_43
      refine lv_aload_n hx hb dX4_faultsAt_46 rfl (lv_at hl 5 rfl) ?_
      refine lv_iload hx hb dX4_faultsAt_47 (lv_at hl 3 rfl) ?_
      refine lv_iload hx hb dX4_faultsAt_49 (lv_at hl 2 rfl) ?_
      refine lv_iload_n hx hb dX4_faultsAt_51 rfl (lv_at hl 7 rfl) ?_
      refine g_csi (va_runS (As := [.ref (a 6), .int (nI c), .int (nI p), .int f]) (rest := []) ⟨hx, hb, hml, hown, hts⟩ (c4_membersFail_K l D cI cZ cO cL dt A a FA nC nR nL nF par wt stk flw hd rea sig ck cf cd cv nx R c p f hF hC12 hck hcf hcd hcv hwt hCh hc hp) (va_cwS 4 hts gX4_faultsAt_X4_membersFail rfl rfl rfl (by decide +kernel) ⟨Nat.le_of_ble_eq_true rfl, Nat.le_of_ble_eq_true rfl⟩) (gP.s hg hP) rfl rfl hl.1 rfl (lv_room (Nat.le_of_ble_eq_true rfl)) dX4_faultsAt_52 ⟨Nat.le_of_ble_eq_true rfl, Nat.le_of_ble_eq_true rfl⟩) (fun r_7 hr_7 => ?_)
      obtain rfl : r_7 = bI (memOff (fun q => hC ck cf cd nF (nI (c * 40 + p * 4 + q)) f) cd cv = true) := hr_7
      refine lv_if_eq (tgt := 61) hx hb dX4_faultsAt_55 (by decide) (fun c_55 => ?_) (fun c_55 => ?_)
      · skip
        have c_55 := bI_z c_55
        refine lv_iconst (v := 0) hx hb dX4_faultsAt_61 (by decide) ?_
        refine lv_istore (lv' := [(8, .int 0), (7, .int 1), (6, .int (nI m)), (5, .int (nI p)), (4, .int (nI c)), (0, .ref (a 0)), (1, .ref (a 6)), (2, .int (nI K)), (3, .int f)]) hx hb dX4_faultsAt_62 hl (by decide) rfl (fun ls hl => ?_)
        have lp64 : ∀ (n64 r : Nat)  (x7 : Int32), nR < r + n64 → r ≤ nR → x7 = 1 + sT (fun r => if sk r = c then bI (rollOff (nI p) (hC ck cf cd nF (nI ((sk r) * 40 + p * 4 + m)) f) (hC ck cf cd nF (nI ((sk r) * 40 + (p - 1) * 4 + m)) f) (hC ck cf cd nF (nI ((fk r) * 40 + p * 4 + m)) f) cd cv = true) else 0) r → ∀ ls : Array Slot, lv_has ls 9 [(8, .int (nI r)), (7, .int x7), (6, .int (nI m)), (5, .int (nI p)), (4, .int (nI c)), (3, .int f), (2, .int (nI K)), (1, .ref (a 6)), (0, .ref (a 0))] → W p9 l e9 (headSpec wsX4_faultsAt ({ frames := 3, cells := 0, slots := 0, locals := 93 } : Room)).room s m9 ([.ref (a 0), .ref (a 6), .int (nI K), .int f] : List Value).toArray below meth c9 s.heap [] 0 0 (MQ below (vp_Si (fun z => z = fltA nC nR par wt sk fk (fun K => hC ck cf cd nF (nI K) f) cd cv c p m)) ([.ref (a 0), .ref (a 6), .int (nI K), .int f] : List Value).toArray s 0 0 (fun _ => False)) (F0 m9 64 ls []) := by
          intro n64
          induction n64 with
          | zero => intro r  x7 h1 h2; exact absurd h1 (by omega)
          | succ n64 ih64 =>
            intro r  x7 hn64 hk64 e64_7  ls hl
            refine lv_iload hx hb dX4_faultsAt_64 (lv_at hl 0 rfl) ?_
            refine lv_aload_n hx hb dX4_faultsAt_66 rfl (lv_at hl 8 rfl) ?_
            refine va_get (D := D) (ci := 3) (v := .int (nI nR)) (C := RX4) (T := TX4) (N := 11) hx hb hts win_X4 hown hK hP (0) (rfl) rfl 5 (by decide) w_0 (fun _ h9 => h9) rfl dX4_faultsAt_67 ?_
            refine lv_icmp_ge (tgt := 109) hx hb dX4_faultsAt_70 (by decide) (fun c_70 => ?_) (fun c_70 => ?_)
            · skip
              have hkF : r = nR := by have := (nI_leI (a := nR) (b := r) (by omega) (by omega)).mp c_70; omega
              rw [hkF] at e64_7
              refine lv_iload hx hb dX4_faultsAt_109 (lv_at hl 1 rfl) ?_
              exact W.iret (v := x7) hx hb hr (fun t ht hW => ⟨x7, rfl, (by rw [e64_7]; unfold fltA; congr 1; show _ = bI _ + _; first | (rw [← bI_t c_31]; first | (rw [if_pos hm0, ← bI_t c_55]; done) | (rw [if_pos hm0, ← bI_f c_55]; rfl) | (rw [if_neg hm0]; rfl)) | (rw [← bI_f c_31]; first | (rw [if_pos hm0, ← bI_t c_55]; done) | (rw [if_pos hm0, ← bI_f c_55]; rfl) | (rw [if_neg hm0]; rfl))), ht⟩) (fun q h => nomatch h) dX4_faultsAt_111
            · skip
              have hkF : r < nR := by have := mt (nI_leI (a := nR) (b := r) (by omega) (by omega)).mpr c_70; omega
              refine lv_aload_n hx hb dX4_faultsAt_73 rfl (lv_at hl 8 rfl) ?_
              refine va_get (D := D) (ci := 3) (v := .ref (a 3)) (C := RX4) (T := TX4) (N := 11) hx hb hts win_X4 hown hK hP (0) (rfl) rfl 3 (by decide) w_2 (fun _ h9 => h9) rfl dX4_faultsAt_74 ?_
              refine lv_iload hx hb dX4_faultsAt_77 (lv_at hl 0 rfl) ?_
              refine g_iald hx hb hK hP (3) 0 (n := 5) (f := stk) (rfl) rfl r rfl (by omega) (by decide) dX4_faultsAt_79 ?_
              refine lv_iload hx hb dX4_faultsAt_80 (lv_at hl 4 rfl) ?_
              refine lv_icmp_ne (tgt := 103) hx hb dX4_faultsAt_82 (by decide) (fun c_82 => ?_) (fun c_82 => ?_)
              · skip
                have hsc : ¬ sk r = c := fun q => c_82 (by rw [hsk r, q])
                refine lv_iinc (v := nI (r + 1)) (lv' := [(8, .int (nI (r + 1))), (7, .int x7), (6, .int (nI m)), (5, .int (nI p)), (4, .int (nI c)), (3, .int f), (2, .int (nI K)), (1, .ref (a 6)), (0, .ref (a 0))]) hx hb dX4_faultsAt_103 hl (k := 0) rfl (nI_1 r) (by decide) rfl (fun ls hl => ?_)
                refine lv_goto (tgt := 64) hx hb dX4_faultsAt_106 (by decide) ?_
                exact ih64 (r + 1)  x7 (by omega) (by omega) (by rw [e64_7]; show _ = _ + (sT (fun r => if sk r = c then bI (rollOff (nI p) (hC ck cf cd nF (nI ((sk r) * 40 + p * 4 + m)) f) (hC ck cf cd nF (nI ((sk r) * 40 + (p - 1) * 4 + m)) f) (hC ck cf cd nF (nI ((fk r) * 40 + p * 4 + m)) f) cd cv = true) else 0) r + (fun r => if sk r = c then bI (rollOff (nI p) (hC ck cf cd nF (nI ((sk r) * 40 + p * 4 + m)) f) (hC ck cf cd nF (nI ((sk r) * 40 + (p - 1) * 4 + m)) f) (hC ck cf cd nF (nI ((fk r) * 40 + p * 4 + m)) f) cd cv = true) else 0) r); rw [← Int32.add_assoc]; show _ = _ + (if sk r = c then bI _ else 0); first | (rw [if_neg hsc]; exact (Int32.add_zero _).symm) | (rw [if_pos hsc, ← bI_f c_97]; exact (Int32.add_zero _).symm) | (rw [if_pos hsc, ← bI_t c_97]))  _ (lv_sub hl [0, 1, 2, 3, 4, 5, 6, 7, 8] rfl)
              · skip
                have hsc : sk r = c := by rw [hsk r] at c_82; exact (nI_eq (by have := hsk12 r; omega) (by omega)).mp c_82
                refine lv_aload_n hx hb dX4_faultsAt_85 rfl (lv_at hl 8 rfl) ?_
                refine lv_aload_n hx hb dX4_faultsAt_86 rfl (lv_at hl 7 rfl) ?_
                refine lv_iload hx hb dX4_faultsAt_87 (lv_at hl 0 rfl) ?_
                refine lv_iload hx hb dX4_faultsAt_89 (lv_at hl 3 rfl) ?_
                refine lv_iload hx hb dX4_faultsAt_91 (lv_at hl 2 rfl) ?_
                refine lv_iload_n hx hb dX4_faultsAt_93 rfl (lv_at hl 5 rfl) ?_
                refine g_csi (va_runV (As := [.ref (a 6), .int (nI r), .int (nI p), .int (nI m), .int f]) (rest := []) ⟨hx, hb, hml, hown, hts⟩ (c4_rollFails_K l D cI cZ cO cL dt A a FA nC nR nL nF par wt stk flw hd rea sig ck cf cd cv nx R r (sk r) (fk r) p m f hF hC12 hck hcf hcd hcv hwt hCh (by omega) (hsk r) (hfk r) (hsk12 r) (hfk12 r) hp hm) (cwV 5 hts gX4_faultsAt_X4_rollFails rfl rfl rfl (by decide +kernel) ⟨Nat.le_of_ble_eq_true rfl, Nat.le_of_ble_eq_true rfl⟩) (gP.v hg hP 3 rfl (0) (rfl) hP) rfl rfl hl.1 rfl (lv_room (Nat.le_of_ble_eq_true rfl)) dX4_faultsAt_94 ⟨Nat.le_of_ble_eq_true rfl, Nat.le_of_ble_eq_true rfl⟩) (fun r_8 hr_8 => ?_)
                obtain rfl : r_8 = bI (rollOff (nI p) (hC ck cf cd nF (nI ((sk r) * 40 + p * 4 + m)) f) (hC ck cf cd nF (nI ((sk r) * 40 + (p - 1) * 4 + m)) f) (hC ck cf cd nF (nI ((fk r) * 40 + p * 4 + m)) f) cd cv = true) := hr_8
                refine lv_if_eq (tgt := 103) hx hb dX4_faultsAt_97 (by decide) (fun c_97 => ?_) (fun c_97 => ?_)
                · skip
                  have c_97 := bI_z c_97
                  refine lv_iinc (v := nI (r + 1)) (lv' := [(8, .int (nI (r + 1))), (7, .int x7), (6, .int (nI m)), (5, .int (nI p)), (4, .int (nI c)), (3, .int f), (2, .int (nI K)), (1, .ref (a 6)), (0, .ref (a 0))]) hx hb dX4_faultsAt_103 hl (k := 0) rfl (nI_1 r) (by decide) rfl (fun ls hl => ?_)
                  refine lv_goto (tgt := 64) hx hb dX4_faultsAt_106 (by decide) ?_
                  exact ih64 (r + 1)  x7 (by omega) (by omega) (by rw [e64_7]; show _ = _ + (sT (fun r => if sk r = c then bI (rollOff (nI p) (hC ck cf cd nF (nI ((sk r) * 40 + p * 4 + m)) f) (hC ck cf cd nF (nI ((sk r) * 40 + (p - 1) * 4 + m)) f) (hC ck cf cd nF (nI ((fk r) * 40 + p * 4 + m)) f) cd cv = true) else 0) r + (fun r => if sk r = c then bI (rollOff (nI p) (hC ck cf cd nF (nI ((sk r) * 40 + p * 4 + m)) f) (hC ck cf cd nF (nI ((sk r) * 40 + (p - 1) * 4 + m)) f) (hC ck cf cd nF (nI ((fk r) * 40 + p * 4 + m)) f) cd cv = true) else 0) r); rw [← Int32.add_assoc]; show _ = _ + (if sk r = c then bI _ else 0); first | (rw [if_neg hsc]; exact (Int32.add_zero _).symm) | (rw [if_pos hsc, ← bI_f c_97]; exact (Int32.add_zero _).symm) | (rw [if_pos hsc, ← bI_t c_97]))  _ (lv_sub hl [0, 1, 2, 3, 4, 5, 6, 7, 8] rfl)
                · skip
                  have c_97 := bI_n c_97
                  refine lv_iinc (v := x7 + 1) (lv' := [(7, .int (x7 + 1)), (8, .int (nI r)), (6, .int (nI m)), (5, .int (nI p)), (4, .int (nI c)), (3, .int f), (2, .int (nI K)), (1, .ref (a 6)), (0, .ref (a 0))]) hx hb dX4_faultsAt_100 hl (k := 1) rfl (rfl) (by decide) rfl (fun ls hl => ?_)
                  refine lv_iinc (v := nI (r + 1)) (lv' := [(8, .int (nI (r + 1))), (7, .int (x7 + 1)), (6, .int (nI m)), (5, .int (nI p)), (4, .int (nI c)), (3, .int f), (2, .int (nI K)), (1, .ref (a 6)), (0, .ref (a 0))]) hx hb dX4_faultsAt_103 hl (k := 1) rfl (nI_1 r) (by decide) rfl (fun ls hl => ?_)
                  refine lv_goto (tgt := 64) hx hb dX4_faultsAt_106 (by decide) ?_
                  exact ih64 (r + 1)  (x7 + 1) (by omega) (by omega) (by rw [e64_7]; show _ = _ + (sT (fun r => if sk r = c then bI (rollOff (nI p) (hC ck cf cd nF (nI ((sk r) * 40 + p * 4 + m)) f) (hC ck cf cd nF (nI ((sk r) * 40 + (p - 1) * 4 + m)) f) (hC ck cf cd nF (nI ((fk r) * 40 + p * 4 + m)) f) cd cv = true) else 0) r + (fun r => if sk r = c then bI (rollOff (nI p) (hC ck cf cd nF (nI ((sk r) * 40 + p * 4 + m)) f) (hC ck cf cd nF (nI ((sk r) * 40 + (p - 1) * 4 + m)) f) (hC ck cf cd nF (nI ((fk r) * 40 + p * 4 + m)) f) cd cv = true) else 0) r); rw [← Int32.add_assoc]; show _ = _ + (if sk r = c then bI _ else 0); first | (rw [if_neg hsc]; exact (Int32.add_zero _).symm) | (rw [if_pos hsc, ← bI_f c_97]; exact (Int32.add_zero _).symm) | (rw [if_pos hsc, ← bI_t c_97]))  _ (lv_sub hl [0, 1, 2, 3, 4, 5, 6, 7, 8] rfl)
        exact lp64 (nR + 1) 0  1 (by omega) (by omega) (Int32.add_zero _).symm  _ (lv_sub hl [0, 1, 2, 3, 4, 8, 7, 6, 5] rfl)
      · skip
        have c_55 := bI_n c_55
        refine lv_iinc (v := 1 + 1) (lv' := [(7, .int (1 + 1)), (6, .int (nI m)), (5, .int (nI p)), (4, .int (nI c)), (0, .ref (a 0)), (1, .ref (a 6)), (2, .int (nI K)), (3, .int f)]) hx hb dX4_faultsAt_58 hl (k := 0) rfl (rfl) (by decide) rfl (fun ls hl => ?_)
        refine lv_iconst (v := 0) hx hb dX4_faultsAt_61 (by decide) ?_
        refine lv_istore (lv' := [(8, .int 0), (7, .int (1 + 1)), (6, .int (nI m)), (5, .int (nI p)), (4, .int (nI c)), (0, .ref (a 0)), (1, .ref (a 6)), (2, .int (nI K)), (3, .int f)]) hx hb dX4_faultsAt_62 hl (by decide) rfl (fun ls hl => ?_)
        have lp64 : ∀ (n64 r : Nat)  (x7 : Int32), nR < r + n64 → r ≤ nR → x7 = (1 + 1) + sT (fun r => if sk r = c then bI (rollOff (nI p) (hC ck cf cd nF (nI ((sk r) * 40 + p * 4 + m)) f) (hC ck cf cd nF (nI ((sk r) * 40 + (p - 1) * 4 + m)) f) (hC ck cf cd nF (nI ((fk r) * 40 + p * 4 + m)) f) cd cv = true) else 0) r → ∀ ls : Array Slot, lv_has ls 9 [(8, .int (nI r)), (7, .int x7), (6, .int (nI m)), (5, .int (nI p)), (4, .int (nI c)), (3, .int f), (2, .int (nI K)), (1, .ref (a 6)), (0, .ref (a 0))] → W p9 l e9 (headSpec wsX4_faultsAt ({ frames := 3, cells := 0, slots := 0, locals := 93 } : Room)).room s m9 ([.ref (a 0), .ref (a 6), .int (nI K), .int f] : List Value).toArray below meth c9 s.heap [] 0 0 (MQ below (vp_Si (fun z => z = fltA nC nR par wt sk fk (fun K => hC ck cf cd nF (nI K) f) cd cv c p m)) ([.ref (a 0), .ref (a 6), .int (nI K), .int f] : List Value).toArray s 0 0 (fun _ => False)) (F0 m9 64 ls []) := by
          intro n64
          induction n64 with
          | zero => intro r  x7 h1 h2; exact absurd h1 (by omega)
          | succ n64 ih64 =>
            intro r  x7 hn64 hk64 e64_7  ls hl
            refine lv_iload hx hb dX4_faultsAt_64 (lv_at hl 0 rfl) ?_
            refine lv_aload_n hx hb dX4_faultsAt_66 rfl (lv_at hl 8 rfl) ?_
            refine va_get (D := D) (ci := 3) (v := .int (nI nR)) (C := RX4) (T := TX4) (N := 11) hx hb hts win_X4 hown hK hP (0) (rfl) rfl 5 (by decide) w_0 (fun _ h9 => h9) rfl dX4_faultsAt_67 ?_
            refine lv_icmp_ge (tgt := 109) hx hb dX4_faultsAt_70 (by decide) (fun c_70 => ?_) (fun c_70 => ?_)
            · skip
              have hkF : r = nR := by have := (nI_leI (a := nR) (b := r) (by omega) (by omega)).mp c_70; omega
              rw [hkF] at e64_7
              refine lv_iload hx hb dX4_faultsAt_109 (lv_at hl 1 rfl) ?_
              exact W.iret (v := x7) hx hb hr (fun t ht hW => ⟨x7, rfl, (by rw [e64_7]; unfold fltA; congr 1; show _ = bI _ + _; first | (rw [← bI_t c_31]; first | (rw [if_pos hm0, ← bI_t c_55]; done) | (rw [if_pos hm0, ← bI_f c_55]; rfl) | (rw [if_neg hm0]; rfl)) | (rw [← bI_f c_31]; first | (rw [if_pos hm0, ← bI_t c_55]; done) | (rw [if_pos hm0, ← bI_f c_55]; rfl) | (rw [if_neg hm0]; rfl))), ht⟩) (fun q h => nomatch h) dX4_faultsAt_111
            · skip
              have hkF : r < nR := by have := mt (nI_leI (a := nR) (b := r) (by omega) (by omega)).mpr c_70; omega
              refine lv_aload_n hx hb dX4_faultsAt_73 rfl (lv_at hl 8 rfl) ?_
              refine va_get (D := D) (ci := 3) (v := .ref (a 3)) (C := RX4) (T := TX4) (N := 11) hx hb hts win_X4 hown hK hP (0) (rfl) rfl 3 (by decide) w_2 (fun _ h9 => h9) rfl dX4_faultsAt_74 ?_
              refine lv_iload hx hb dX4_faultsAt_77 (lv_at hl 0 rfl) ?_
              refine g_iald hx hb hK hP (3) 0 (n := 5) (f := stk) (rfl) rfl r rfl (by omega) (by decide) dX4_faultsAt_79 ?_
              refine lv_iload hx hb dX4_faultsAt_80 (lv_at hl 4 rfl) ?_
              refine lv_icmp_ne (tgt := 103) hx hb dX4_faultsAt_82 (by decide) (fun c_82 => ?_) (fun c_82 => ?_)
              · skip
                have hsc : ¬ sk r = c := fun q => c_82 (by rw [hsk r, q])
                refine lv_iinc (v := nI (r + 1)) (lv' := [(8, .int (nI (r + 1))), (7, .int x7), (6, .int (nI m)), (5, .int (nI p)), (4, .int (nI c)), (3, .int f), (2, .int (nI K)), (1, .ref (a 6)), (0, .ref (a 0))]) hx hb dX4_faultsAt_103 hl (k := 0) rfl (nI_1 r) (by decide) rfl (fun ls hl => ?_)
                refine lv_goto (tgt := 64) hx hb dX4_faultsAt_106 (by decide) ?_
                exact ih64 (r + 1)  x7 (by omega) (by omega) (by rw [e64_7]; show _ = _ + (sT (fun r => if sk r = c then bI (rollOff (nI p) (hC ck cf cd nF (nI ((sk r) * 40 + p * 4 + m)) f) (hC ck cf cd nF (nI ((sk r) * 40 + (p - 1) * 4 + m)) f) (hC ck cf cd nF (nI ((fk r) * 40 + p * 4 + m)) f) cd cv = true) else 0) r + (fun r => if sk r = c then bI (rollOff (nI p) (hC ck cf cd nF (nI ((sk r) * 40 + p * 4 + m)) f) (hC ck cf cd nF (nI ((sk r) * 40 + (p - 1) * 4 + m)) f) (hC ck cf cd nF (nI ((fk r) * 40 + p * 4 + m)) f) cd cv = true) else 0) r); rw [← Int32.add_assoc]; show _ = _ + (if sk r = c then bI _ else 0); first | (rw [if_neg hsc]; exact (Int32.add_zero _).symm) | (rw [if_pos hsc, ← bI_f c_97]; exact (Int32.add_zero _).symm) | (rw [if_pos hsc, ← bI_t c_97]))  _ (lv_sub hl [0, 1, 2, 3, 4, 5, 6, 7, 8] rfl)
              · skip
                have hsc : sk r = c := by rw [hsk r] at c_82; exact (nI_eq (by have := hsk12 r; omega) (by omega)).mp c_82
                refine lv_aload_n hx hb dX4_faultsAt_85 rfl (lv_at hl 8 rfl) ?_
                refine lv_aload_n hx hb dX4_faultsAt_86 rfl (lv_at hl 7 rfl) ?_
                refine lv_iload hx hb dX4_faultsAt_87 (lv_at hl 0 rfl) ?_
                refine lv_iload hx hb dX4_faultsAt_89 (lv_at hl 3 rfl) ?_
                refine lv_iload hx hb dX4_faultsAt_91 (lv_at hl 2 rfl) ?_
                refine lv_iload_n hx hb dX4_faultsAt_93 rfl (lv_at hl 5 rfl) ?_
                refine g_csi (va_runV (As := [.ref (a 6), .int (nI r), .int (nI p), .int (nI m), .int f]) (rest := []) ⟨hx, hb, hml, hown, hts⟩ (c4_rollFails_K l D cI cZ cO cL dt A a FA nC nR nL nF par wt stk flw hd rea sig ck cf cd cv nx R r (sk r) (fk r) p m f hF hC12 hck hcf hcd hcv hwt hCh (by omega) (hsk r) (hfk r) (hsk12 r) (hfk12 r) hp hm) (cwV 5 hts gX4_faultsAt_X4_rollFails rfl rfl rfl (by decide +kernel) ⟨Nat.le_of_ble_eq_true rfl, Nat.le_of_ble_eq_true rfl⟩) (gP.v hg hP 3 rfl (0) (rfl) hP) rfl rfl hl.1 rfl (lv_room (Nat.le_of_ble_eq_true rfl)) dX4_faultsAt_94 ⟨Nat.le_of_ble_eq_true rfl, Nat.le_of_ble_eq_true rfl⟩) (fun r_9 hr_9 => ?_)
                obtain rfl : r_9 = bI (rollOff (nI p) (hC ck cf cd nF (nI ((sk r) * 40 + p * 4 + m)) f) (hC ck cf cd nF (nI ((sk r) * 40 + (p - 1) * 4 + m)) f) (hC ck cf cd nF (nI ((fk r) * 40 + p * 4 + m)) f) cd cv = true) := hr_9
                refine lv_if_eq (tgt := 103) hx hb dX4_faultsAt_97 (by decide) (fun c_97 => ?_) (fun c_97 => ?_)
                · skip
                  have c_97 := bI_z c_97
                  refine lv_iinc (v := nI (r + 1)) (lv' := [(8, .int (nI (r + 1))), (7, .int x7), (6, .int (nI m)), (5, .int (nI p)), (4, .int (nI c)), (3, .int f), (2, .int (nI K)), (1, .ref (a 6)), (0, .ref (a 0))]) hx hb dX4_faultsAt_103 hl (k := 0) rfl (nI_1 r) (by decide) rfl (fun ls hl => ?_)
                  refine lv_goto (tgt := 64) hx hb dX4_faultsAt_106 (by decide) ?_
                  exact ih64 (r + 1)  x7 (by omega) (by omega) (by rw [e64_7]; show _ = _ + (sT (fun r => if sk r = c then bI (rollOff (nI p) (hC ck cf cd nF (nI ((sk r) * 40 + p * 4 + m)) f) (hC ck cf cd nF (nI ((sk r) * 40 + (p - 1) * 4 + m)) f) (hC ck cf cd nF (nI ((fk r) * 40 + p * 4 + m)) f) cd cv = true) else 0) r + (fun r => if sk r = c then bI (rollOff (nI p) (hC ck cf cd nF (nI ((sk r) * 40 + p * 4 + m)) f) (hC ck cf cd nF (nI ((sk r) * 40 + (p - 1) * 4 + m)) f) (hC ck cf cd nF (nI ((fk r) * 40 + p * 4 + m)) f) cd cv = true) else 0) r); rw [← Int32.add_assoc]; show _ = _ + (if sk r = c then bI _ else 0); first | (rw [if_neg hsc]; exact (Int32.add_zero _).symm) | (rw [if_pos hsc, ← bI_f c_97]; exact (Int32.add_zero _).symm) | (rw [if_pos hsc, ← bI_t c_97]))  _ (lv_sub hl [0, 1, 2, 3, 4, 5, 6, 7, 8] rfl)
                · skip
                  have c_97 := bI_n c_97
                  refine lv_iinc (v := x7 + 1) (lv' := [(7, .int (x7 + 1)), (8, .int (nI r)), (6, .int (nI m)), (5, .int (nI p)), (4, .int (nI c)), (3, .int f), (2, .int (nI K)), (1, .ref (a 6)), (0, .ref (a 0))]) hx hb dX4_faultsAt_100 hl (k := 1) rfl (rfl) (by decide) rfl (fun ls hl => ?_)
                  refine lv_iinc (v := nI (r + 1)) (lv' := [(8, .int (nI (r + 1))), (7, .int (x7 + 1)), (6, .int (nI m)), (5, .int (nI p)), (4, .int (nI c)), (3, .int f), (2, .int (nI K)), (1, .ref (a 6)), (0, .ref (a 0))]) hx hb dX4_faultsAt_103 hl (k := 1) rfl (nI_1 r) (by decide) rfl (fun ls hl => ?_)
                  refine lv_goto (tgt := 64) hx hb dX4_faultsAt_106 (by decide) ?_
                  exact ih64 (r + 1)  (x7 + 1) (by omega) (by omega) (by rw [e64_7]; show _ = _ + (sT (fun r => if sk r = c then bI (rollOff (nI p) (hC ck cf cd nF (nI ((sk r) * 40 + p * 4 + m)) f) (hC ck cf cd nF (nI ((sk r) * 40 + (p - 1) * 4 + m)) f) (hC ck cf cd nF (nI ((fk r) * 40 + p * 4 + m)) f) cd cv = true) else 0) r + (fun r => if sk r = c then bI (rollOff (nI p) (hC ck cf cd nF (nI ((sk r) * 40 + p * 4 + m)) f) (hC ck cf cd nF (nI ((sk r) * 40 + (p - 1) * 4 + m)) f) (hC ck cf cd nF (nI ((fk r) * 40 + p * 4 + m)) f) cd cv = true) else 0) r); rw [← Int32.add_assoc]; show _ = _ + (if sk r = c then bI _ else 0); first | (rw [if_neg hsc]; exact (Int32.add_zero _).symm) | (rw [if_pos hsc, ← bI_f c_97]; exact (Int32.add_zero _).symm) | (rw [if_pos hsc, ← bI_t c_97]))  _ (lv_sub hl [0, 1, 2, 3, 4, 5, 6, 7, 8] rfl)
        exact lp64 (nR + 1) 0  (1 + 1) (by omega) (by omega) (Int32.add_zero _).symm  _ (lv_sub hl [0, 1, 2, 3, 4, 8, 7, 6, 5] rfl)
set_option maxHeartbeats 4000000 in
set_option maxRecDepth 100000 in
/-- a key is told anew -/
theorem c4_isRestated (l : Launch) (D : va_G) (cI cZ cO cL : ClassId) (dt : Nat) (A : Nat → Prop) (a FA : Nat → Nat) (nC nR nL nF : Nat) (par wt stk flw : Nat → Int32) (hd : Nat → Option Nat) (rea sig : Nat → Int32) (ck cf cd : Nat → Nat) (cv : Nat → Int32) (nx : Nat → Option Nat) (R : va_W) (K : Nat) (f : Int32) (hF : nF ≤ 80) (hC12 : nC ≤ 12) (hck : ∀ k, ck k < 480) (hcf : ∀ k, cf k < 2 ^ 31) (hcd : ∀ k, cd k ≤ 4) (hcv : ∀ k, vOk (cv k)) (hwt : ∀ k, wOk (wt k)) (hCh : chOk ck cf cd hd nx nF) (hKb : K < 480) : Met l yX4_isRestated wsX4_isRestated ({ frames := 1, cells := 0, slots := 0, locals := 23 } : Room) (gP D cI cZ cO cL dt A [.ref (a 0), .int (nI K), .int f] (fun H => va_P D vwCl (WD cI cO a FA nC nR nL nF par wt stk flw hd rea sig ++ (WF FA ck cf cd cv nx nF ++ R)) H)) (vp_Si (fun r => r = bI (rstB f (hC ck cf cd nF (nI K) f) (hC ck cf cd nF (nI K) (f - 1)) cf cv = true))) 0 0 (fun _ => False) := by
  refine Met.ofW (cc := cX4_isRestated) (maxL := 5) (ret := (some .boolean)) (by decide) rfl ?_
  intro p9 e9 s m9 args below meth c9 s₁ B hml hv
  obtain ⟨rfl, hg, hP⟩ := hv
  have hx := B.exec
  have hb := B.bytes
  have hr := B.returns
  have hts := atoms_spec (ws := wsX4_isRestated) B.pre
  have hown : s.vm.findClass RX4 = some m9.cls := findClass_of_methodNamed B.named
  have hlocks := B.notSynchronized
  have hK := hg.1
  have w_0 := hts (.fieldLink RX4 32 "Dimfacts" "keyed" "LDimfacts$KeyedFacts;") (by decide +kernel)
  have win_X4 : ∀ w ∈ wsX40, w ∈ wsX4_isRestated := by decide +kernel
  have w_2 := hts (.fieldLink RX4 121 "Dimfacts$Fact" "filing" "I") (by decide +kernel)
  have win_X0 : ∀ w ∈ wsX00, w ∈ wsX4_isRestated := by decide +kernel
  have w_4 := hts (.fieldLink RX4 135 "Dimfacts$Fact" "value" "I") (by decide +kernel)
  have hl := lv_entry ([.ref (a 0), .int (nI K), .int f]) (n := 5) (Nat.le_of_ble_eq_true rfl)
  rw [lg_entry_eq]
  generalize (lg_sl ([.ref (a 0), .int (nI K), .int f]) ++ List.replicate (5 - (lg_sl ([.ref (a 0), .int (nI K), .int f])).length) Slot.unset).toArray = ls at hl ⊢
  have hl : lv_has ls 5 [(0, .ref (a 0)), (1, .int (nI K)), (2, .int f)] := hl
  refine lv_aload_n hx hb dX4_isRestated_0 rfl (lv_at hl 0 rfl) ?_
  refine va_get (D := D) (ci := 3) (v := .ref (a 6)) (C := RX4) (T := TX4) (N := 11) hx hb hts win_X4 hown hK hP (0) (rfl) rfl 8 (by decide) w_0 (fun _ h9 => h9) rfl dX4_isRestated_1 ?_
  refine lv_iload_n hx hb dX4_isRestated_4 rfl (lv_at hl 1 rfl) ?_
  refine lv_iload_n hx hb dX4_isRestated_5 rfl (lv_at hl 2 rfl) ?_
  refine g_csq (va_runV (As := [.int (nI K), .int f]) (rest := []) ⟨hx, hb, hml, hown, hts⟩ (c2_holding l D cI cZ cO cL dt A a FA nC nR nL nF par wt stk flw hd rea sig ck cf cd cv nx R K f (by omega) hck hCh) (cwV 2 hts gX4_isRestated_X2_holding rfl rfl rfl (by decide +kernel) ⟨Nat.le_of_ble_eq_true rfl, Nat.le_of_ble_eq_true rfl⟩) (gP.v hg hP 1 rfl (6) (rfl) hP) rfl rfl hl.1 rfl (lv_room (Nat.le_of_ble_eq_true rfl)) dX4_isRestated_6 ⟨Nat.le_of_ble_eq_true rfl, Nat.le_of_ble_eq_true rfl⟩) (fun r_1 hr_1 => ?_)
  obtain ⟨o_r_1, hN⟩ : ∃ z, hC ck cf cd nF (nI K) f = z := ⟨_, rfl⟩
  rcases o_r_1 with _ | j
  · skip
    obtain rfl : r_1 = none := hr_1.trans (congrArg (Option.map FA) hN)
    refine lv_astore_nN (lv' := [(3, .null), (0, .ref (a 0)), (1, .int (nI K)), (2, .int f)]) hx hb dX4_isRestated_9 rfl hl (by decide) rfl (fun ls hl => ?_)
    refine lv_aload_nN hx hb dX4_isRestated_10 rfl (lv_at hl 0 rfl) ?_
    refine lv_ifnullN (tgt := 22) hx hb dX4_isRestated_11 (by decide) ?_
    refine lv_iconst (v := 0) hx hb dX4_isRestated_22 (by decide) ?_
    exact W.zret (v := 0) hx hb hr (rfl) (fun t ht hW => ⟨0, rfl, (bI_f (by unfold rstB; rw [hN]; first | (simp; done) | (rw [hB]; simp; done) | (rw [hB]; simp only [Bool.and_eq_true, decide_eq_true_eq]; exact fun q => q.2 c_51) | (simp only [Bool.and_eq_true, decide_eq_true_eq]; exact fun q => c_19 q.1))), ht⟩) (fun q h => nomatch h) dX4_isRestated_23
  · skip
    obtain rfl : r_1 = some (FA j) := hr_1.trans (congrArg (Option.map FA) hN)
    have hj := (sel_lt hN).1
    refine lv_astore_n (lv' := [(3, .ref (FA j)), (0, .ref (a 0)), (1, .int (nI K)), (2, .int f)]) hx hb dX4_isRestated_9 rfl hl (by decide) rfl (fun ls hl => ?_)
    refine lv_aload_n hx hb dX4_isRestated_10 rfl (lv_at hl 0 rfl) ?_
    refine lv_ifnull hx hb dX4_isRestated_11 ?_
    refine lv_aload_n hx hb dX4_isRestated_14 rfl (lv_at hl 0 rfl) ?_
    refine va_get (D := D) (ci := 0) (v := .int (nI (cf j))) (C := RX0) (T := TX0) (N := 5) hx hb hts win_X0 hown hK hP (11 + j) (WDF_at (by omega)) rfl 1 (by decide) w_2 (fun _ h9 => h9) rfl dX4_isRestated_15 ?_
    refine lv_iload_n hx hb dX4_isRestated_18 rfl (lv_at hl 3 rfl) ?_
    refine lv_icmp_eq (tgt := 24) hx hb dX4_isRestated_19 (by decide) (fun c_19 => ?_) (fun c_19 => ?_)
    · skip
      refine lv_aload_n hx hb dX4_isRestated_24 rfl (lv_at hl 1 rfl) ?_
      refine va_get (D := D) (ci := 3) (v := .ref (a 6)) (C := RX4) (T := TX4) (N := 11) hx hb hts win_X4 hown hK hP (0) (rfl) rfl 8 (by decide) w_0 (fun _ h9 => h9) rfl dX4_isRestated_25 ?_
      refine lv_iload_n hx hb dX4_isRestated_28 rfl (lv_at hl 2 rfl) ?_
      refine lv_iload_n hx hb dX4_isRestated_29 rfl (lv_at hl 3 rfl) ?_
      refine lv_iconst (v := 1) hx hb dX4_isRestated_30 (by decide) ?_
      refine lv_isub hx hb dX4_isRestated_31 ?_
      refine g_csq (va_runV (As := [.int (nI K), .int (f - 1)]) (rest := []) ⟨hx, hb, hml, hown, hts⟩ (c2_holding l D cI cZ cO cL dt A a FA nC nR nL nF par wt stk flw hd rea sig ck cf cd cv nx R K (f - 1) (by omega) hck hCh) (cwV 2 hts gX4_isRestated_X2_holding rfl rfl rfl (by decide +kernel) ⟨Nat.le_of_ble_eq_true rfl, Nat.le_of_ble_eq_true rfl⟩) (gP.v hg hP 1 rfl (6) (rfl) hP) rfl rfl hl.1 rfl (lv_room (Nat.le_of_ble_eq_true rfl)) dX4_isRestated_32 ⟨Nat.le_of_ble_eq_true rfl, Nat.le_of_ble_eq_true rfl⟩) (fun r_2 hr_2 => ?_)
      obtain ⟨o_r_2, hB⟩ : ∃ z, hC ck cf cd nF (nI K) (f - 1) = z := ⟨_, rfl⟩
      rcases o_r_2 with _ | i
      · skip
        obtain rfl : r_2 = none := hr_2.trans (congrArg (Option.map FA) hB)
        refine lv_astoreN (lv' := [(4, .null), (3, .ref (FA j)), (0, .ref (a 0)), (1, .int (nI K)), (2, .int f)]) hx hb dX4_isRestated_35 hl (by decide) rfl (fun ls hl => ?_)
        refine lv_aloadN hx hb dX4_isRestated_37 (lv_at hl 0 rfl) ?_
        refine lv_ifnullN (tgt := 58) hx hb dX4_isRestated_39 (by decide) ?_
        refine lv_iconst (v := 0) hx hb dX4_isRestated_58 (by decide) ?_
        exact W.zret (v := 0) hx hb hr (rfl) (fun t ht hW => ⟨0, rfl, (bI_f (by unfold rstB; rw [hN]; first | (simp; done) | (rw [hB]; simp; done) | (rw [hB]; simp only [Bool.and_eq_true, decide_eq_true_eq]; exact fun q => q.2 c_51) | (simp only [Bool.and_eq_true, decide_eq_true_eq]; exact fun q => c_19 q.1))), ht⟩) (fun q h => nomatch h) dX4_isRestated_59
      · skip
        obtain rfl : r_2 = some (FA i) := hr_2.trans (congrArg (Option.map FA) hB)
        have hi := (sel_lt hB).1
        refine lv_astore (lv' := [(4, .ref (FA i)), (3, .ref (FA j)), (0, .ref (a 0)), (1, .int (nI K)), (2, .int f)]) hx hb dX4_isRestated_35 hl (by decide) rfl (fun ls hl => ?_)
        refine lv_aload hx hb dX4_isRestated_37 (lv_at hl 0 rfl) ?_
        refine lv_ifnull hx hb dX4_isRestated_39 ?_
        refine lv_aload hx hb dX4_isRestated_42 (lv_at hl 0 rfl) ?_
        refine va_get (D := D) (ci := 0) (v := .int (cv i)) (C := RX0) (T := TX0) (N := 5) hx hb hts win_X0 hown hK hP (11 + i) (WDF_at (by omega)) rfl 2 (by decide) w_4 (fun _ h9 => h9) rfl dX4_isRestated_44 ?_
        refine lv_aload_n hx hb dX4_isRestated_47 rfl (lv_at hl 1 rfl) ?_
        refine va_get (D := D) (ci := 0) (v := .int (cv j)) (C := RX0) (T := TX0) (N := 5) hx hb hts win_X0 hown hK hP (11 + j) (WDF_at (by omega)) rfl 2 (by decide) w_4 (fun _ h9 => h9) rfl dX4_isRestated_48 ?_
        refine lv_icmp_eq (tgt := 58) hx hb dX4_isRestated_51 (by decide) (fun c_51 => ?_) (fun c_51 => ?_)
        · skip
          refine lv_iconst (v := 0) hx hb dX4_isRestated_58 (by decide) ?_
          exact W.zret (v := 0) hx hb hr (rfl) (fun t ht hW => ⟨0, rfl, (bI_f (by unfold rstB; rw [hN]; first | (simp; done) | (rw [hB]; simp; done) | (rw [hB]; simp only [Bool.and_eq_true, decide_eq_true_eq]; exact fun q => q.2 c_51) | (simp only [Bool.and_eq_true, decide_eq_true_eq]; exact fun q => c_19 q.1))), ht⟩) (fun q h => nomatch h) dX4_isRestated_59
        · skip
          refine lv_iconst (v := 1) hx hb dX4_isRestated_54 (by decide) ?_
          refine lv_goto (tgt := 59) hx hb dX4_isRestated_55 (by decide) ?_
          exact W.zret (v := 1) hx hb hr (rfl) (fun t ht hW => ⟨1, rfl, (bI_t (by unfold rstB; rw [hN, hB]; simp only [Bool.and_eq_true, decide_eq_true_eq]; exact ⟨c_19, c_51⟩)), ht⟩) (fun q h => nomatch h) dX4_isRestated_59
    · skip
      refine lv_iconst (v := 0) hx hb dX4_isRestated_22 (by decide) ?_
      exact W.zret (v := 0) hx hb hr (rfl) (fun t ht hW => ⟨0, rfl, (bI_f (by unfold rstB; rw [hN]; first | (simp; done) | (rw [hB]; simp; done) | (rw [hB]; simp only [Bool.and_eq_true, decide_eq_true_eq]; exact fun q => q.2 c_51) | (simp only [Bool.and_eq_true, decide_eq_true_eq]; exact fun q => c_19 q.1))), ht⟩) (fun q h => nomatch h) dX4_isRestated_23
