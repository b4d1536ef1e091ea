set_option maxHeartbeats 4000000 in
set_option maxRecDepth 100000 in
/-- a concept is another, or under it -/
theorem c5_isBelow (l : Launch) (D : va_G) (cI cZ cO cL : ClassId) (dt : Nat) (A : Nat → Prop) (b : Nat → Nat) (mC mR mL mF : Nat) (mpar mwt mstk mflw : Nat → Int32) (mc mp mm mf md : Nat → Nat) (mv mder mkn : Nat → Int32) (thr : Int32) (R : va_W) (c t : Nat) (L : List Nat) (hT : tree mC mpar L) (hC12 : mC ≤ 12) (hc : c < mC) (ht12 : t < 12) : Met l yX5_isBelow wsX5_isBelow ({ frames := 0, cells := 0, slots := 0, locals := 0 } : Room) (gP D cI cZ cO cL dt A [.ref (b 0), .int (nI c), .int (nI t)] (fun H => va_P D vwCl (WM cI cZ b mC mR mL mF mpar mwt mstk mflw mc mp mm mf md mv mder mkn thr ++ R) H)) (vp_Si (fun r => r = bI (anc mpar (nI t) L (nI c) = true))) 0 0 (fun _ => False) := by
  refine Met.ofW (cc := cX5_isBelow) (maxL := 4) (ret := (some .boolean)) (by decide) rfl ?_
  intro p9 e9 s m9 args below meth c9 s₁ B hml hv
  obtain ⟨rfl, hg, hP⟩ := hv
  have hx := B.exec
  have hb := B.bytes
  have hr := B.returns
  have hts := atoms_spec (ws := wsX5_isBelow) B.pre
  have hown : s.vm.findClass RX5 = some m9.cls := findClass_of_methodNamed B.named
  have hlocks := B.notSynchronized
  have hK := hg.1
  have w_0 := hts (.fieldLink RX5 7 "DimfactsModel" "parent" "[I") (by decide +kernel)
  have win_X5 : ∀ w ∈ wsX50, w ∈ wsX5_isBelow := by decide +kernel
  have hl := lv_entry ([.ref (b 0), .int (nI c), .int (nI t)]) (n := 4) (Nat.le_of_ble_eq_true rfl)
  rw [lg_entry_eq]
  generalize (lg_sl ([.ref (b 0), .int (nI c), .int (nI t)]) ++ List.replicate (4 - (lg_sl ([.ref (b 0), .int (nI c), .int (nI t)])).length) Slot.unset).toArray = ls at hl ⊢
  have hl : lv_has ls 4 [(0, .ref (b 0)), (1, .int (nI c)), (2, .int (nI t))] := hl
  have lp : ∀ (n st : Nat) (x : Int32) (L' : List Nat), st + L'.length ≤ 12 → 12 < st + n → topo mpar L' → L'.Nodup → (∀ k, k ∈ L' → k < 12) → atL L' x → anc mpar (nI t) L (nI c) = anc mpar (nI t) L' x → ∀ ls : Array Slot, lv_has ls 4 [(3, .int x), (0, .ref (b 0)), (1, .int (nI c)), (2, .int (nI t))] → W p9 l e9 (headSpec wsX5_isBelow ({ frames := 0, cells := 0, slots := 0, locals := 0 } : Room)).room s m9 ([.ref (b 0), .int (nI c), .int (nI t)] : List Value).toArray below meth c9 s.heap [] 0 0 (MQ below (vp_Si (fun r => r = bI (anc mpar (nI t) L (nI c) = true))) ([.ref (b 0), .int (nI c), .int (nI t)] : List Value).toArray s 0 0 (fun _ => False)) (F0 m9 2 ls []) := by
    intro n
    induction n with
    | zero => intro st x L' h1 h2; exact absurd h2 (by omega)
    | succ n ih =>
      intro st x L' h1 h2 h3 h4 h5 h6 h7 ls hl
      have hb5 : ∀ k, k ∈ L' → k < 2 ^ 31 := fun k hk => by have := h5 k hk; omega
      refine lv_iload_n hx hb dX5_isBelow_2 rfl (lv_at hl 0 rfl) ?_
      refine lv_iconst (v := (-1)) hx hb dX5_isBelow_3 (by decide) ?_
      refine lv_icmp_eq (tgt := 22) hx hb dX5_isBelow_4 (by decide) (fun c_4 => ?_) (fun c_4 => ?_)
      · skip
        have hf : anc mpar (nI t) L (nI c) = false := by rw [h7, c_4]; exact anc_m1 hb5
        subst c_4
        refine lv_iload_n hx hb dX5_isBelow_22 rfl (lv_at hl 0 rfl) ?_
        refine lv_iload_n hx hb dX5_isBelow_23 rfl (lv_at hl 3 rfl) ?_
        refine lv_icmp_ne (tgt := 31) hx hb dX5_isBelow_24 (by decide) (fun c_24 => ?_) (fun c_24 => ?_)
        · skip
          refine lv_iconst (v := 0) hx hb dX5_isBelow_31 (by decide) ?_
          exact W.zret (v := 0) hx hb hr (rfl) (fun t ht hW => ⟨0, rfl, (bI_f (by rw [hf]; decide)), ht⟩) (fun q h => nomatch h) dX5_isBelow_32
        · skip
          exact absurd c_24.symm (nI_nm1 (by omega))
      · skip
        have hx1 : ∃ j, j ∈ L' ∧ x = nI j := by
          rcases h6 with q | q
          · exact absurd q c_4
          · exact q
        obtain ⟨j, hj, rfl⟩ := hx1
        obtain ⟨L2, g1, g2, g3, g4, g5, g6, g7⟩ := anc_step h3 h4 hb5 hj
        rw [g7] at h7
        have hj12 := h5 j hj
        refine lv_iload_n hx hb dX5_isBelow_7 rfl (lv_at hl 0 rfl) ?_
        refine lv_iload_n hx hb dX5_isBelow_8 rfl (lv_at hl 3 rfl) ?_
        refine lv_icmp_eq (tgt := 22) hx hb dX5_isBelow_9 (by decide) (fun c_9 => ?_) (fun c_9 => ?_)
        · skip
          have hf : anc mpar (nI t) L (nI c) = true := by rw [h7, if_pos c_9]
          refine lv_iload_n hx hb dX5_isBelow_22 rfl (lv_at hl 0 rfl) ?_
          refine lv_iload_n hx hb dX5_isBelow_23 rfl (lv_at hl 3 rfl) ?_
          refine lv_icmp_ne (tgt := 31) hx hb dX5_isBelow_24 (by decide) (fun c_24 => ?_) (fun c_24 => ?_)
          · skip
            exact absurd c_9 c_24
          · skip
            refine lv_iconst (v := 1) hx hb dX5_isBelow_27 (by decide) ?_
            refine lv_goto (tgt := 32) hx hb dX5_isBelow_28 (by decide) ?_
            exact W.zret (v := 1) hx hb hr (rfl) (fun t ht hW => ⟨1, rfl, (bI_t hf), ht⟩) (fun q h => nomatch h) dX5_isBelow_32
        · skip
          rw [if_neg c_9] at h7
          refine lv_aload_n hx hb dX5_isBelow_12 rfl (lv_at hl 1 rfl) ?_
          refine va_get (D := D) (ci := 4) (v := .ref (b 1)) (C := RX5) (T := TX5) (N := 17) hx hb hts win_X5 hown hK hP (0) (rfl) rfl 1 (by decide) w_0 (fun _ h9 => h9) rfl dX5_isBelow_13 ?_
          refine lv_iload_n hx hb dX5_isBelow_16 rfl (lv_at hl 0 rfl) ?_
          refine g_iald hx hb hK hP (1) 0 (n := 12) (f := mpar) (rfl) rfl j rfl (by omega) (by decide) dX5_isBelow_17 ?_
          refine lv_istore_n (lv' := [(3, .int (mpar j)), (0, .ref (b 0)), (1, .int (nI c)), (2, .int (nI t))]) hx hb dX5_isBelow_18 rfl hl (by decide) rfl (fun ls hl => ?_)
          refine lv_goto (tgt := 2) hx hb dX5_isBelow_19 (by decide) ?_
          exact ih (st + 1) (mpar j) L2 (by omega) (by omega) g2 g3 (fun k hk => h5 k (g4 k hk)) g6 h7 _ (lv_sub hl [0, 1, 2, 3] rfl)
  refine lv_iload_n hx hb dX5_isBelow_0 rfl (lv_at hl 1 rfl) ?_
  refine lv_istore_n (lv' := [(3, .int (nI c)), (0, .ref (b 0)), (1, .int (nI c)), (2, .int (nI t))]) hx hb dX5_isBelow_1 rfl hl (by decide) rfl (fun ls hl => ?_)
  exact lp 13 0 (nI c) L (by rw [hT.2.2.2]; omega) (by omega) hT.1 hT.2.1 (fun k hk => by have := (hT.2.2.1 k).mp hk; omega) (Or.inr ⟨c, (hT.2.2.1 c).mpr hc, rfl⟩) rfl _ (lv_sub hl [0, 1, 2, 3] rfl)
set_option maxHeartbeats 4000000 in
set_option maxRecDepth 100000 in
/-- no such concept -/
theorem c5_hang_1 (l : Launch) (D : va_G) (cI cZ cO cL : ClassId) (dt : Nat) (A : Nat → Prop) (b : Nat → Nat) (mC mR mL mF : Nat) (mpar mwt mstk mflw : Nat → Int32) (mc mp mm mf md : Nat → Nat) (mv mder mkn : Nat → Int32) (thr : Int32) (R : va_W) (ci pi ui : Int32) (hno : ¬ ((0 ≤ ci ∧ ci ≤ nI mC - 1) ∧ (0 ≤ pi ∧ pi ≤ nI mC - 1))) : Met l yX5_hang wsX5_hang ({ frames := 2, cells := 0, slots := 0, locals := 43 } : Room) (gP D cI cZ cO cL dt A [.ref (b 0), .int ci, .int pi, .int ui] (fun H => va_P D vwCl (WM cI cZ b mC mR mL mF mpar mwt mstk mflw mc mp mm mf md mv mder mkn thr ++ R) H ∧ va_D A (WM cI cZ b mC mR mL mF mpar mwt mstk mflw mc mp mm mf md mv mder mkn thr ++ R))) (va_Qi (fun (r : Int32) (_ : Unit) => r = 0) (fun _ t => va_P D vwCl (WM cI cZ b mC mR mL mF mpar mwt mstk mflw mc mp mm mf md mv mder mkn 1 ++ R) t.heap ∧ va_D A (WM cI cZ b mC mR mL mF mpar mwt mstk mflw mc mp mm mf md mv mder mkn 1 ++ R)) A) 0 0 A := by
  refine Met.ofW (cc := cX5_hang) (maxL := 6) (ret := (some .int)) (by decide) rfl ?_
  intro p9 e9 s m9 args below meth c9 s₁ B hml hv
  obtain ⟨rfl, hg, hP, hD⟩ := hv
  have hx := B.exec
  have hb := B.bytes
  have hr := B.returns
  have hts := atoms_spec (ws := wsX5_hang) B.pre
  have hown : s.vm.findClass RX5 = some m9.cls := findClass_of_methodNamed B.named
  have hlocks := B.notSynchronized
  have hK := hg.1
  have hS : va_S A s.heap s.heap [] := va_S.rf
  have hl := lv_entry ([.ref (b 0), .int ci, .int pi, .int ui]) (n := 6) (Nat.le_of_ble_eq_true rfl)
  rw [lg_entry_eq]
  generalize (lg_sl ([.ref (b 0), .int ci, .int pi, .int ui]) ++ List.replicate (6 - (lg_sl ([.ref (b 0), .int ci, .int pi, .int ui])).length) Slot.unset).toArray = ls at hl ⊢
  have hl : lv_has ls 6 [(0, .ref (b 0)), (1, .int ci), (2, .int pi), (3, .int ui)] := hl
  refine lv_aload_n hx hb dX5_hang_0 rfl (lv_at hl 0 rfl) ?_
  refine lv_iload_n hx hb dX5_hang_1 rfl (lv_at hl 1 rfl) ?_
  refine g_csi (va_runV (As := [.int ci]) (rest := []) ⟨hx, hb, hml, hown, hts⟩ (c5_isConcept l D cI cZ cO cL dt A b mC mR mL mF mpar mwt mstk mflw mc mp mm mf md mv mder mkn thr R ci) (cwV 1 hts gX5_hang_X5_isConcept rfl rfl rfl (by decide +kernel) ⟨Nat.le_of_ble_eq_true rfl, Nat.le_of_ble_eq_true rfl⟩) (gP.v hg hP 4 rfl (0) (rfl) hP) rfl rfl hl.1 rfl (lv_room (Nat.le_of_ble_eq_true rfl)) dX5_hang_2 ⟨Nat.le_of_ble_eq_true rfl, Nat.le_of_ble_eq_true rfl⟩) (fun r_1 hr_1 => ?_)
  obtain rfl : r_1 = bI (0 ≤ ci ∧ ci ≤ nI mC - 1) := hr_1
  refine lv_if_eq (tgt := 20) hx hb dX5_hang_5 (by decide) (fun c_5 => ?_) (fun c_5 => ?_)
  · skip
    have c_5 := bI_z c_5
    refine lv_iconst (v := 0) hx hb dX5_hang_20 (by decide) ?_
    refine lv_istore (lv' := [(4, .int 0), (0, .ref (b 0)), (1, .int ci), (2, .int pi), (3, .int ui)]) hx hb dX5_hang_21 hl (by decide) rfl (fun ls hl => ?_)
    refine lv_aload_n hx hb dX5_hang_23 rfl (lv_at hl 1 rfl) ?_
    refine lv_iload hx hb dX5_hang_24 (lv_at hl 0 rfl) ?_
    refine lv_if_ne (tgt := 33) hx hb dX5_hang_26 (by decide) (fun c_26 => ?_) (fun c_26 => ?_)
    · skip
      exact absurd c_26 (by decide)
    · skip
      refine lv_iconst (v := 1) hx hb dX5_hang_29 (by decide) ?_
      refine lv_goto (tgt := 47) hx hb dX5_hang_30 (by decide) ?_
      refine va_calli (va_runV (As := [.int 1]) (rest := []) ⟨hx, hb, hml, hown, hts⟩ (c5_can l D cI cZ cO cL dt A b mC mR mL mF mpar mwt mstk mflw mc mp mm mf md mv mder mkn thr R 1) (cwV 1 hts gX5_hang_X5_can rfl rfl rfl (by decide +kernel) ⟨Nat.le_of_ble_eq_true rfl, Nat.le_of_ble_eq_true rfl⟩) (gP.v hg hP 4 rfl (0) (rfl) (⟨hP, hD⟩)) rfl rfl hl.1 rfl (lv_room (Nat.le_of_ble_eq_true rfl)) dX5_hang_47 ⟨Nat.le_of_ble_eq_true rfl, Nat.le_of_ble_eq_true rfl⟩) hS (fun q _ h => h) (fun q h => h) (fun r_2 ur_2 tr_2 H locs htr_2 hvmr_2 hwr_2 hB hzr_2 hkr_2 hS => ?_)
      rw [htr_2] at hB
      obtain ⟨hP, hD⟩ := hB
      obtain rfl : r_2 = bI (1 = 0) := hwr_2
      have hP : va_P D vwCl (WM cI cZ b mC mR mL mF mpar mwt mstk mflw mc mp mm mf md mv mder mkn 1 ++ R) H := hP
      have hD : va_D A (WM cI cZ b mC mR mL mF mpar mwt mstk mflw mc mp mm mf md mv mder mkn 1 ++ R) := hD
      refine lv_if_ne (tgt := 55) hx hb dX5_hang_50 (by decide) (fun c_50 => ?_) (fun c_50 => ?_)
      · skip
        have c_50 := bI_n c_50
        exact absurd c_50 (by decide)
      · skip
        have c_50 := bI_z c_50
        refine lv_iconst (v := 0) hx hb dX5_hang_53 (by decide) ?_
        exact W.iret (v := 0) hx hb hr (fun t ht hW => ⟨⟨0, (), rfl, rfl, g_PD ht hP hD⟩, hS.F ht⟩) hS.2.2 dX5_hang_54
  · skip
    have c_5 := bI_n c_5
    refine lv_aload_n hx hb dX5_hang_8 rfl (lv_at hl 0 rfl) ?_
    refine lv_iload_n hx hb dX5_hang_9 rfl (lv_at hl 2 rfl) ?_
    refine g_csi (va_runV (As := [.int pi]) (rest := []) ⟨hx, hb, hml, hown, hts⟩ (c5_isConcept l D cI cZ cO cL dt A b mC mR mL mF mpar mwt mstk mflw mc mp mm mf md mv mder mkn thr R pi) (cwV 1 hts gX5_hang_X5_isConcept rfl rfl rfl (by decide +kernel) ⟨Nat.le_of_ble_eq_true rfl, Nat.le_of_ble_eq_true rfl⟩) (gP.v hg hP 4 rfl (0) (rfl) hP) rfl rfl hl.1 rfl (lv_room (Nat.le_of_ble_eq_true rfl)) dX5_hang_10 ⟨Nat.le_of_ble_eq_true rfl, Nat.le_of_ble_eq_true rfl⟩) (fun r_3 hr_3 => ?_)
    obtain rfl : r_3 = bI (0 ≤ pi ∧ pi ≤ nI mC - 1) := hr_3
    refine lv_if_eq (tgt := 20) hx hb dX5_hang_13 (by decide) (fun c_13 => ?_) (fun c_13 => ?_)
    · skip
      have c_13 := bI_z c_13
      refine lv_iconst (v := 0) hx hb dX5_hang_20 (by decide) ?_
      refine lv_istore (lv' := [(4, .int 0), (0, .ref (b 0)), (1, .int ci), (2, .int pi), (3, .int ui)]) hx hb dX5_hang_21 hl (by decide) rfl (fun ls hl => ?_)
      refine lv_aload_n hx hb dX5_hang_23 rfl (lv_at hl 1 rfl) ?_
      refine lv_iload hx hb dX5_hang_24 (lv_at hl 0 rfl) ?_
      refine lv_if_ne (tgt := 33) hx hb dX5_hang_26 (by decide) (fun c_26 => ?_) (fun c_26 => ?_)
      · skip
        exact absurd c_26 (by decide)
      · skip
        refine lv_iconst (v := 1) hx hb dX5_hang_29 (by decide) ?_
        refine lv_goto (tgt := 47) hx hb dX5_hang_30 (by decide) ?_
        refine va_calli (va_runV (As := [.int 1]) (rest := []) ⟨hx, hb, hml, hown, hts⟩ (c5_can l D cI cZ cO cL dt A b mC mR mL mF mpar mwt mstk mflw mc mp mm mf md mv mder mkn thr R 1) (cwV 1 hts gX5_hang_X5_can rfl rfl rfl (by decide +kernel) ⟨Nat.le_of_ble_eq_true rfl, Nat.le_of_ble_eq_true rfl⟩) (gP.v hg hP 4 rfl (0) (rfl) (⟨hP, hD⟩)) rfl rfl hl.1 rfl (lv_room (Nat.le_of_ble_eq_true rfl)) dX5_hang_47 ⟨Nat.le_of_ble_eq_true rfl, Nat.le_of_ble_eq_true rfl⟩) hS (fun q _ h => h) (fun q h => h) (fun r_4 ur_4 tr_4 H locs htr_4 hvmr_4 hwr_4 hB hzr_4 hkr_4 hS => ?_)
        rw [htr_4] at hB
        obtain ⟨hP, hD⟩ := hB
        obtain rfl : r_4 = bI (1 = 0) := hwr_4
        have hP : va_P D vwCl (WM cI cZ b mC mR mL mF mpar mwt mstk mflw mc mp mm mf md mv mder mkn 1 ++ R) H := hP
        have hD : va_D A (WM cI cZ b mC mR mL mF mpar mwt mstk mflw mc mp mm mf md mv mder mkn 1 ++ R) := hD
        refine lv_if_ne (tgt := 55) hx hb dX5_hang_50 (by decide) (fun c_50 => ?_) (fun c_50 => ?_)
        · skip
          have c_50 := bI_n c_50
          exact absurd c_50 (by decide)
        · skip
          have c_50 := bI_z c_50
          refine lv_iconst (v := 0) hx hb dX5_hang_53 (by decide) ?_
          exact W.iret (v := 0) hx hb hr (fun t ht hW => ⟨⟨0, (), rfl, rfl, g_PD ht hP hD⟩, hS.F ht⟩) hS.2.2 dX5_hang_54
    · skip
      have c_13 := bI_n c_13
      exact absurd ⟨c_5, c_13⟩ hno
set_option maxHeartbeats 4000000 in
set_option maxRecDepth 100000 in
/-- under itself -/
theorem c5_hang_2 (l : Launch) (D : va_G) (cI cZ cO cL : ClassId) (dt : Nat) (A : Nat → Prop) (b : Nat → Nat) (mC mR mL mF : Nat) (mpar mwt mstk mflw : Nat → Int32) (mc mp mm mf md : Nat → Nat) (mv mder mkn : Nat → Int32) (thr : Int32) (R : va_W) (L : List Nat) (c p : Nat) (ui : Int32) (hT : tree mC mpar L) (hC12 : mC ≤ 12) (hc : c < mC) (hp : p < mC) (hy : (0 ≤ (nI c) ∧ (nI c) ≤ nI mC - 1) ∧ (0 ≤ (nI p) ∧ (nI p) ≤ nI mC - 1)) (ha : anc mpar (nI c) L (nI p) = true) : Met l yX5_hang wsX5_hang ({ frames := 2, cells := 0, slots := 0, locals := 43 } : Room) (gP D cI cZ cO cL dt A [.ref (b 0), .int (nI c), .int (nI p), .int ui] (fun H => va_P D vwCl (WM cI cZ b mC mR mL mF mpar mwt mstk mflw mc mp mm mf md mv mder mkn thr ++ R) H ∧ va_D A (WM cI cZ b mC mR mL mF mpar mwt mstk mflw mc mp mm mf md mv mder mkn thr ++ R))) (va_Qi (fun (r : Int32) (_ : Unit) => r = 0) (fun _ t => va_P D vwCl (WM cI cZ b mC mR mL mF mpar mwt mstk mflw mc mp mm mf md mv mder mkn 2 ++ R) t.heap ∧ va_D A (WM cI cZ b mC mR mL mF mpar mwt mstk mflw mc mp mm mf md mv mder mkn 2 ++ R)) A) 0 0 A := by
  refine Met.ofW (cc := cX5_hang) (maxL := 6) (ret := (some .int)) (by decide) rfl ?_
  intro p9 e9 s m9 args below meth c9 s₁ B hml hv
  obtain ⟨rfl, hg, hP, hD⟩ := hv
  have hx := B.exec
  have hb := B.bytes
  have hr := B.returns
  have hts := atoms_spec (ws := wsX5_hang) B.pre
  have hown : s.vm.findClass RX5 = some m9.cls := findClass_of_methodNamed B.named
  have hlocks := B.notSynchronized
  have hK := hg.1
  have hS : va_S A s.heap s.heap [] := va_S.rf
  have hl := lv_entry ([.ref (b 0), .int (nI c), .int (nI p), .int ui]) (n := 6) (Nat.le_of_ble_eq_true rfl)
  rw [lg_entry_eq]
  generalize (lg_sl ([.ref (b 0), .int (nI c), .int (nI p), .int ui]) ++ List.replicate (6 - (lg_sl ([.ref (b 0), .int (nI c), .int (nI p), .int ui])).length) Slot.unset).toArray = ls at hl ⊢
  have hl : lv_has ls 6 [(0, .ref (b 0)), (1, .int (nI c)), (2, .int (nI p)), (3, .int ui)] := hl
  refine lv_aload_n hx hb dX5_hang_0 rfl (lv_at hl 0 rfl) ?_
  refine lv_iload_n hx hb dX5_hang_1 rfl (lv_at hl 1 rfl) ?_
  refine g_csi (va_runV (As := [.int (nI c)]) (rest := []) ⟨hx, hb, hml, hown, hts⟩ (c5_isConcept l D cI cZ cO cL dt A b mC mR mL mF mpar mwt mstk mflw mc mp mm mf md mv mder mkn thr R (nI c)) (cwV 1 hts gX5_hang_X5_isConcept rfl rfl rfl (by decide +kernel) ⟨Nat.le_of_ble_eq_true rfl, Nat.le_of_ble_eq_true rfl⟩) (gP.v hg hP 4 rfl (0) (rfl) hP) rfl rfl hl.1 rfl (lv_room (Nat.le_of_ble_eq_true rfl)) dX5_hang_2 ⟨Nat.le_of_ble_eq_true rfl, Nat.le_of_ble_eq_true rfl⟩) (fun r_1 hr_1 => ?_)
  obtain rfl : r_1 = bI (0 ≤ (nI c) ∧ (nI c) ≤ nI mC - 1) := hr_1
  refine lv_if_eq (tgt := 20) hx hb dX5_hang_5 (by decide) (fun c_5 => ?_) (fun c_5 => ?_)
  · skip
    have c_5 := bI_z c_5
    exact absurd hy.1 c_5
  · skip
    have c_5 := bI_n c_5
    refine lv_aload_n hx hb dX5_hang_8 rfl (lv_at hl 0 rfl) ?_
    refine lv_iload_n hx hb dX5_hang_9 rfl (lv_at hl 2 rfl) ?_
    refine g_csi (va_runV (As := [.int (nI p)]) (rest := []) ⟨hx, hb, hml, hown, hts⟩ (c5_isConcept l D cI cZ cO cL dt A b mC mR mL mF mpar mwt mstk mflw mc mp mm mf md mv mder mkn thr R (nI p)) (cwV 1 hts gX5_hang_X5_isConcept rfl rfl rfl (by decide +kernel) ⟨Nat.le_of_ble_eq_true rfl, Nat.le_of_ble_eq_true rfl⟩) (gP.v hg hP 4 rfl (0) (rfl) hP) rfl rfl hl.1 rfl (lv_room (Nat.le_of_ble_eq_true rfl)) dX5_hang_10 ⟨Nat.le_of_ble_eq_true rfl, Nat.le_of_ble_eq_true rfl⟩) (fun r_2 hr_2 => ?_)
    obtain rfl : r_2 = bI (0 ≤ (nI p) ∧ (nI p) ≤ nI mC - 1) := hr_2
    refine lv_if_eq (tgt := 20) hx hb dX5_hang_13 (by decide) (fun c_13 => ?_) (fun c_13 => ?_)
    · skip
      have c_13 := bI_z c_13
      exact absurd hy.2 c_13
    · skip
      have c_13 := bI_n c_13
      refine lv_iconst (v := 1) hx hb dX5_hang_16 (by decide) ?_
      refine lv_goto (tgt := 21) hx hb dX5_hang_17 (by decide) ?_
      refine lv_istore (lv' := [(4, .int 1), (0, .ref (b 0)), (1, .int (nI c)), (2, .int (nI p)), (3, .int ui)]) hx hb dX5_hang_21 hl (by decide) rfl (fun ls hl => ?_)
      refine lv_aload_n hx hb dX5_hang_23 rfl (lv_at hl 1 rfl) ?_
      refine lv_iload hx hb dX5_hang_24 (lv_at hl 0 rfl) ?_
      refine lv_if_ne (tgt := 33) hx hb dX5_hang_26 (by decide) (fun c_26 => ?_) (fun c_26 => ?_)
      · skip
        refine lv_aload_n hx hb dX5_hang_33 rfl (lv_at hl 1 rfl) ?_
        refine lv_iload_n hx hb dX5_hang_34 rfl (lv_at hl 3 rfl) ?_
        refine lv_iload_n hx hb dX5_hang_35 rfl (lv_at hl 2 rfl) ?_
        refine g_csi (va_runV (As := [.int (nI p), .int (nI c)]) (rest := [.ref (b 0)]) ⟨hx, hb, hml, hown, hts⟩ (c5_isBelow l D cI cZ cO cL dt A b mC mR mL mF mpar mwt mstk mflw mc mp mm mf md mv mder mkn thr R p c L hT hC12 hp (by omega)) (cwV 2 hts gX5_hang_X5_isBelow rfl rfl rfl (by decide +kernel) ⟨Nat.le_of_ble_eq_true rfl, Nat.le_of_ble_eq_true rfl⟩) (gP.v hg hP 4 rfl (0) (rfl) hP) rfl rfl hl.1 rfl (lv_room (Nat.le_of_ble_eq_true rfl)) dX5_hang_36 ⟨Nat.le_of_ble_eq_true rfl, Nat.le_of_ble_eq_true rfl⟩) (fun r_3 hr_3 => ?_)
        obtain rfl : r_3 = bI (anc mpar (nI c) L (nI p) = true) := hr_3
        refine lv_if_eq (tgt := 46) hx hb dX5_hang_39 (by decide) (fun c_39 => ?_) (fun c_39 => ?_)
        · skip
          have c_39 := bI_z c_39
          exact absurd ha c_39
        · skip
          have c_39 := bI_n c_39
          refine lv_iconst (v := 2) hx hb dX5_hang_42 (by decide) ?_
          refine lv_goto (tgt := 47) hx hb dX5_hang_43 (by decide) ?_
          refine va_calli (va_runV (As := [.int 2]) (rest := []) ⟨hx, hb, hml, hown, hts⟩ (c5_can l D cI cZ cO cL dt A b mC mR mL mF mpar mwt mstk mflw mc mp mm mf md mv mder mkn thr R 2) (cwV 1 hts gX5_hang_X5_can rfl rfl rfl (by decide +kernel) ⟨Nat.le_of_ble_eq_true rfl, Nat.le_of_ble_eq_true rfl⟩) (gP.v hg hP 4 rfl (0) (rfl) (⟨hP, hD⟩)) rfl rfl hl.1 rfl (lv_room (Nat.le_of_ble_eq_true rfl)) dX5_hang_47 ⟨Nat.le_of_ble_eq_true rfl, Nat.le_of_ble_eq_true rfl⟩) hS (fun q _ h => h) (fun q h => h) (fun r_4 ur_4 tr_4 H locs htr_4 hvmr_4 hwr_4 hB hzr_4 hkr_4 hS => ?_)
          rw [htr_4] at hB
          obtain ⟨hP, hD⟩ := hB
          obtain rfl : r_4 = bI (2 = 0) := hwr_4
          have hP : va_P D vwCl (WM cI cZ b mC mR mL mF mpar mwt mstk mflw mc mp mm mf md mv mder mkn 2 ++ R) H := hP
          have hD : va_D A (WM cI cZ b mC mR mL mF mpar mwt mstk mflw mc mp mm mf md mv mder mkn 2 ++ R) := hD
          refine lv_if_ne (tgt := 55) hx hb dX5_hang_50 (by decide) (fun c_50 => ?_) (fun c_50 => ?_)
          · skip
            have c_50 := bI_n c_50
            exact absurd c_50 (by decide)
          · skip
            have c_50 := bI_z c_50
            refine lv_iconst (v := 0) hx hb dX5_hang_53 (by decide) ?_
            exact W.iret (v := 0) hx hb hr (fun t ht hW => ⟨⟨0, (), rfl, rfl, g_PD ht hP hD⟩, hS.F ht⟩) hS.2.2 dX5_hang_54
      · skip
        exact absurd c_26 (by decide)
set_option maxHeartbeats 4000000 in
set_option maxRecDepth 100000 in
/-- under another -/
theorem c5_hang_0 (l : Launch) (D : va_G) (cI cZ cO cL : ClassId) (dt : Nat) (A : Nat → Prop) (b : Nat → Nat) (mC mR mL mF : Nat) (mpar mwt mstk mflw : Nat → Int32) (mc mp mm mf md : Nat → Nat) (mv mder mkn : Nat → Int32) (thr : Int32) (R : va_W) (L : List Nat) (c p : Nat) (ui : Int32) (hT : tree mC mpar L) (hC12 : mC ≤ 12) (hc : c < mC) (hp : p < mC) (hy : (0 ≤ (nI c) ∧ (nI c) ≤ nI mC - 1) ∧ (0 ≤ (nI p) ∧ (nI p) ≤ nI mC - 1)) (ha : anc mpar (nI c) L (nI p) = false) : Met l yX5_hang wsX5_hang ({ frames := 2, cells := 0, slots := 0, locals := 43 } : Room) (gP D cI cZ cO cL dt A [.ref (b 0), .int (nI c), .int (nI p), .int ui] (fun H => va_P D vwCl (WM cI cZ b mC mR mL mF mpar mwt mstk mflw mc mp mm mf md mv mder mkn thr ++ R) H ∧ va_D A (WM cI cZ b mC mR mL mF mpar mwt mstk mflw mc mp mm mf md mv mder mkn thr ++ R))) (va_Qi (fun (r : Int32) (_ : Unit) => r = mpar c) (fun _ t => va_P D vwCl (WM cI cZ b mC mR mL mF (upd mpar c (nI p)) (upd mwt c (if ui = 0 then -1 else 1)) mstk mflw mc mp mm mf md mv mder mkn 0 ++ R) t.heap ∧ va_D A (WM cI cZ b mC mR mL mF (upd mpar c (nI p)) (upd mwt c (if ui = 0 then -1 else 1)) mstk mflw mc mp mm mf md mv mder mkn 0 ++ R)) A) 0 0 A := by
  refine Met.ofW (cc := cX5_hang) (maxL := 6) (ret := (some .int)) (by decide) rfl ?_
  intro p9 e9 s m9 args below meth c9 s₁ B hml hv
  obtain ⟨rfl, hg, hP, hD⟩ := hv
  have hx := B.exec
  have hb := B.bytes
  have hr := B.returns
  have hts := atoms_spec (ws := wsX5_hang) B.pre
  have hown : s.vm.findClass RX5 = some m9.cls := findClass_of_methodNamed B.named
  have hlocks := B.notSynchronized
  have hK := hg.1
  have hS : va_S A s.heap s.heap [] := va_S.rf
  have w_0 := hts (.fieldLink RX5 7 "DimfactsModel" "parent" "[I") (by decide +kernel)
  have win_X5 : ∀ w ∈ wsX50, w ∈ wsX5_hang := by decide +kernel
  have w_2 := hts (.fieldLink RX5 13 "DimfactsModel" "weight" "[I") (by decide +kernel)
  have hl := lv_entry ([.ref (b 0), .int (nI c), .int (nI p), .int ui]) (n := 6) (Nat.le_of_ble_eq_true rfl)
  rw [lg_entry_eq]
  generalize (lg_sl ([.ref (b 0), .int (nI c), .int (nI p), .int ui]) ++ List.replicate (6 - (lg_sl ([.ref (b 0), .int (nI c), .int (nI p), .int ui])).length) Slot.unset).toArray = ls at hl ⊢
  have hl : lv_has ls 6 [(0, .ref (b 0)), (1, .int (nI c)), (2, .int (nI p)), (3, .int ui)] := hl
  refine lv_aload_n hx hb dX5_hang_0 rfl (lv_at hl 0 rfl) ?_
  refine lv_iload_n hx hb dX5_hang_1 rfl (lv_at hl 1 rfl) ?_
  refine g_csi (va_runV (As := [.int (nI c)]) (rest := []) ⟨hx, hb, hml, hown, hts⟩ (c5_isConcept l D cI cZ cO cL dt A b mC mR mL mF mpar mwt mstk mflw mc mp mm mf md mv mder mkn thr R (nI c)) (cwV 1 hts gX5_hang_X5_isConcept rfl rfl rfl (by decide +kernel) ⟨Nat.le_of_ble_eq_true rfl, Nat.le_of_ble_eq_true rfl⟩) (gP.v hg hP 4 rfl (0) (rfl) hP) rfl rfl hl.1 rfl (lv_room (Nat.le_of_ble_eq_true rfl)) dX5_hang_2 ⟨Nat.le_of_ble_eq_true rfl, Nat.le_of_ble_eq_true rfl⟩) (fun r_1 hr_1 => ?_)
  obtain rfl : r_1 = bI (0 ≤ (nI c) ∧ (nI c) ≤ nI mC - 1) := hr_1
  refine lv_if_eq (tgt := 20) hx hb dX5_hang_5 (by decide) (fun c_5 => ?_) (fun c_5 => ?_)
  · skip
    have c_5 := bI_z c_5
    exact absurd hy.1 c_5
  · skip
    have c_5 := bI_n c_5
    refine lv_aload_n hx hb dX5_hang_8 rfl (lv_at hl 0 rfl) ?_
    refine lv_iload_n hx hb dX5_hang_9 rfl (lv_at hl 2 rfl) ?_
    refine g_csi (va_runV (As := [.int (nI p)]) (rest := []) ⟨hx, hb, hml, hown, hts⟩ (c5_isConcept l D cI cZ cO cL dt A b mC mR mL mF mpar mwt mstk mflw mc mp mm mf md mv mder mkn thr R (nI p)) (cwV 1 hts gX5_hang_X5_isConcept rfl rfl rfl (by decide +kernel) ⟨Nat.le_of_ble_eq_true rfl, Nat.le_of_ble_eq_true rfl⟩) (gP.v hg hP 4 rfl (0) (rfl) hP) rfl rfl hl.1 rfl (lv_room (Nat.le_of_ble_eq_true rfl)) dX5_hang_10 ⟨Nat.le_of_ble_eq_true rfl, Nat.le_of_ble_eq_true rfl⟩) (fun r_2 hr_2 => ?_)
    obtain rfl : r_2 = bI (0 ≤ (nI p) ∧ (nI p) ≤ nI mC - 1) := hr_2
    refine lv_if_eq (tgt := 20) hx hb dX5_hang_13 (by decide) (fun c_13 => ?_) (fun c_13 => ?_)
    · skip
      have c_13 := bI_z c_13
      exact absurd hy.2 c_13
    · skip
      have c_13 := bI_n c_13
      refine lv_iconst (v := 1) hx hb dX5_hang_16 (by decide) ?_
      refine lv_goto (tgt := 21) hx hb dX5_hang_17 (by decide) ?_
      refine lv_istore (lv' := [(4, .int 1), (0, .ref (b 0)), (1, .int (nI c)), (2, .int (nI p)), (3, .int ui)]) hx hb dX5_hang_21 hl (by decide) rfl (fun ls hl => ?_)
      refine lv_aload_n hx hb dX5_hang_23 rfl (lv_at hl 1 rfl) ?_
      refine lv_iload hx hb dX5_hang_24 (lv_at hl 0 rfl) ?_
      refine lv_if_ne (tgt := 33) hx hb dX5_hang_26 (by decide) (fun c_26 => ?_) (fun c_26 => ?_)
      · skip
        refine lv_aload_n hx hb dX5_hang_33 rfl (lv_at hl 1 rfl) ?_
        refine lv_iload_n hx hb dX5_hang_34 rfl (lv_at hl 3 rfl) ?_
        refine lv_iload_n hx hb dX5_hang_35 rfl (lv_at hl 2 rfl) ?_
        refine g_csi (va_runV (As := [.int (nI p), .int (nI c)]) (rest := [.ref (b 0)]) ⟨hx, hb, hml, hown, hts⟩ (c5_isBelow l D cI cZ cO cL dt A b mC mR mL mF mpar mwt mstk mflw mc mp mm mf md mv mder mkn thr R p c L hT hC12 hp (by omega)) (cwV 2 hts gX5_hang_X5_isBelow rfl rfl rfl (by decide +kernel) ⟨Nat.le_of_ble_eq_true rfl, Nat.le_of_ble_eq_true rfl⟩) (gP.v hg hP 4 rfl (0) (rfl) hP) rfl rfl hl.1 rfl (lv_room (Nat.le_of_ble_eq_true rfl)) dX5_hang_36 ⟨Nat.le_of_ble_eq_true rfl, Nat.le_of_ble_eq_true rfl⟩) (fun r_3 hr_3 => ?_)
        obtain rfl : r_3 = bI (anc mpar (nI c) L (nI p) = true) := hr_3
        refine lv_if_eq (tgt := 46) hx hb dX5_hang_39 (by decide) (fun c_39 => ?_) (fun c_39 => ?_)
        · skip
          have c_39 := bI_z c_39
          refine lv_iconst (v := 0) hx hb dX5_hang_46 (by decide) ?_
          refine va_calli (va_runV (As := [.int 0]) (rest := []) ⟨hx, hb, hml, hown, hts⟩ (c5_can l D cI cZ cO cL dt A b mC mR mL mF mpar mwt mstk mflw mc mp mm mf md mv mder mkn thr R 0) (cwV 1 hts gX5_hang_X5_can rfl rfl rfl (by decide +kernel) ⟨Nat.le_of_ble_eq_true rfl, Nat.le_of_ble_eq_true rfl⟩) (gP.v hg hP 4 rfl (0) (rfl) (⟨hP, hD⟩)) rfl rfl hl.1 rfl (lv_room (Nat.le_of_ble_eq_true rfl)) dX5_hang_47 ⟨Nat.le_of_ble_eq_true rfl, Nat.le_of_ble_eq_true rfl⟩) hS (fun q _ h => h) (fun q h => h) (fun r_4 ur_4 tr_4 H locs htr_4 hvmr_4 hwr_4 hB hzr_4 hkr_4 hS => ?_)
          rw [htr_4] at hB
          obtain ⟨hP, hD⟩ := hB
          obtain rfl : r_4 = bI (0 = 0) := hwr_4
          have hP : va_P D vwCl (WM cI cZ b mC mR mL mF mpar mwt mstk mflw mc mp mm mf md mv mder mkn 0 ++ R) H := hP
          have hD : va_D A (WM cI cZ b mC mR mL mF mpar mwt mstk mflw mc mp mm mf md mv mder mkn 0 ++ R) := hD
          refine lv_if_ne (tgt := 55) hx hb dX5_hang_50 (by decide) (fun c_50 => ?_) (fun c_50 => ?_)
          · skip
            have c_50 := bI_n c_50
            refine lv_aload_n hx hb dX5_hang_55 rfl (lv_at hl 1 rfl) ?_
            refine va_get (D := D) (ci := 4) (v := .ref (b 1)) (C := RX5) (T := TX5) (N := 17) hx hb hts win_X5 hown hK hP (0) (rfl) rfl 1 (by decide) w_0 (fun _ h9 => h9) rfl dX5_hang_56 ?_
            refine lv_iload_n hx hb dX5_hang_59 rfl (lv_at hl 2 rfl) ?_
            refine g_iald hx hb hK hP (1) 0 (n := 12) (f := mpar) (rfl) rfl c rfl (by omega) (by decide) dX5_hang_60 ?_
            refine lv_istore (lv' := [(5, .int (mpar c)), (4, .int 1), (0, .ref (b 0)), (1, .int (nI c)), (2, .int (nI p)), (3, .int ui)]) hx hb dX5_hang_61 hl (by decide) rfl (fun ls hl => ?_)
            refine lv_aload_n hx hb dX5_hang_63 rfl (lv_at hl 2 rfl) ?_
            refine va_get (D := D) (ci := 4) (v := .ref (b 1)) (C := RX5) (T := TX5) (N := 17) hx hb hts win_X5 hown hK hP (0) (rfl) rfl 1 (by decide) w_0 (fun _ h9 => h9) rfl dX5_hang_64 ?_
            refine lv_iload_n hx hb dX5_hang_67 rfl (lv_at hl 3 rfl) ?_
            refine lv_iload_n hx hb dX5_hang_68 rfl (lv_at hl 4 rfl) ?_
            refine g_iast hx hb hK hP hD hS (1) 0 (n := 12) (f := mpar) (rfl) rfl c rfl (by omega) (by decide) dX5_hang_69 (WM cI cZ b mC mR mL mF (upd mpar c (nI p)) mwt mstk mflw mc mp mm mf md mv mder mkn 0 ++ R) rfl (fun H locs hP hD hS => ?_)
            refine lv_aload_n hx hb dX5_hang_70 rfl (lv_at hl 2 rfl) ?_
            refine va_get (D := D) (ci := 4) (v := .ref (b 2)) (C := RX5) (T := TX5) (N := 17) hx hb hts win_X5 hown hK hP (0) (rfl) rfl 2 (by decide) w_2 (fun _ h9 => h9) rfl dX5_hang_71 ?_
            refine lv_iload_n hx hb dX5_hang_74 rfl (lv_at hl 3 rfl) ?_
            refine lv_iload_n hx hb dX5_hang_75 rfl (lv_at hl 5 rfl) ?_
            refine lv_if_eq (tgt := 83) hx hb dX5_hang_76 (by decide) (fun c_76 => ?_) (fun c_76 => ?_)
            · skip
              have eu : (-1 : Int32) = (if ui = 0 then -1 else 1) := (if_pos c_76).symm
              refine lv_iconst (v := (-1)) hx hb dX5_hang_83 (by decide) ?_
              refine lv_topi (fun dv edv => ?_)
              obtain rfl : dv = (if ui = 0 then -1 else 1) := by rw [edv]; exact eu
              refine g_iast hx hb hK hP hD hS (2) 0 (n := 12) (f := mwt) (rfl) rfl c rfl (by omega) (by decide) dX5_hang_84 (WM cI cZ b mC mR mL mF (upd mpar c (nI p)) (upd mwt c (if ui = 0 then -1 else 1)) mstk mflw mc mp mm mf md mv mder mkn 0 ++ R) rfl (fun H locs hP hD hS => ?_)
              refine lv_iload hx hb dX5_hang_85 (lv_at hl 0 rfl) ?_
              exact W.iret (v := mpar c) hx hb hr (fun t ht hW => ⟨⟨mpar c, (), rfl, rfl, g_PD ht hP hD⟩, hS.F ht⟩) hS.2.2 dX5_hang_87
            · skip
              have eu : (1 : Int32) = (if ui = 0 then -1 else 1) := (if_neg c_76).symm
              refine lv_iconst (v := 1) hx hb dX5_hang_79 (by decide) ?_
              refine lv_goto (tgt := 84) hx hb dX5_hang_80 (by decide) ?_
              refine lv_topi (fun dv edv => ?_)
              obtain rfl : dv = (if ui = 0 then -1 else 1) := by rw [edv]; exact eu
              refine g_iast hx hb hK hP hD hS (2) 0 (n := 12) (f := mwt) (rfl) rfl c rfl (by omega) (by decide) dX5_hang_84 (WM cI cZ b mC mR mL mF (upd mpar c (nI p)) (upd mwt c (if ui = 0 then -1 else 1)) mstk mflw mc mp mm mf md mv mder mkn 0 ++ R) rfl (fun H locs hP hD hS => ?_)
              refine lv_iload hx hb dX5_hang_85 (lv_at hl 0 rfl) ?_
              exact W.iret (v := mpar c) hx hb hr (fun t ht hW => ⟨⟨mpar c, (), rfl, rfl, g_PD ht hP hD⟩, hS.F ht⟩) hS.2.2 dX5_hang_87
          · skip
            have c_50 := bI_z c_50
            exact absurd (by decide) c_50
        · skip
          have c_39 := bI_n c_39
          exact absurd c_39 (by rw [ha]; decide)
      · skip
        exact absurd c_26 (by decide)
