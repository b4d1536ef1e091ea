set_option maxHeartbeats 4000000 in
set_option maxRecDepth 100000 in
/-- the case of disagreements -/
theorem lw_disagreements (l : Launch) (hlt : l.stackTraces = false) {D : va_G} {cI cZ cO cL : ClassId} {dt : Nat} {A : Nat → Prop} {a b : Nat → Nat} {ob b0 i Ls cells slots : Nat} {xs : Nat → Int32} {p9 : Program} {e9 : Env} {s : State} {m9 : MethodId} {args : Array Value} {below : List Frame} {meth : Method} {c9 : Code} {H : Heap} {locs : List Loc} {ls : Array Slot} {Q : State → Prop}
    (hx : p9.tables.exec = Jvm.exec) (hb : c9.code = cL_law) (hml : c9.maxLocals = 7) (hown : s.vm.findClass RL = some m9.cls) (hts : ∀ w ∈ wsL_law, w.before args s = true) (hg : gG D cI cZ cO cL dt A s s.heap) (hX : va_X b0 Ls xs s s.heap) (hb0 : b0 < s.heap.size) (hbA : ¬ A b0) (hi : i + 6 ≤ Ls) (hLs : Ls ≤ 3072)
    (hI : lInv D cI cZ cO cL A a b ob H) (hS : va_S A s.heap H locs) (hl : lv_has ls 7 [(4, .int (nI i)), (3, .ref ob), (2, .ref (b 0)), (1, .ref (a 0)), (0, .ref b0)]) (hcc : cells + 4 ≤ 601024) (hss : slots + 24 ≤ 7293034)
    (kk : ∀ (H : Heap) (locs : List Loc) (ls : Array Slot), lInv D cI cZ cO cL A a b ob H → va_S A s.heap H locs → lv_has ls 7 [(4, .int (nI i)), (3, .ref ob), (2, .ref (b 0)), (1, .ref (a 0)), (0, .ref b0)] → W p9 l e9 room_1 s m9 args below meth c9 H locs (cells + 4) (slots + 24) Q (F0 m9 1413 ls [])) :
    W p9 l e9 room_1 s m9 args below meth c9 H locs cells slots Q (F0 m9 536 ls []) := by
  obtain ⟨FA, nC, nR, nL, nF, par, wt, sk, fk, hd, rea, sig, mc, mp, mm, mf, md, mv, nx, mder, mkn, thr, ov, L, hOk, hP, hD⟩ := hI
  obtain ⟨⟨hC12, hR5, hL8, hF⟩, ⟨hT, hwt⟩, ⟨hsk12, hfk12, hskC⟩, ⟨hCh, hH, hN, hfL⟩, h1, h2, h3, h4, hmd, hmv, h7⟩ := id hOk
  have hK := hg.1
  have hck : ∀ k, mc k * 40 + mp k * 4 + mm k < 480 := fun k => by have := h1 k; have := h2 k; have := h3 k; omega
  have hcf : ∀ k, mf k < 2 ^ 31 := fun k => by have := h4 k; omega
  have hmd31 : ∀ k, md k < 2 ^ 31 := fun k => by have := hmd k; omega
  have hP : va_P D vwCl (WD cI cO a FA nC nR nL nF par wt (fun r => nI (sk r)) (fun r => nI (fk r)) hd rea sig ++ (WF FA (fun k => mc k * 40 + mp k * 4 + mm k) mf md mv nx nF ++ ((ob, .inl (cL, 1, .inr (.inl ov))) : Nat × va_E) :: WM cI cZ b nC nR nL nF par wt (fun r => nI (sk r)) (fun r => nI (fk r)) mc mp mm mf md mv mder mkn thr)) H := hP
  have hD : va_D A (WD cI cO a FA nC nR nL nF par wt (fun r => nI (sk r)) (fun r => nI (fk r)) hd rea sig ++ (WF FA (fun k => mc k * 40 + mp k * 4 + mm k) mf md mv nx nF ++ ((ob, .inl (cL, 1, .inr (.inl ov))) : Nat × va_E) :: WM cI cZ b nC nR nL nF par wt (fun r => nI (sk r)) (fun r => nI (fk r)) mc mp mm mf md mv mder mkn thr)) := hD
  refine lv_aload_n hx hb dL_law_536 rfl (lv_at hl 3 rfl) ?_
  refine lv_aload_n hx hb dL_law_537 rfl (lv_at hl 4 rfl) ?_
  refine lv_iload hx hb dL_law_538 (lv_at hl 0 rfl) ?_
  refine lv_iconst (v := 1) hx hb dL_law_540 (by decide) ?_
  refine lv_iadd hx hb dL_law_541 ?_
  refine lv_topi (fun dv edv => ?_)
  obtain rfl : dv = nI (i + 1) := by rw [edv]; exact nI_add i 1
  refine va_sld hx hb hX hb0 hbA hS (vp_in_nI (n := (i + 1)) (by omega) (by omega)) dL_law_542 ?_
  rw [nI_clamp (by omega)]
  refine lv_aload_n hx hb dL_law_543 rfl (lv_at hl 1 rfl) ?_
  refine va_calli (vx_runSW (hh := [(0, 9, 12, 19)]) (As := [.ref (a 0), .int (xs (i + 1)), .ref ob]) (rest := []) ⟨hx, hb, hml, hown, hts⟩ (kL_disagreements l D cI cZ cO cL dt A a FA nC nR nL nF par wt (fun r => nI (sk r)) (fun r => nI (fk r)) hd rea sig (fun k => mc k * 40 + mp k * 4 + mm k) mf md mv nx (WM cI cZ b nC nR nL nF par wt (fun r => nI (sk r)) (fun r => nI (fk r)) mc mp mm mf md mv mder mkn thr) ob ov (xs (i + 1)) hlt hF hC12 hck hcf hmd hmv hwt hCh hL8) (vx_cwSW 3 hts gL_law_L_disagreements rfl rfl rfl (by decide +kernel) ⟨(Nat.le_of_ble_eq_true rfl), (Nat.le_of_ble_eq_true rfl)⟩) (gP.s (hg.on hS) ⟨hP, hD⟩) rfl rfl hl.1 rfl (lv_room (Nat.le_of_ble_eq_true rfl)) dL_law_544 ⟨by show cells + 1 ≤ 601024; omega, by show slots + 6 ≤ 7293034; omega⟩) hS (fun q _ h => h) (fun q h => h) (fun k9 u9 t9 H locs ht9 hvm9 hw9 hB9 hz9 hk9 hS => ?_)
  rw [ht9] at hB9
  rcases hw9 with ⟨rfl, r9, hu9, hpost⟩ | ⟨rfl, hR9⟩
  · skip
    have hB9 : va_P D vwCl (WD cI cO a FA nC nR nL nF par wt (fun r => nI (sk r)) (fun r => nI (fk r)) hd rea sig ++ (WF FA (fun k => mc k * 40 + mp k * 4 + mm k) mf md mv nx nF ++ ((ob, .inl (cL, 1, .inr (.inl u9))) : Nat × va_E) :: WM cI cZ b nC nR nL nF par wt (fun r => nI (sk r)) (fun r => nI (fk r)) mc mp mm mf md mv mder mkn thr)) H ∧ va_D A (WD cI cO a FA nC nR nL nF par wt (fun r => nI (sk r)) (fun r => nI (fk r)) hd rea sig ++ (WF FA (fun k => mc k * 40 + mp k * 4 + mm k) mf md mv nx nF ++ ((ob, .inl (cL, 1, .inr (.inl u9))) : Nat × va_E) :: WM cI cZ b nC nR nL nF par wt (fun r => nI (sk r)) (fun r => nI (fk r)) mc mp mm mf md mv mder mkn thr)) := hB9
    obtain ⟨hP, hD⟩ := hB9
    obtain ⟨f9, ⟨hf9, hf⟩, hr9⟩ := hpost
    refine lv_istore (lv' := [(5, .int 0), (4, .int (nI i)), (3, .ref ob), (2, .ref (b 0)), (1, .ref (a 0)), (0, .ref b0)]) hx hb dL_law_547 hl (by decide) rfl (fun ls hl => ?_)
    refine lv_aload_n hx hb dL_law_549 rfl (lv_at hl 3 rfl) ?_
    refine lv_aload_n hx hb dL_law_550 rfl (lv_at hl 5 rfl) ?_
    refine lv_iload hx hb dL_law_551 (lv_at hl 1 rfl) ?_
    refine lv_iconst (v := 1) hx hb dL_law_553 (by decide) ?_
    refine lv_iadd hx hb dL_law_554 ?_
    refine lv_topi (fun dv edv => ?_)
    obtain rfl : dv = nI (i + 1) := by rw [edv]; exact nI_add i 1
    refine va_sld hx hb hX hb0 hbA hS (vp_in_nI (n := (i + 1)) (by omega) (by omega)) dL_law_555 ?_
    rw [nI_clamp (by omega)]
    have hP := va_P_perm hP (lperm (WD cI cO a FA nC nR nL nF par wt (fun r => nI (sk r)) (fun r => nI (fk r)) hd rea sig) (WF FA (fun k => mc k * 40 + mp k * 4 + mm k) mf md mv nx nF) (WM cI cZ b nC nR nL nF par wt (fun r => nI (sk r)) (fun r => nI (fk r)) mc mp mm mf md mv mder mkn thr) ((ob, .inl (cL, 1, .inr (.inl u9))) : Nat × va_E))
    have hD := va_D_perm hD (lperm (WD cI cO a FA nC nR nL nF par wt (fun r => nI (sk r)) (fun r => nI (fk r)) hd rea sig) (WF FA (fun k => mc k * 40 + mp k * 4 + mm k) mf md mv nx nF) (WM cI cZ b nC nR nL nF par wt (fun r => nI (sk r)) (fun r => nI (fk r)) mc mp mm mf md mv mder mkn thr) ((ob, .inl (cL, 1, .inr (.inl u9))) : Nat × va_E))
    refine va_calli (va_runV (As := [.int (xs (i + 1))]) (rest := []) ⟨hx, hb, hml, hown, hts⟩ (c5_disagreements_0 l D cI cZ cO cL dt A b nC nR nL nF par wt (fun r => nI (sk r)) (fun r => nI (fk r)) mc mp mm mf md mv mder mkn thr (WD cI cO a FA nC nR nL nF par wt (fun r => nI (sk r)) (fun r => nI (fk r)) hd rea sig ++ (WF FA (fun k => mc k * 40 + mp k * 4 + mm k) mf md mv nx nF ++ [((ob, .inl (cL, 1, .inr (.inl u9))) : Nat × va_E)])) (xs (i + 1)) hF hC12 hcf hmd31 ((cOk_iff (n := nL + 1) (by omega)).mpr ⟨f9, hf9, hf⟩)) (cwV 1 hts gL_law_X5_disagreements rfl rfl rfl (by decide +kernel) ⟨(Nat.le_of_ble_eq_true rfl), (Nat.le_of_ble_eq_true rfl)⟩) (gP.v (hg.on hS) hP 4 rfl 0 rfl ⟨hP, hD⟩) rfl rfl hl.1 rfl (lv_room (Nat.le_of_ble_eq_true rfl)) dL_law_556 ⟨by show cells + 1 + 0 ≤ 601024; omega, by show slots + 6 + 0 ≤ 7293034; omega⟩) hS (fun q _ h => h) (fun q h => h) (fun b9 u8 t8 H locs ht8 hvm8 hw8 hB8 hz8 hk8 hS => ?_)
    rw [ht8] at hB8
    obtain ⟨hP, hD⟩ := hB8
    have hP : va_P D vwCl (WM cI cZ b nC nR nL nF par wt (fun r => nI (sk r)) (fun r => nI (fk r)) mc mp mm mf md mv mder mkn 0 ++ (WD cI cO a FA nC nR nL nF par wt (fun r => nI (sk r)) (fun r => nI (fk r)) hd rea sig ++ (WF FA (fun k => mc k * 40 + mp k * 4 + mm k) mf md mv nx nF ++ [((ob, .inl (cL, 1, .inr (.inl u9))) : Nat × va_E)]))) H := hP
    have hD : va_D A (WM cI cZ b nC nR nL nF par wt (fun r => nI (sk r)) (fun r => nI (fk r)) mc mp mm mf md mv mder mkn 0 ++ (WD cI cO a FA nC nR nL nF par wt (fun r => nI (sk r)) (fun r => nI (fk r)) hd rea sig ++ (WF FA (fun k => mc k * 40 + mp k * 4 + mm k) mf md mv nx nF ++ [((ob, .inl (cL, 1, .inr (.inl u9))) : Nat × va_E)]))) := hD
    refine lv_istore (lv' := [(6, .int b9), (5, .int 0), (4, .int (nI i)), (3, .ref ob), (2, .ref (b 0)), (1, .ref (a 0)), (0, .ref b0)]) hx hb dL_law_559 hl (by decide) rfl (fun ls hl => ?_)
    refine lv_aload_n hx hb dL_law_561 rfl (lv_at hl 4 rfl) ?_
    refine g_csi (va_runV (As := []) (rest := []) ⟨hx, hb, hml, hown, hts⟩ (c5_thrown l D cI cZ cO cL dt A b nC nR nL nF par wt (fun r => nI (sk r)) (fun r => nI (fk r)) mc mp mm mf md mv mder mkn 0 (WD cI cO a FA nC nR nL nF par wt (fun r => nI (sk r)) (fun r => nI (fk r)) hd rea sig ++ (WF FA (fun k => mc k * 40 + mp k * 4 + mm k) mf md mv nx nF ++ [((ob, .inl (cL, 1, .inr (.inl u9))) : Nat × va_E)]))) (cwV 0 hts gL_law_X5_thrown rfl rfl rfl (by decide +kernel) ⟨(Nat.le_of_ble_eq_true rfl), (Nat.le_of_ble_eq_true rfl)⟩) (gP.v (hg.on hS) hP 4 rfl 0 rfl hP) rfl rfl hl.1 rfl (lv_room (Nat.le_of_ble_eq_true rfl)) dL_law_562 ⟨by show cells + 1 + 0 + 0 ≤ 601024; omega, by show slots + 6 + 0 + 0 ≤ 7293034; omega⟩) (fun t7 ht7 => ?_)
    obtain rfl : t7 = 0 := ht7
    have hP := va_P_perm hP (lperm (WD cI cO a FA nC nR nL nF par wt (fun r => nI (sk r)) (fun r => nI (fk r)) hd rea sig) (WF FA (fun k => mc k * 40 + mp k * 4 + mm k) mf md mv nx nF) (WM cI cZ b nC nR nL nF par wt (fun r => nI (sk r)) (fun r => nI (fk r)) mc mp mm mf md mv mder mkn 0) ((ob, .inl (cL, 1, .inr (.inl u9))) : Nat × va_E)).symm
    have hD := va_D_perm hD (lperm (WD cI cO a FA nC nR nL nF par wt (fun r => nI (sk r)) (fun r => nI (fk r)) hd rea sig) (WF FA (fun k => mc k * 40 + mp k * 4 + mm k) mf md mv nx nF) (WM cI cZ b nC nR nL nF par wt (fun r => nI (sk r)) (fun r => nI (fk r)) mc mp mm mf md mv mder mkn 0) ((ob, .inl (cL, 1, .inr (.inl u9))) : Nat × va_E)).symm
    have hag9 : r9 = b9 := by rw [hr9, hw8, hf9]; exact dis_eq h1 h2 h3 h4 (by omega)
    have hag := congrArg Int32.toInt64 hag9
    refine lv_iload hx hb dL_law_565 (lv_at hl 1 rfl) ?_
    refine lv_icmp_eq (tgt := 572) hx hb dL_law_567 (by decide) (fun c_567 => ?_) (fun c_567 => ?_)
    · skip
      refine lv_iload hx hb dL_law_572 (lv_at hl 1 rfl) ?_
      refine lv_if_ne (tgt := 589) hx hb dL_law_574 (by decide) (fun c_574 => ?_) (fun c_574 => ?_)
      · skip
        exact absurd c_574 (by decide)
      · skip
        refine lv_aload_n hx hb dL_law_577 rfl (lv_at hl 3 rfl) ?_
        refine lv_iconst (v := 0) hx hb dL_law_578 (by decide) ?_
        refine va_lald hx hb hK hP (11 + nF) 3 (WDR_at) rfl e_in0 dL_law_579 ?_
        rw [e_z0, hu9, hag]
        refine lv_iload hx hb dL_law_580 (lv_at hl 0 rfl) ?_
        refine lv_i2l (v := (b9).toInt64) hx hb dL_law_582 rfl ?_
        refine W.lcmp hx hb dL_law_583 ?_
        rw [lg_self]
        refine lv_if_eq (tgt := 589) hx hb dL_law_584 (by decide) (fun c_584 => ?_) (fun c_584 => ?_)
        · skip
          refine lv_goto (tgt := 1413) hx hb dL_law_589 (by decide) ?_
          refine W.widen (k := cells + 4) (n := slots + 24) (by omega) (by omega) ?_
          exact kk _ _ _ ⟨FA, nC, nR, nL, nF, par, wt, sk, fk, hd, rea, sig, mc, mp, mm, mf, md, mv, nx, mder, mkn, 0, u9, L, hOk, hP, hD⟩ hS (lv_sub hl [2, 3, 4, 5, 6] rfl)
        · skip
          exact absurd c_584 (by decide)
    · skip
      exact absurd c_567 (by decide)
  · skip
    have hB9 : va_P D vwCl (WD cI cO a FA nC nR nL nF par wt (fun r => nI (sk r)) (fun r => nI (fk r)) hd rea sig ++ (WF FA (fun k => mc k * 40 + mp k * 4 + mm k) mf md mv nx nF ++ ((ob, .inl (cL, 1, .inr (.inl u9))) : Nat × va_E) :: WM cI cZ b nC nR nL nF par wt (fun r => nI (sk r)) (fun r => nI (fk r)) mc mp mm mf md mv mder mkn thr)) H ∧ va_D A (WD cI cO a FA nC nR nL nF par wt (fun r => nI (sk r)) (fun r => nI (fk r)) hd rea sig ++ (WF FA (fun k => mc k * 40 + mp k * 4 + mm k) mf md mv nx nF ++ ((ob, .inl (cL, 1, .inr (.inl u9))) : Nat × va_E) :: WM cI cZ b nC nR nL nF par wt (fun r => nI (sk r)) (fun r => nI (fk r)) mc mp mm mf md mv mder mkn thr)) := hB9
    obtain ⟨hP, hD⟩ := hB9
    refine lv_istore (lv' := [(5, .int 1), (4, .int (nI i)), (3, .ref ob), (2, .ref (b 0)), (1, .ref (a 0)), (0, .ref b0)]) hx hb dL_law_547 hl (by decide) rfl (fun ls hl => ?_)
    refine lv_aload_n hx hb dL_law_549 rfl (lv_at hl 3 rfl) ?_
    refine lv_aload_n hx hb dL_law_550 rfl (lv_at hl 5 rfl) ?_
    refine lv_iload hx hb dL_law_551 (lv_at hl 1 rfl) ?_
    refine lv_iconst (v := 1) hx hb dL_law_553 (by decide) ?_
    refine lv_iadd hx hb dL_law_554 ?_
    refine lv_topi (fun dv edv => ?_)
    obtain rfl : dv = nI (i + 1) := by rw [edv]; exact nI_add i 1
    refine va_sld hx hb hX hb0 hbA hS (vp_in_nI (n := (i + 1)) (by omega) (by omega)) dL_law_555 ?_
    rw [nI_clamp (by omega)]
    have hP := va_P_perm hP (lperm (WD cI cO a FA nC nR nL nF par wt (fun r => nI (sk r)) (fun r => nI (fk r)) hd rea sig) (WF FA (fun k => mc k * 40 + mp k * 4 + mm k) mf md mv nx nF) (WM cI cZ b nC nR nL nF par wt (fun r => nI (sk r)) (fun r => nI (fk r)) mc mp mm mf md mv mder mkn thr) ((ob, .inl (cL, 1, .inr (.inl u9))) : Nat × va_E))
    have hD := va_D_perm hD (lperm (WD cI cO a FA nC nR nL nF par wt (fun r => nI (sk r)) (fun r => nI (fk r)) hd rea sig) (WF FA (fun k => mc k * 40 + mp k * 4 + mm k) mf md mv nx nF) (WM cI cZ b nC nR nL nF par wt (fun r => nI (sk r)) (fun r => nI (fk r)) mc mp mm mf md mv mder mkn thr) ((ob, .inl (cL, 1, .inr (.inl u9))) : Nat × va_E))
    refine va_calli (va_runV (As := [.int (xs (i + 1))]) (rest := []) ⟨hx, hb, hml, hown, hts⟩ (c5_disagreements_1 l D cI cZ cO cL dt A b nC nR nL nF par wt (fun r => nI (sk r)) (fun r => nI (fk r)) mc mp mm mf md mv mder mkn thr (WD cI cO a FA nC nR nL nF par wt (fun r => nI (sk r)) (fun r => nI (fk r)) hd rea sig ++ (WF FA (fun k => mc k * 40 + mp k * 4 + mm k) mf md mv nx nF ++ [((ob, .inl (cL, 1, .inr (.inl u9))) : Nat × va_E)])) (xs (i + 1)) (fun z => hR9 ((cOk_iff (n := nL + 1) (by omega)).mp z))) (cwV 1 hts gL_law_X5_disagreements rfl rfl rfl (by decide +kernel) ⟨(Nat.le_of_ble_eq_true rfl), (Nat.le_of_ble_eq_true rfl)⟩) (gP.v (hg.on hS) hP 4 rfl 0 rfl ⟨hP, hD⟩) rfl rfl hl.1 rfl (lv_room (Nat.le_of_ble_eq_true rfl)) dL_law_556 ⟨by show cells + 1 + 0 ≤ 601024; omega, by show slots + 6 + 0 ≤ 7293034; omega⟩) hS (fun q _ h => h) (fun q h => h) (fun b9 u8 t8 H locs ht8 hvm8 hw8 hB8 hz8 hk8 hS => ?_)
    rw [ht8] at hB8
    obtain ⟨hP, hD⟩ := hB8
    have hP : va_P D vwCl (WM cI cZ b nC nR nL nF par wt (fun r => nI (sk r)) (fun r => nI (fk r)) mc mp mm mf md mv mder mkn 1 ++ (WD cI cO a FA nC nR nL nF par wt (fun r => nI (sk r)) (fun r => nI (fk r)) hd rea sig ++ (WF FA (fun k => mc k * 40 + mp k * 4 + mm k) mf md mv nx nF ++ [((ob, .inl (cL, 1, .inr (.inl u9))) : Nat × va_E)]))) H := hP
    have hD : va_D A (WM cI cZ b nC nR nL nF par wt (fun r => nI (sk r)) (fun r => nI (fk r)) mc mp mm mf md mv mder mkn 1 ++ (WD cI cO a FA nC nR nL nF par wt (fun r => nI (sk r)) (fun r => nI (fk r)) hd rea sig ++ (WF FA (fun k => mc k * 40 + mp k * 4 + mm k) mf md mv nx nF ++ [((ob, .inl (cL, 1, .inr (.inl u9))) : Nat × va_E)]))) := hD
    refine lv_istore (lv' := [(6, .int b9), (5, .int 1), (4, .int (nI i)), (3, .ref ob), (2, .ref (b 0)), (1, .ref (a 0)), (0, .ref b0)]) hx hb dL_law_559 hl (by decide) rfl (fun ls hl => ?_)
    refine lv_aload_n hx hb dL_law_561 rfl (lv_at hl 4 rfl) ?_
    refine g_csi (va_runV (As := []) (rest := []) ⟨hx, hb, hml, hown, hts⟩ (c5_thrown l D cI cZ cO cL dt A b nC nR nL nF par wt (fun r => nI (sk r)) (fun r => nI (fk r)) mc mp mm mf md mv mder mkn 1 (WD cI cO a FA nC nR nL nF par wt (fun r => nI (sk r)) (fun r => nI (fk r)) hd rea sig ++ (WF FA (fun k => mc k * 40 + mp k * 4 + mm k) mf md mv nx nF ++ [((ob, .inl (cL, 1, .inr (.inl u9))) : Nat × va_E)]))) (cwV 0 hts gL_law_X5_thrown rfl rfl rfl (by decide +kernel) ⟨(Nat.le_of_ble_eq_true rfl), (Nat.le_of_ble_eq_true rfl)⟩) (gP.v (hg.on hS) hP 4 rfl 0 rfl hP) rfl rfl hl.1 rfl (lv_room (Nat.le_of_ble_eq_true rfl)) dL_law_562 ⟨by show cells + 1 + 0 + 0 ≤ 601024; omega, by show slots + 6 + 0 + 0 ≤ 7293034; omega⟩) (fun t7 ht7 => ?_)
    obtain rfl : t7 = 1 := ht7
    have hP := va_P_perm hP (lperm (WD cI cO a FA nC nR nL nF par wt (fun r => nI (sk r)) (fun r => nI (fk r)) hd rea sig) (WF FA (fun k => mc k * 40 + mp k * 4 + mm k) mf md mv nx nF) (WM cI cZ b nC nR nL nF par wt (fun r => nI (sk r)) (fun r => nI (fk r)) mc mp mm mf md mv mder mkn 1) ((ob, .inl (cL, 1, .inr (.inl u9))) : Nat × va_E)).symm
    have hD := va_D_perm hD (lperm (WD cI cO a FA nC nR nL nF par wt (fun r => nI (sk r)) (fun r => nI (fk r)) hd rea sig) (WF FA (fun k => mc k * 40 + mp k * 4 + mm k) mf md mv nx nF) (WM cI cZ b nC nR nL nF par wt (fun r => nI (sk r)) (fun r => nI (fk r)) mc mp mm mf md mv mder mkn 1) ((ob, .inl (cL, 1, .inr (.inl u9))) : Nat × va_E)).symm
    refine lv_iload hx hb dL_law_565 (lv_at hl 1 rfl) ?_
    refine lv_icmp_eq (tgt := 572) hx hb dL_law_567 (by decide) (fun c_567 => ?_) (fun c_567 => ?_)
    · skip
      refine lv_iload hx hb dL_law_572 (lv_at hl 1 rfl) ?_
      refine lv_if_ne (tgt := 589) hx hb dL_law_574 (by decide) (fun c_574 => ?_) (fun c_574 => ?_)
      · skip
        refine lv_goto (tgt := 1413) hx hb dL_law_589 (by decide) ?_
        refine W.widen (k := cells + 4) (n := slots + 24) (by omega) (by omega) ?_
        exact kk _ _ _ ⟨FA, nC, nR, nL, nF, par, wt, sk, fk, hd, rea, sig, mc, mp, mm, mf, md, mv, nx, mder, mkn, 1, u9, L, hOk, hP, hD⟩ hS (lv_sub hl [2, 3, 4, 5, 6] rfl)
      · skip
        exact absurd c_574 (by decide)
    · skip
      exact absurd c_567 (by decide)
set_option maxHeartbeats 4000000 in
set_option maxRecDepth 100000 in
/-- the case of restated -/
theorem lw_restated (l : Launch) (hlt : l.stackTraces = false) {D : va_G} {cI cZ cO cL : ClassId} {dt : Nat} {A : Nat → Prop} {a b : Nat → Nat} {ob b0 i Ls cells slots : Nat} {xs : Nat → Int32} {p9 : Program} {e9 : Env} {s : State} {m9 : MethodId} {args : Array Value} {below : List Frame} {meth : Method} {c9 : Code} {H : Heap} {locs : List Loc} {ls : Array Slot} {Q : State → Prop}
    (hx : p9.tables.exec = Jvm.exec) (hb : c9.code = cL_law) (hml : c9.maxLocals = 7) (hown : s.vm.findClass RL = some m9.cls) (hts : ∀ w ∈ wsL_law, w.before args s = true) (hg : gG D cI cZ cO cL dt A s s.heap) (hX : va_X b0 Ls xs s s.heap) (hb0 : b0 < s.heap.size) (hbA : ¬ A b0) (hi : i + 6 ≤ Ls) (hLs : Ls ≤ 3072)
    (hI : lInv D cI cZ cO cL A a b ob H) (hS : va_S A s.heap H locs) (hl : lv_has ls 7 [(4, .int (nI i)), (3, .ref ob), (2, .ref (b 0)), (1, .ref (a 0)), (0, .ref b0)]) (hcc : cells + 4 ≤ 601024) (hss : slots + 24 ≤ 7293034)
    (kk : ∀ (H : Heap) (locs : List Loc) (ls : Array Slot), lInv D cI cZ cO cL A a b ob H → va_S A s.heap H locs → lv_has ls 7 [(4, .int (nI i)), (3, .ref ob), (2, .ref (b 0)), (1, .ref (a 0)), (0, .ref b0)] → W p9 l e9 room_1 s m9 args below meth c9 H locs (cells + 4) (slots + 24) Q (F0 m9 1413 ls [])) :
    W p9 l e9 room_1 s m9 args below meth c9 H locs cells slots Q (F0 m9 592 ls []) := by
  obtain ⟨FA, nC, nR, nL, nF, par, wt, sk, fk, hd, rea, sig, mc, mp, mm, mf, md, mv, nx, mder, mkn, thr, ov, L, hOk, hP, hD⟩ := hI
  obtain ⟨⟨hC12, hR5, hL8, hF⟩, ⟨hT, hwt⟩, ⟨hsk12, hfk12, hskC⟩, ⟨hCh, hH, hN, hfL⟩, h1, h2, h3, h4, hmd, hmv, h7⟩ := id hOk
  have hK := hg.1
  have hck : ∀ k, mc k * 40 + mp k * 4 + mm k < 480 := fun k => by have := h1 k; have := h2 k; have := h3 k; omega
  have hcf : ∀ k, mf k < 2 ^ 31 := fun k => by have := h4 k; omega
  have hmd31 : ∀ k, md k < 2 ^ 31 := fun k => by have := hmd k; omega
  have hP : va_P D vwCl (WD cI cO a FA nC nR nL nF par wt (fun r => nI (sk r)) (fun r => nI (fk r)) hd rea sig ++ (WF FA (fun k => mc k * 40 + mp k * 4 + mm k) mf md mv nx nF ++ ((ob, .inl (cL, 1, .inr (.inl ov))) : Nat × va_E) :: WM cI cZ b nC nR nL nF par wt (fun r => nI (sk r)) (fun r => nI (fk r)) mc mp mm mf md mv mder mkn thr)) H := hP
  have hD : va_D A (WD cI cO a FA nC nR nL nF par wt (fun r => nI (sk r)) (fun r => nI (fk r)) hd rea sig ++ (WF FA (fun k => mc k * 40 + mp k * 4 + mm k) mf md mv nx nF ++ ((ob, .inl (cL, 1, .inr (.inl ov))) : Nat × va_E) :: WM cI cZ b nC nR nL nF par wt (fun r => nI (sk r)) (fun r => nI (fk r)) mc mp mm mf md mv mder mkn thr)) := hD
  refine lv_aload_n hx hb dL_law_592 rfl (lv_at hl 3 rfl) ?_
  refine lv_aload_n hx hb dL_law_593 rfl (lv_at hl 4 rfl) ?_
  refine lv_iload hx hb dL_law_594 (lv_at hl 0 rfl) ?_
  refine lv_iconst (v := 1) hx hb dL_law_596 (by decide) ?_
  refine lv_iadd hx hb dL_law_597 ?_
  refine lv_topi (fun dv edv => ?_)
  obtain rfl : dv = nI (i + 1) := by rw [edv]; exact nI_add i 1
  refine va_sld hx hb hX hb0 hbA hS (vp_in_nI (n := (i + 1)) (by omega) (by omega)) dL_law_598 ?_
  rw [nI_clamp (by omega)]
  refine lv_aload_n hx hb dL_law_599 rfl (lv_at hl 1 rfl) ?_
  refine va_calli (vx_runSW (hh := [(0, 9, 12, 19)]) (As := [.ref (a 0), .int (xs (i + 1)), .ref ob]) (rest := []) ⟨hx, hb, hml, hown, hts⟩ (kL_restated l D cI cZ cO cL dt A a FA nC nR nL nF par wt (fun r => nI (sk r)) (fun r => nI (fk r)) hd rea sig (fun k => mc k * 40 + mp k * 4 + mm k) mf md mv nx (WM cI cZ b nC nR nL nF par wt (fun r => nI (sk r)) (fun r => nI (fk r)) mc mp mm mf md mv mder mkn thr) ob ov (xs (i + 1)) hlt hF hC12 hck hcf hmd hmv hwt hCh hL8) (vx_cwSW 3 hts gL_law_L_restated rfl rfl rfl (by decide +kernel) ⟨(Nat.le_of_ble_eq_true rfl), (Nat.le_of_ble_eq_true rfl)⟩) (gP.s (hg.on hS) ⟨hP, hD⟩) rfl rfl hl.1 rfl (lv_room (Nat.le_of_ble_eq_true rfl)) dL_law_600 ⟨by show cells + 1 ≤ 601024; omega, by show slots + 6 ≤ 7293034; omega⟩) hS (fun q _ h => h) (fun q h => h) (fun k9 u9 t9 H locs ht9 hvm9 hw9 hB9 hz9 hk9 hS => ?_)
  rw [ht9] at hB9
  rcases hw9 with ⟨rfl, r9, hu9, hpost⟩ | ⟨rfl, hR9⟩
  · skip
    have hB9 : va_P D vwCl (WD cI cO a FA nC nR nL nF par wt (fun r => nI (sk r)) (fun r => nI (fk r)) hd rea sig ++ (WF FA (fun k => mc k * 40 + mp k * 4 + mm k) mf md mv nx nF ++ ((ob, .inl (cL, 1, .inr (.inl u9))) : Nat × va_E) :: WM cI cZ b nC nR nL nF par wt (fun r => nI (sk r)) (fun r => nI (fk r)) mc mp mm mf md mv mder mkn thr)) H ∧ va_D A (WD cI cO a FA nC nR nL nF par wt (fun r => nI (sk r)) (fun r => nI (fk r)) hd rea sig ++ (WF FA (fun k => mc k * 40 + mp k * 4 + mm k) mf md mv nx nF ++ ((ob, .inl (cL, 1, .inr (.inl u9))) : Nat × va_E) :: WM cI cZ b nC nR nL nF par wt (fun r => nI (sk r)) (fun r => nI (fk r)) mc mp mm mf md mv mder mkn thr)) := hB9
    obtain ⟨hP, hD⟩ := hB9
    obtain ⟨f9, ⟨hf9, hf⟩, hr9⟩ := hpost
    refine lv_istore (lv' := [(5, .int 0), (4, .int (nI i)), (3, .ref ob), (2, .ref (b 0)), (1, .ref (a 0)), (0, .ref b0)]) hx hb dL_law_603 hl (by decide) rfl (fun ls hl => ?_)
    refine lv_aload_n hx hb dL_law_605 rfl (lv_at hl 3 rfl) ?_
    refine lv_aload_n hx hb dL_law_606 rfl (lv_at hl 5 rfl) ?_
    refine lv_iload hx hb dL_law_607 (lv_at hl 1 rfl) ?_
    refine lv_iconst (v := 1) hx hb dL_law_609 (by decide) ?_
    refine lv_iadd hx hb dL_law_610 ?_
    refine lv_topi (fun dv edv => ?_)
    obtain rfl : dv = nI (i + 1) := by rw [edv]; exact nI_add i 1
    refine va_sld hx hb hX hb0 hbA hS (vp_in_nI (n := (i + 1)) (by omega) (by omega)) dL_law_611 ?_
    rw [nI_clamp (by omega)]
    have hP := va_P_perm hP (lperm (WD cI cO a FA nC nR nL nF par wt (fun r => nI (sk r)) (fun r => nI (fk r)) hd rea sig) (WF FA (fun k => mc k * 40 + mp k * 4 + mm k) mf md mv nx nF) (WM cI cZ b nC nR nL nF par wt (fun r => nI (sk r)) (fun r => nI (fk r)) mc mp mm mf md mv mder mkn thr) ((ob, .inl (cL, 1, .inr (.inl u9))) : Nat × va_E))
    have hD := va_D_perm hD (lperm (WD cI cO a FA nC nR nL nF par wt (fun r => nI (sk r)) (fun r => nI (fk r)) hd rea sig) (WF FA (fun k => mc k * 40 + mp k * 4 + mm k) mf md mv nx nF) (WM cI cZ b nC nR nL nF par wt (fun r => nI (sk r)) (fun r => nI (fk r)) mc mp mm mf md mv mder mkn thr) ((ob, .inl (cL, 1, .inr (.inl u9))) : Nat × va_E))
    refine va_calli (va_runV (As := [.int (xs (i + 1))]) (rest := []) ⟨hx, hb, hml, hown, hts⟩ (c5_restated_0 l D cI cZ cO cL dt A b nC nR nL nF par wt (fun r => nI (sk r)) (fun r => nI (fk r)) mc mp mm mf md mv mder mkn thr (WD cI cO a FA nC nR nL nF par wt (fun r => nI (sk r)) (fun r => nI (fk r)) hd rea sig ++ (WF FA (fun k => mc k * 40 + mp k * 4 + mm k) mf md mv nx nF ++ [((ob, .inl (cL, 1, .inr (.inl u9))) : Nat × va_E)])) (xs (i + 1)) hF hC12 hcf hmd31 ((cOk_iff (n := nL + 1) (by omega)).mpr ⟨f9, hf9, hf⟩)) (cwV 1 hts gL_law_X5_restated rfl rfl rfl (by decide +kernel) ⟨(Nat.le_of_ble_eq_true rfl), (Nat.le_of_ble_eq_true rfl)⟩) (gP.v (hg.on hS) hP 4 rfl 0 rfl ⟨hP, hD⟩) rfl rfl hl.1 rfl (lv_room (Nat.le_of_ble_eq_true rfl)) dL_law_612 ⟨by show cells + 1 + 0 ≤ 601024; omega, by show slots + 6 + 0 ≤ 7293034; omega⟩) hS (fun q _ h => h) (fun q h => h) (fun b9 u8 t8 H locs ht8 hvm8 hw8 hB8 hz8 hk8 hS => ?_)
    rw [ht8] at hB8
    obtain ⟨hP, hD⟩ := hB8
    have hP : va_P D vwCl (WM cI cZ b nC nR nL nF par wt (fun r => nI (sk r)) (fun r => nI (fk r)) mc mp mm mf md mv mder mkn 0 ++ (WD cI cO a FA nC nR nL nF par wt (fun r => nI (sk r)) (fun r => nI (fk r)) hd rea sig ++ (WF FA (fun k => mc k * 40 + mp k * 4 + mm k) mf md mv nx nF ++ [((ob, .inl (cL, 1, .inr (.inl u9))) : Nat × va_E)]))) H := hP
    have hD : va_D A (WM cI cZ b nC nR nL nF par wt (fun r => nI (sk r)) (fun r => nI (fk r)) mc mp mm mf md mv mder mkn 0 ++ (WD cI cO a FA nC nR nL nF par wt (fun r => nI (sk r)) (fun r => nI (fk r)) hd rea sig ++ (WF FA (fun k => mc k * 40 + mp k * 4 + mm k) mf md mv nx nF ++ [((ob, .inl (cL, 1, .inr (.inl u9))) : Nat × va_E)]))) := hD
    refine lv_istore (lv' := [(6, .int b9), (5, .int 0), (4, .int (nI i)), (3, .ref ob), (2, .ref (b 0)), (1, .ref (a 0)), (0, .ref b0)]) hx hb dL_law_615 hl (by decide) rfl (fun ls hl => ?_)
    refine lv_aload_n hx hb dL_law_617 rfl (lv_at hl 4 rfl) ?_
    refine g_csi (va_runV (As := []) (rest := []) ⟨hx, hb, hml, hown, hts⟩ (c5_thrown l D cI cZ cO cL dt A b nC nR nL nF par wt (fun r => nI (sk r)) (fun r => nI (fk r)) mc mp mm mf md mv mder mkn 0 (WD cI cO a FA nC nR nL nF par wt (fun r => nI (sk r)) (fun r => nI (fk r)) hd rea sig ++ (WF FA (fun k => mc k * 40 + mp k * 4 + mm k) mf md mv nx nF ++ [((ob, .inl (cL, 1, .inr (.inl u9))) : Nat × va_E)]))) (cwV 0 hts gL_law_X5_thrown rfl rfl rfl (by decide +kernel) ⟨(Nat.le_of_ble_eq_true rfl), (Nat.le_of_ble_eq_true rfl)⟩) (gP.v (hg.on hS) hP 4 rfl 0 rfl hP) rfl rfl hl.1 rfl (lv_room (Nat.le_of_ble_eq_true rfl)) dL_law_618 ⟨by show cells + 1 + 0 + 0 ≤ 601024; omega, by show slots + 6 + 0 + 0 ≤ 7293034; omega⟩) (fun t7 ht7 => ?_)
    obtain rfl : t7 = 0 := ht7
    have hP := va_P_perm hP (lperm (WD cI cO a FA nC nR nL nF par wt (fun r => nI (sk r)) (fun r => nI (fk r)) hd rea sig) (WF FA (fun k => mc k * 40 + mp k * 4 + mm k) mf md mv nx nF) (WM cI cZ b nC nR nL nF par wt (fun r => nI (sk r)) (fun r => nI (fk r)) mc mp mm mf md mv mder mkn 0) ((ob, .inl (cL, 1, .inr (.inl u9))) : Nat × va_E)).symm
    have hD := va_D_perm hD (lperm (WD cI cO a FA nC nR nL nF par wt (fun r => nI (sk r)) (fun r => nI (fk r)) hd rea sig) (WF FA (fun k => mc k * 40 + mp k * 4 + mm k) mf md mv nx nF) (WM cI cZ b nC nR nL nF par wt (fun r => nI (sk r)) (fun r => nI (fk r)) mc mp mm mf md mv mder mkn 0) ((ob, .inl (cL, 1, .inr (.inl u9))) : Nat × va_E)).symm
    have hag9 : r9 = b9 := by rw [hr9, hw8, hf9]; exact rst_eq h1 h2 h3 h7 hC12
    have hag := congrArg Int32.toInt64 hag9
    refine lv_iload hx hb dL_law_621 (lv_at hl 1 rfl) ?_
    refine lv_icmp_eq (tgt := 628) hx hb dL_law_623 (by decide) (fun c_623 => ?_) (fun c_623 => ?_)
    · skip
      refine lv_iload hx hb dL_law_628 (lv_at hl 1 rfl) ?_
      refine lv_if_ne (tgt := 645) hx hb dL_law_630 (by decide) (fun c_630 => ?_) (fun c_630 => ?_)
      · skip
        exact absurd c_630 (by decide)
      · skip
        refine lv_aload_n hx hb dL_law_633 rfl (lv_at hl 3 rfl) ?_
        refine lv_iconst (v := 0) hx hb dL_law_634 (by decide) ?_
        refine va_lald hx hb hK hP (11 + nF) 3 (WDR_at) rfl e_in0 dL_law_635 ?_
        rw [e_z0, hu9, hag]
        refine lv_iload hx hb dL_law_636 (lv_at hl 0 rfl) ?_
        refine lv_i2l (v := (b9).toInt64) hx hb dL_law_638 rfl ?_
        refine W.lcmp hx hb dL_law_639 ?_
        rw [lg_self]
        refine lv_if_eq (tgt := 645) hx hb dL_law_640 (by decide) (fun c_640 => ?_) (fun c_640 => ?_)
        · skip
          refine lv_goto (tgt := 1413) hx hb dL_law_645 (by decide) ?_
          refine W.widen (k := cells + 4) (n := slots + 24) (by omega) (by omega) ?_
          exact kk _ _ _ ⟨FA, nC, nR, nL, nF, par, wt, sk, fk, hd, rea, sig, mc, mp, mm, mf, md, mv, nx, mder, mkn, 0, u9, L, hOk, hP, hD⟩ hS (lv_sub hl [2, 3, 4, 5, 6] rfl)
        · skip
          exact absurd c_640 (by decide)
    · skip
      exact absurd c_623 (by decide)
  · skip
    have hB9 : va_P D vwCl (WD cI cO a FA nC nR nL nF par wt (fun r => nI (sk r)) (fun r => nI (fk r)) hd rea sig ++ (WF FA (fun k => mc k * 40 + mp k * 4 + mm k) mf md mv nx nF ++ ((ob, .inl (cL, 1, .inr (.inl u9))) : Nat × va_E) :: WM cI cZ b nC nR nL nF par wt (fun r => nI (sk r)) (fun r => nI (fk r)) mc mp mm mf md mv mder mkn thr)) H ∧ va_D A (WD cI cO a FA nC nR nL nF par wt (fun r => nI (sk r)) (fun r => nI (fk r)) hd rea sig ++ (WF FA (fun k => mc k * 40 + mp k * 4 + mm k) mf md mv nx nF ++ ((ob, .inl (cL, 1, .inr (.inl u9))) : Nat × va_E) :: WM cI cZ b nC nR nL nF par wt (fun r => nI (sk r)) (fun r => nI (fk r)) mc mp mm mf md mv mder mkn thr)) := hB9
    obtain ⟨hP, hD⟩ := hB9
    refine lv_istore (lv' := [(5, .int 1), (4, .int (nI i)), (3, .ref ob), (2, .ref (b 0)), (1, .ref (a 0)), (0, .ref b0)]) hx hb dL_law_603 hl (by decide) rfl (fun ls hl => ?_)
    refine lv_aload_n hx hb dL_law_605 rfl (lv_at hl 3 rfl) ?_
    refine lv_aload_n hx hb dL_law_606 rfl (lv_at hl 5 rfl) ?_
    refine lv_iload hx hb dL_law_607 (lv_at hl 1 rfl) ?_
    refine lv_iconst (v := 1) hx hb dL_law_609 (by decide) ?_
    refine lv_iadd hx hb dL_law_610 ?_
    refine lv_topi (fun dv edv => ?_)
    obtain rfl : dv = nI (i + 1) := by rw [edv]; exact nI_add i 1
    refine va_sld hx hb hX hb0 hbA hS (vp_in_nI (n := (i + 1)) (by omega) (by omega)) dL_law_611 ?_
    rw [nI_clamp (by omega)]
    have hP := va_P_perm hP (lperm (WD cI cO a FA nC nR nL nF par wt (fun r => nI (sk r)) (fun r => nI (fk r)) hd rea sig) (WF FA (fun k => mc k * 40 + mp k * 4 + mm k) mf md mv nx nF) (WM cI cZ b nC nR nL nF par wt (fun r => nI (sk r)) (fun r => nI (fk r)) mc mp mm mf md mv mder mkn thr) ((ob, .inl (cL, 1, .inr (.inl u9))) : Nat × va_E))
    have hD := va_D_perm hD (lperm (WD cI cO a FA nC nR nL nF par wt (fun r => nI (sk r)) (fun r => nI (fk r)) hd rea sig) (WF FA (fun k => mc k * 40 + mp k * 4 + mm k) mf md mv nx nF) (WM cI cZ b nC nR nL nF par wt (fun r => nI (sk r)) (fun r => nI (fk r)) mc mp mm mf md mv mder mkn thr) ((ob, .inl (cL, 1, .inr (.inl u9))) : Nat × va_E))
    refine va_calli (va_runV (As := [.int (xs (i + 1))]) (rest := []) ⟨hx, hb, hml, hown, hts⟩ (c5_restated_1 l D cI cZ cO cL dt A b nC nR nL nF par wt (fun r => nI (sk r)) (fun r => nI (fk r)) mc mp mm mf md mv mder mkn thr (WD cI cO a FA nC nR nL nF par wt (fun r => nI (sk r)) (fun r => nI (fk r)) hd rea sig ++ (WF FA (fun k => mc k * 40 + mp k * 4 + mm k) mf md mv nx nF ++ [((ob, .inl (cL, 1, .inr (.inl u9))) : Nat × va_E)])) (xs (i + 1)) (fun z => hR9 ((cOk_iff (n := nL + 1) (by omega)).mp z))) (cwV 1 hts gL_law_X5_restated rfl rfl rfl (by decide +kernel) ⟨(Nat.le_of_ble_eq_true rfl), (Nat.le_of_ble_eq_true rfl)⟩) (gP.v (hg.on hS) hP 4 rfl 0 rfl ⟨hP, hD⟩) rfl rfl hl.1 rfl (lv_room (Nat.le_of_ble_eq_true rfl)) dL_law_612 ⟨by show cells + 1 + 0 ≤ 601024; omega, by show slots + 6 + 0 ≤ 7293034; omega⟩) hS (fun q _ h => h) (fun q h => h) (fun b9 u8 t8 H locs ht8 hvm8 hw8 hB8 hz8 hk8 hS => ?_)
    rw [ht8] at hB8
    obtain ⟨hP, hD⟩ := hB8
    have hP : va_P D vwCl (WM cI cZ b nC nR nL nF par wt (fun r => nI (sk r)) (fun r => nI (fk r)) mc mp mm mf md mv mder mkn 1 ++ (WD cI cO a FA nC nR nL nF par wt (fun r => nI (sk r)) (fun r => nI (fk r)) hd rea sig ++ (WF FA (fun k => mc k * 40 + mp k * 4 + mm k) mf md mv nx nF ++ [((ob, .inl (cL, 1, .inr (.inl u9))) : Nat × va_E)]))) H := hP
    have hD : va_D A (WM cI cZ b nC nR nL nF par wt (fun r => nI (sk r)) (fun r => nI (fk r)) mc mp mm mf md mv mder mkn 1 ++ (WD cI cO a FA nC nR nL nF par wt (fun r => nI (sk r)) (fun r => nI (fk r)) hd rea sig ++ (WF FA (fun k => mc k * 40 + mp k * 4 + mm k) mf md mv nx nF ++ [((ob, .inl (cL, 1, .inr (.inl u9))) : Nat × va_E)]))) := hD
    refine lv_istore (lv' := [(6, .int b9), (5, .int 1), (4, .int (nI i)), (3, .ref ob), (2, .ref (b 0)), (1, .ref (a 0)), (0, .ref b0)]) hx hb dL_law_615 hl (by decide) rfl (fun ls hl => ?_)
    refine lv_aload_n hx hb dL_law_617 rfl (lv_at hl 4 rfl) ?_
    refine g_csi (va_runV (As := []) (rest := []) ⟨hx, hb, hml, hown, hts⟩ (c5_thrown l D cI cZ cO cL dt A b nC nR nL nF par wt (fun r => nI (sk r)) (fun r => nI (fk r)) mc mp mm mf md mv mder mkn 1 (WD cI cO a FA nC nR nL nF par wt (fun r => nI (sk r)) (fun r => nI (fk r)) hd rea sig ++ (WF FA (fun k => mc k * 40 + mp k * 4 + mm k) mf md mv nx nF ++ [((ob, .inl (cL, 1, .inr (.inl u9))) : Nat × va_E)]))) (cwV 0 hts gL_law_X5_thrown rfl rfl rfl (by decide +kernel) ⟨(Nat.le_of_ble_eq_true rfl), (Nat.le_of_ble_eq_true rfl)⟩) (gP.v (hg.on hS) hP 4 rfl 0 rfl hP) rfl rfl hl.1 rfl (lv_room (Nat.le_of_ble_eq_true rfl)) dL_law_618 ⟨by show cells + 1 + 0 + 0 ≤ 601024; omega, by show slots + 6 + 0 + 0 ≤ 7293034; omega⟩) (fun t7 ht7 => ?_)
    obtain rfl : t7 = 1 := ht7
    have hP := va_P_perm hP (lperm (WD cI cO a FA nC nR nL nF par wt (fun r => nI (sk r)) (fun r => nI (fk r)) hd rea sig) (WF FA (fun k => mc k * 40 + mp k * 4 + mm k) mf md mv nx nF) (WM cI cZ b nC nR nL nF par wt (fun r => nI (sk r)) (fun r => nI (fk r)) mc mp mm mf md mv mder mkn 1) ((ob, .inl (cL, 1, .inr (.inl u9))) : Nat × va_E)).symm
    have hD := va_D_perm hD (lperm (WD cI cO a FA nC nR nL nF par wt (fun r => nI (sk r)) (fun r => nI (fk r)) hd rea sig) (WF FA (fun k => mc k * 40 + mp k * 4 + mm k) mf md mv nx nF) (WM cI cZ b nC nR nL nF par wt (fun r => nI (sk r)) (fun r => nI (fk r)) mc mp mm mf md mv mder mkn 1) ((ob, .inl (cL, 1, .inr (.inl u9))) : Nat × va_E)).symm
    refine lv_iload hx hb dL_law_621 (lv_at hl 1 rfl) ?_
    refine lv_icmp_eq (tgt := 628) hx hb dL_law_623 (by decide) (fun c_623 => ?_) (fun c_623 => ?_)
    · skip
      refine lv_iload hx hb dL_law_628 (lv_at hl 1 rfl) ?_
      refine lv_if_ne (tgt := 645) hx hb dL_law_630 (by decide) (fun c_630 => ?_) (fun c_630 => ?_)
      · skip
        refine lv_goto (tgt := 1413) hx hb dL_law_645 (by decide) ?_
        refine W.widen (k := cells + 4) (n := slots + 24) (by omega) (by omega) ?_
        exact kk _ _ _ ⟨FA, nC, nR, nL, nF, par, wt, sk, fk, hd, rea, sig, mc, mp, mm, mf, md, mv, nx, mder, mkn, 1, u9, L, hOk, hP, hD⟩ hS (lv_sub hl [2, 3, 4, 5, 6] rfl)
      · skip
        exact absurd c_630 (by decide)
    · skip
      exact absurd c_623 (by decide)
set_option maxHeartbeats 4000000 in
set_option maxRecDepth 100000 in
/-- the case of doubt -/
theorem lw_doubt (l : Launch) (hlt : l.stackTraces = false) {D : va_G} {cI cZ cO cL : ClassId} {dt : Nat} {A : Nat → Prop} {a b : Nat → Nat} {ob b0 i Ls cells slots : Nat} {xs : Nat → Int32} {p9 : Program} {e9 : Env} {s : State} {m9 : MethodId} {args : Array Value} {below : List Frame} {meth : Method} {c9 : Code} {H : Heap} {locs : List Loc} {ls : Array Slot} {Q : State → Prop}
    (hx : p9.tables.exec = Jvm.exec) (hb : c9.code = cL_law) (hml : c9.maxLocals = 7) (hown : s.vm.findClass RL = some m9.cls) (hts : ∀ w ∈ wsL_law, w.before args s = true) (hg : gG D cI cZ cO cL dt A s s.heap) (hX : va_X b0 Ls xs s s.heap) (hb0 : b0 < s.heap.size) (hbA : ¬ A b0) (hi : i + 6 ≤ Ls) (hLs : Ls ≤ 3072)
    (hI : lInv D cI cZ cO cL A a b ob H) (hS : va_S A s.heap H locs) (hl : lv_has ls 7 [(4, .int (nI i)), (3, .ref ob), (2, .ref (b 0)), (1, .ref (a 0)), (0, .ref b0)]) (hcc : cells + 4 ≤ 601024) (hss : slots + 24 ≤ 7293034)
    (kk : ∀ (H : Heap) (locs : List Loc) (ls : Array Slot), lInv D cI cZ cO cL A a b ob H → va_S A s.heap H locs → lv_has ls 7 [(4, .int (nI i)), (3, .ref ob), (2, .ref (b 0)), (1, .ref (a 0)), (0, .ref b0)] → W p9 l e9 room_1 s m9 args below meth c9 H locs (cells + 4) (slots + 24) Q (F0 m9 1413 ls [])) :
    W p9 l e9 room_1 s m9 args below meth c9 H locs cells slots Q (F0 m9 740 ls []) := by
  obtain ⟨FA, nC, nR, nL, nF, par, wt, sk, fk, hd, rea, sig, mc, mp, mm, mf, md, mv, nx, mder, mkn, thr, ov, L, hOk, hP, hD⟩ := hI
  obtain ⟨⟨hC12, hR5, hL8, hF⟩, ⟨hT, hwt⟩, ⟨hsk12, hfk12, hskC⟩, ⟨hCh, hH, hN, hfL⟩, h1, h2, h3, h4, hmd, hmv, h7⟩ := id hOk
  have hK := hg.1
  have hck : ∀ k, mc k * 40 + mp k * 4 + mm k < 480 := fun k => by have := h1 k; have := h2 k; have := h3 k; omega
  have hcf : ∀ k, mf k < 2 ^ 31 := fun k => by have := h4 k; omega
  have hmd31 : ∀ k, md k < 2 ^ 31 := fun k => by have := hmd k; omega
  have hP : va_P D vwCl (WD cI cO a FA nC nR nL nF par wt (fun r => nI (sk r)) (fun r => nI (fk r)) hd rea sig ++ (WF FA (fun k => mc k * 40 + mp k * 4 + mm k) mf md mv nx nF ++ ((ob, .inl (cL, 1, .inr (.inl ov))) : Nat × va_E) :: WM cI cZ b nC nR nL nF par wt (fun r => nI (sk r)) (fun r => nI (fk r)) mc mp mm mf md mv mder mkn thr)) H := hP
  have hD : va_D A (WD cI cO a FA nC nR nL nF par wt (fun r => nI (sk r)) (fun r => nI (fk r)) hd rea sig ++ (WF FA (fun k => mc k * 40 + mp k * 4 + mm k) mf md mv nx nF ++ ((ob, .inl (cL, 1, .inr (.inl ov))) : Nat × va_E) :: WM cI cZ b nC nR nL nF par wt (fun r => nI (sk r)) (fun r => nI (fk r)) mc mp mm mf md mv mder mkn thr)) := hD
  refine lv_aload_n hx hb dL_law_740 rfl (lv_at hl 3 rfl) ?_
  refine lv_aload_n hx hb dL_law_741 rfl (lv_at hl 4 rfl) ?_
  refine lv_iload hx hb dL_law_742 (lv_at hl 0 rfl) ?_
  refine lv_iconst (v := 1) hx hb dL_law_744 (by decide) ?_
  refine lv_iadd hx hb dL_law_745 ?_
  refine lv_topi (fun dv edv => ?_)
  obtain rfl : dv = nI (i + 1) := by rw [edv]; exact nI_add i 1
  refine va_sld hx hb hX hb0 hbA hS (vp_in_nI (n := (i + 1)) (by omega) (by omega)) dL_law_746 ?_
  rw [nI_clamp (by omega)]
  refine lv_aload_n hx hb dL_law_747 rfl (lv_at hl 4 rfl) ?_
  refine lv_iload hx hb dL_law_748 (lv_at hl 0 rfl) ?_
  refine lv_iconst (v := 2) hx hb dL_law_750 (by decide) ?_
  refine lv_iadd hx hb dL_law_751 ?_
  refine lv_topi (fun dv edv => ?_)
  obtain rfl : dv = nI (i + 2) := by rw [edv]; exact nI_add i 2
  refine va_sld hx hb hX hb0 hbA hS (vp_in_nI (n := (i + 2)) (by omega) (by omega)) dL_law_752 ?_
  rw [nI_clamp (by omega)]
  refine lv_aload_n hx hb dL_law_753 rfl (lv_at hl 4 rfl) ?_
  refine lv_iload hx hb dL_law_754 (lv_at hl 0 rfl) ?_
  refine lv_iconst (v := 3) hx hb dL_law_756 (by decide) ?_
  refine lv_iadd hx hb dL_law_757 ?_
  refine lv_topi (fun dv edv => ?_)
  obtain rfl : dv = nI (i + 3) := by rw [edv]; exact nI_add i 3
  refine va_sld hx hb hX hb0 hbA hS (vp_in_nI (n := (i + 3)) (by omega) (by omega)) dL_law_758 ?_
  rw [nI_clamp (by omega)]
  refine lv_aload_n hx hb dL_law_759 rfl (lv_at hl 4 rfl) ?_
  refine lv_iload hx hb dL_law_760 (lv_at hl 0 rfl) ?_
  refine lv_iconst (v := 4) hx hb dL_law_762 (by decide) ?_
  refine lv_iadd hx hb dL_law_763 ?_
  refine lv_topi (fun dv edv => ?_)
  obtain rfl : dv = nI (i + 4) := by rw [edv]; exact nI_add i 4
  refine va_sld hx hb hX hb0 hbA hS (vp_in_nI (n := (i + 4)) (by omega) (by omega)) dL_law_764 ?_
  rw [nI_clamp (by omega)]
  refine lv_aload_n hx hb dL_law_765 rfl (lv_at hl 1 rfl) ?_
  refine va_calli (vx_runSW (hh := [(0, 14, 17, 19), (0, 14, 21, 48)]) (As := [.ref (a 0), .int (xs (i + 1)), .int (xs (i + 2)), .int (xs (i + 3)), .int (xs (i + 4)), .ref ob]) (rest := []) ⟨hx, hb, hml, hown, hts⟩ (kL_doubt l D cI cZ cO cL dt A a FA nC nR nL nF par wt (fun r => nI (sk r)) (fun r => nI (fk r)) hd rea sig (fun k => mc k * 40 + mp k * 4 + mm k) mf md mv nx (WM cI cZ b nC nR nL nF par wt (fun r => nI (sk r)) (fun r => nI (fk r)) mc mp mm mf md mv mder mkn thr) ob ov (xs (i + 1)) (xs (i + 2)) (xs (i + 3)) (xs (i + 4)) hlt hF hC12 hck hcf hmd hmv hwt hCh hL8) (vx_cwSW 6 hts gL_law_L_doubt rfl rfl rfl (by decide +kernel) ⟨(Nat.le_of_ble_eq_true rfl), (Nat.le_of_ble_eq_true rfl)⟩) (gP.s (hg.on hS) ⟨hP, hD⟩) rfl rfl hl.1 rfl (lv_room (Nat.le_of_ble_eq_true rfl)) dL_law_766 ⟨by show cells + 4 ≤ 601024; omega, by show slots + 24 ≤ 7293034; omega⟩) hS (fun q _ h => h) (fun q h => h) (fun k9 u9 t9 H locs ht9 hvm9 hw9 hB9 hz9 hk9 hS => ?_)
  rw [ht9] at hB9
  rcases hw9 with ⟨rfl, r9, hu9, hpost⟩ | ⟨rfl, hR9⟩ | ⟨rfl, hR9⟩
  · skip
    have hB9 : va_P D vwCl (WD cI cO a FA nC nR nL nF par wt (fun r => nI (sk r)) (fun r => nI (fk r)) hd rea sig ++ (WF FA (fun k => mc k * 40 + mp k * 4 + mm k) mf md mv nx nF ++ ((ob, .inl (cL, 1, .inr (.inl u9))) : Nat × va_E) :: WM cI cZ b nC nR nL nF par wt (fun r => nI (sk r)) (fun r => nI (fk r)) mc mp mm mf md mv mder mkn thr)) H ∧ va_D A (WD cI cO a FA nC nR nL nF par wt (fun r => nI (sk r)) (fun r => nI (fk r)) hd rea sig ++ (WF FA (fun k => mc k * 40 + mp k * 4 + mm k) mf md mv nx nF ++ ((ob, .inl (cL, 1, .inr (.inl u9))) : Nat × va_E) :: WM cI cZ b nC nR nL nF par wt (fun r => nI (sk r)) (fun r => nI (fk r)) mc mp mm mf md mv mder mkn thr)) := hB9
    obtain ⟨hP, hD⟩ := hB9
    obtain ⟨c1, p1, m1, f1, hv9, j, hj, rfl⟩ := hpost
    have hvv := hv9
    obtain ⟨⟨hc9, hc⟩, ⟨hp9, hp⟩, ⟨hm9, hm⟩, ⟨hf9, hf⟩⟩ := hv9
    refine lv_istore (lv' := [(5, .int 0), (4, .int (nI i)), (3, .ref ob), (2, .ref (b 0)), (1, .ref (a 0)), (0, .ref b0)]) hx hb dL_law_769 hl (by decide) rfl (fun ls hl => ?_)
    refine lv_aload_n hx hb dL_law_771 rfl (lv_at hl 3 rfl) ?_
    refine lv_aload_n hx hb dL_law_772 rfl (lv_at hl 5 rfl) ?_
    refine lv_iload hx hb dL_law_773 (lv_at hl 1 rfl) ?_
    refine lv_iconst (v := 1) hx hb dL_law_775 (by decide) ?_
    refine lv_iadd hx hb dL_law_776 ?_
    refine lv_topi (fun dv edv => ?_)
    obtain rfl : dv = nI (i + 1) := by rw [edv]; exact nI_add i 1
    refine va_sld hx hb hX hb0 hbA hS (vp_in_nI (n := (i + 1)) (by omega) (by omega)) dL_law_777 ?_
    rw [nI_clamp (by omega)]
    refine lv_aload_n hx hb dL_law_778 rfl (lv_at hl 5 rfl) ?_
    refine lv_iload hx hb dL_law_779 (lv_at hl 1 rfl) ?_
    refine lv_iconst (v := 2) hx hb dL_law_781 (by decide) ?_
    refine lv_iadd hx hb dL_law_782 ?_
    refine lv_topi (fun dv edv => ?_)
    obtain rfl : dv = nI (i + 2) := by rw [edv]; exact nI_add i 2
    refine va_sld hx hb hX hb0 hbA hS (vp_in_nI (n := (i + 2)) (by omega) (by omega)) dL_law_783 ?_
    rw [nI_clamp (by omega)]
    refine lv_aload_n hx hb dL_law_784 rfl (lv_at hl 5 rfl) ?_
    refine lv_iload hx hb dL_law_785 (lv_at hl 1 rfl) ?_
    refine lv_iconst (v := 3) hx hb dL_law_787 (by decide) ?_
    refine lv_iadd hx hb dL_law_788 ?_
    refine lv_topi (fun dv edv => ?_)
    obtain rfl : dv = nI (i + 3) := by rw [edv]; exact nI_add i 3
    refine va_sld hx hb hX hb0 hbA hS (vp_in_nI (n := (i + 3)) (by omega) (by omega)) dL_law_789 ?_
    rw [nI_clamp (by omega)]
    refine lv_aload_n hx hb dL_law_790 rfl (lv_at hl 5 rfl) ?_
    refine lv_iload hx hb dL_law_791 (lv_at hl 1 rfl) ?_
    refine lv_iconst (v := 4) hx hb dL_law_793 (by decide) ?_
    refine lv_iadd hx hb dL_law_794 ?_
    refine lv_topi (fun dv edv => ?_)
    obtain rfl : dv = nI (i + 4) := by rw [edv]; exact nI_add i 4
    refine va_sld hx hb hX hb0 hbA hS (vp_in_nI (n := (i + 4)) (by omega) (by omega)) dL_law_795 ?_
    rw [nI_clamp (by omega)]
    have hP := va_P_perm hP (lperm (WD cI cO a FA nC nR nL nF par wt (fun r => nI (sk r)) (fun r => nI (fk r)) hd rea sig) (WF FA (fun k => mc k * 40 + mp k * 4 + mm k) mf md mv nx nF) (WM cI cZ b nC nR nL nF par wt (fun r => nI (sk r)) (fun r => nI (fk r)) mc mp mm mf md mv mder mkn thr) ((ob, .inl (cL, 1, .inr (.inl u9))) : Nat × va_E))
    have hD := va_D_perm hD (lperm (WD cI cO a FA nC nR nL nF par wt (fun r => nI (sk r)) (fun r => nI (fk r)) hd rea sig) (WF FA (fun k => mc k * 40 + mp k * 4 + mm k) mf md mv nx nF) (WM cI cZ b nC nR nL nF par wt (fun r => nI (sk r)) (fun r => nI (fk r)) mc mp mm mf md mv mder mkn thr) ((ob, .inl (cL, 1, .inr (.inl u9))) : Nat × va_E))
    refine va_calli (va_runV (As := [.int (xs (i + 1)), .int (xs (i + 2)), .int (xs (i + 3)), .int (xs (i + 4))]) (rest := []) ⟨hx, hb, hml, hown, hts⟩ (c5_doubt_0 l D cI cZ cO cL dt A b nC nR nL nF par wt (fun r => nI (sk r)) (fun r => nI (fk r)) mc mp mm mf md mv mder mkn thr (WD cI cO a FA nC nR nL nF par wt (fun r => nI (sk r)) (fun r => nI (fk r)) hd rea sig ++ (WF FA (fun k => mc k * 40 + mp k * 4 + mm k) mf md mv nx nF ++ [((ob, .inl (cL, 1, .inr (.inl u9))) : Nat × va_E)])) (xs (i + 1)) (xs (i + 2)) (xs (i + 3)) (xs (i + 4)) j hF hC12 hcf hmd31 (kV_ask hC12 hL8 hvv) (by rw [hc9, hp9, hm9, hf9, hMC h1 h2 h3 (by omega) hp hm]; exact hj)) (cwV 4 hts gL_law_X5_doubt rfl rfl rfl (by decide +kernel) ⟨(Nat.le_of_ble_eq_true rfl), (Nat.le_of_ble_eq_true rfl)⟩) (gP.v (hg.on hS) hP 4 rfl 0 rfl ⟨hP, hD⟩) rfl rfl hl.1 rfl (lv_room (Nat.le_of_ble_eq_true rfl)) dL_law_796 ⟨by show cells + 4 + 0 ≤ 601024; omega, by show slots + 24 + 0 ≤ 7293034; omega⟩) hS (fun q _ h => h) (fun q h => h) (fun b9 u8 t8 H locs ht8 hvm8 hw8 hB8 hz8 hk8 hS => ?_)
    rw [ht8] at hB8
    obtain ⟨hP, hD⟩ := hB8
    have hP : va_P D vwCl (WM cI cZ b nC nR nL nF par wt (fun r => nI (sk r)) (fun r => nI (fk r)) mc mp mm mf md mv mder mkn 0 ++ (WD cI cO a FA nC nR nL nF par wt (fun r => nI (sk r)) (fun r => nI (fk r)) hd rea sig ++ (WF FA (fun k => mc k * 40 + mp k * 4 + mm k) mf md mv nx nF ++ [((ob, .inl (cL, 1, .inr (.inl u9))) : Nat × va_E)]))) H := hP
    have hD : va_D A (WM cI cZ b nC nR nL nF par wt (fun r => nI (sk r)) (fun r => nI (fk r)) mc mp mm mf md mv mder mkn 0 ++ (WD cI cO a FA nC nR nL nF par wt (fun r => nI (sk r)) (fun r => nI (fk r)) hd rea sig ++ (WF FA (fun k => mc k * 40 + mp k * 4 + mm k) mf md mv nx nF ++ [((ob, .inl (cL, 1, .inr (.inl u9))) : Nat × va_E)]))) := hD
    refine lv_istore (lv' := [(6, .int b9), (5, .int 0), (4, .int (nI i)), (3, .ref ob), (2, .ref (b 0)), (1, .ref (a 0)), (0, .ref b0)]) hx hb dL_law_799 hl (by decide) rfl (fun ls hl => ?_)
    refine lv_aload_n hx hb dL_law_801 rfl (lv_at hl 4 rfl) ?_
    refine g_csi (va_runV (As := []) (rest := []) ⟨hx, hb, hml, hown, hts⟩ (c5_thrown l D cI cZ cO cL dt A b nC nR nL nF par wt (fun r => nI (sk r)) (fun r => nI (fk r)) mc mp mm mf md mv mder mkn 0 (WD cI cO a FA nC nR nL nF par wt (fun r => nI (sk r)) (fun r => nI (fk r)) hd rea sig ++ (WF FA (fun k => mc k * 40 + mp k * 4 + mm k) mf md mv nx nF ++ [((ob, .inl (cL, 1, .inr (.inl u9))) : Nat × va_E)]))) (cwV 0 hts gL_law_X5_thrown rfl rfl rfl (by decide +kernel) ⟨(Nat.le_of_ble_eq_true rfl), (Nat.le_of_ble_eq_true rfl)⟩) (gP.v (hg.on hS) hP 4 rfl 0 rfl hP) rfl rfl hl.1 rfl (lv_room (Nat.le_of_ble_eq_true rfl)) dL_law_802 ⟨by show cells + 4 + 0 + 0 ≤ 601024; omega, by show slots + 24 + 0 + 0 ≤ 7293034; omega⟩) (fun t7 ht7 => ?_)
    obtain rfl : t7 = 0 := ht7
    have hP := va_P_perm hP (lperm (WD cI cO a FA nC nR nL nF par wt (fun r => nI (sk r)) (fun r => nI (fk r)) hd rea sig) (WF FA (fun k => mc k * 40 + mp k * 4 + mm k) mf md mv nx nF) (WM cI cZ b nC nR nL nF par wt (fun r => nI (sk r)) (fun r => nI (fk r)) mc mp mm mf md mv mder mkn 0) ((ob, .inl (cL, 1, .inr (.inl u9))) : Nat × va_E)).symm
    have hD := va_D_perm hD (lperm (WD cI cO a FA nC nR nL nF par wt (fun r => nI (sk r)) (fun r => nI (fk r)) hd rea sig) (WF FA (fun k => mc k * 40 + mp k * 4 + mm k) mf md mv nx nF) (WM cI cZ b nC nR nL nF par wt (fun r => nI (sk r)) (fun r => nI (fk r)) mc mp mm mf md mv mder mkn 0) ((ob, .inl (cL, 1, .inr (.inl u9))) : Nat × va_E)).symm
    have hag := congrArg Int32.toInt64 hw8.symm
    refine lv_iload hx hb dL_law_805 (lv_at hl 1 rfl) ?_
    refine lv_icmp_eq (tgt := 812) hx hb dL_law_807 (by decide) (fun c_807 => ?_) (fun c_807 => ?_)
    · skip
      refine lv_iload hx hb dL_law_812 (lv_at hl 1 rfl) ?_
      refine lv_if_ne (tgt := 829) hx hb dL_law_814 (by decide) (fun c_814 => ?_) (fun c_814 => ?_)
      · skip
        exact absurd c_814 (by decide)
      · skip
        refine lv_aload_n hx hb dL_law_817 rfl (lv_at hl 3 rfl) ?_
        refine lv_iconst (v := 0) hx hb dL_law_818 (by decide) ?_
        refine va_lald hx hb hK hP (11 + nF) 3 (WDR_at) rfl e_in0 dL_law_819 ?_
        rw [e_z0, hu9, hag]
        refine lv_iload hx hb dL_law_820 (lv_at hl 0 rfl) ?_
        refine lv_i2l (v := (b9).toInt64) hx hb dL_law_822 rfl ?_
        refine W.lcmp hx hb dL_law_823 ?_
        rw [lg_self]
        refine lv_if_eq (tgt := 829) hx hb dL_law_824 (by decide) (fun c_824 => ?_) (fun c_824 => ?_)
        · skip
          refine lv_goto (tgt := 1413) hx hb dL_law_829 (by decide) ?_
          refine W.widen (k := cells + 4) (n := slots + 24) (by omega) (by omega) ?_
          exact kk _ _ _ ⟨FA, nC, nR, nL, nF, par, wt, sk, fk, hd, rea, sig, mc, mp, mm, mf, md, mv, nx, mder, mkn, 0, u9, L, hOk, hP, hD⟩ hS (lv_sub hl [2, 3, 4, 5, 6] rfl)
        · skip
          exact absurd c_824 (by decide)
    · skip
      exact absurd c_807 (by decide)
  · skip
    have hB9 : va_P D vwCl (WD cI cO a FA nC nR nL nF par wt (fun r => nI (sk r)) (fun r => nI (fk r)) hd rea sig ++ (WF FA (fun k => mc k * 40 + mp k * 4 + mm k) mf md mv nx nF ++ ((ob, .inl (cL, 1, .inr (.inl u9))) : Nat × va_E) :: WM cI cZ b nC nR nL nF par wt (fun r => nI (sk r)) (fun r => nI (fk r)) mc mp mm mf md mv mder mkn thr)) H ∧ va_D A (WD cI cO a FA nC nR nL nF par wt (fun r => nI (sk r)) (fun r => nI (fk r)) hd rea sig ++ (WF FA (fun k => mc k * 40 + mp k * 4 + mm k) mf md mv nx nF ++ ((ob, .inl (cL, 1, .inr (.inl u9))) : Nat × va_E) :: WM cI cZ b nC nR nL nF par wt (fun r => nI (sk r)) (fun r => nI (fk r)) mc mp mm mf md mv mder mkn thr)) := hB9
    obtain ⟨hP, hD⟩ := hB9
    refine lv_istore (lv' := [(5, .int 1), (4, .int (nI i)), (3, .ref ob), (2, .ref (b 0)), (1, .ref (a 0)), (0, .ref b0)]) hx hb dL_law_769 hl (by decide) rfl (fun ls hl => ?_)
    refine lv_aload_n hx hb dL_law_771 rfl (lv_at hl 3 rfl) ?_
    refine lv_aload_n hx hb dL_law_772 rfl (lv_at hl 5 rfl) ?_
    refine lv_iload hx hb dL_law_773 (lv_at hl 1 rfl) ?_
    refine lv_iconst (v := 1) hx hb dL_law_775 (by decide) ?_
    refine lv_iadd hx hb dL_law_776 ?_
    refine lv_topi (fun dv edv => ?_)
    obtain rfl : dv = nI (i + 1) := by rw [edv]; exact nI_add i 1
    refine va_sld hx hb hX hb0 hbA hS (vp_in_nI (n := (i + 1)) (by omega) (by omega)) dL_law_777 ?_
    rw [nI_clamp (by omega)]
    refine lv_aload_n hx hb dL_law_778 rfl (lv_at hl 5 rfl) ?_
    refine lv_iload hx hb dL_law_779 (lv_at hl 1 rfl) ?_
    refine lv_iconst (v := 2) hx hb dL_law_781 (by decide) ?_
    refine lv_iadd hx hb dL_law_782 ?_
    refine lv_topi (fun dv edv => ?_)
    obtain rfl : dv = nI (i + 2) := by rw [edv]; exact nI_add i 2
    refine va_sld hx hb hX hb0 hbA hS (vp_in_nI (n := (i + 2)) (by omega) (by omega)) dL_law_783 ?_
    rw [nI_clamp (by omega)]
    refine lv_aload_n hx hb dL_law_784 rfl (lv_at hl 5 rfl) ?_
    refine lv_iload hx hb dL_law_785 (lv_at hl 1 rfl) ?_
    refine lv_iconst (v := 3) hx hb dL_law_787 (by decide) ?_
    refine lv_iadd hx hb dL_law_788 ?_
    refine lv_topi (fun dv edv => ?_)
    obtain rfl : dv = nI (i + 3) := by rw [edv]; exact nI_add i 3
    refine va_sld hx hb hX hb0 hbA hS (vp_in_nI (n := (i + 3)) (by omega) (by omega)) dL_law_789 ?_
    rw [nI_clamp (by omega)]
    refine lv_aload_n hx hb dL_law_790 rfl (lv_at hl 5 rfl) ?_
    refine lv_iload hx hb dL_law_791 (lv_at hl 1 rfl) ?_
    refine lv_iconst (v := 4) hx hb dL_law_793 (by decide) ?_
    refine lv_iadd hx hb dL_law_794 ?_
    refine lv_topi (fun dv edv => ?_)
    obtain rfl : dv = nI (i + 4) := by rw [edv]; exact nI_add i 4
    refine va_sld hx hb hX hb0 hbA hS (vp_in_nI (n := (i + 4)) (by omega) (by omega)) dL_law_795 ?_
    rw [nI_clamp (by omega)]
    have hP := va_P_perm hP (lperm (WD cI cO a FA nC nR nL nF par wt (fun r => nI (sk r)) (fun r => nI (fk r)) hd rea sig) (WF FA (fun k => mc k * 40 + mp k * 4 + mm k) mf md mv nx nF) (WM cI cZ b nC nR nL nF par wt (fun r => nI (sk r)) (fun r => nI (fk r)) mc mp mm mf md mv mder mkn thr) ((ob, .inl (cL, 1, .inr (.inl u9))) : Nat × va_E))
    have hD := va_D_perm hD (lperm (WD cI cO a FA nC nR nL nF par wt (fun r => nI (sk r)) (fun r => nI (fk r)) hd rea sig) (WF FA (fun k => mc k * 40 + mp k * 4 + mm k) mf md mv nx nF) (WM cI cZ b nC nR nL nF par wt (fun r => nI (sk r)) (fun r => nI (fk r)) mc mp mm mf md mv mder mkn thr) ((ob, .inl (cL, 1, .inr (.inl u9))) : Nat × va_E))
    refine va_calli (va_runV (As := [.int (xs (i + 1)), .int (xs (i + 2)), .int (xs (i + 3)), .int (xs (i + 4))]) (rest := []) ⟨hx, hb, hml, hown, hts⟩ (c5_doubt_1 l D cI cZ cO cL dt A b nC nR nL nF par wt (fun r => nI (sk r)) (fun r => nI (fk r)) mc mp mm mf md mv mder mkn thr (WD cI cO a FA nC nR nL nF par wt (fun r => nI (sk r)) (fun r => nI (fk r)) hd rea sig ++ (WF FA (fun k => mc k * 40 + mp k * 4 + mm k) mf md mv nx nF ++ [((ob, .inl (cL, 1, .inr (.inl u9))) : Nat × va_E)])) (xs (i + 1)) (xs (i + 2)) (xs (i + 3)) (xs (i + 4)) (kNo_ask hC12 hL8 hR9)) (cwV 4 hts gL_law_X5_doubt rfl rfl rfl (by decide +kernel) ⟨(Nat.le_of_ble_eq_true rfl), (Nat.le_of_ble_eq_true rfl)⟩) (gP.v (hg.on hS) hP 4 rfl 0 rfl ⟨hP, hD⟩) rfl rfl hl.1 rfl (lv_room (Nat.le_of_ble_eq_true rfl)) dL_law_796 ⟨by show cells + 4 + 0 ≤ 601024; omega, by show slots + 24 + 0 ≤ 7293034; omega⟩) hS (fun q _ h => h) (fun q h => h) (fun b9 u8 t8 H locs ht8 hvm8 hw8 hB8 hz8 hk8 hS => ?_)
    rw [ht8] at hB8
    obtain ⟨hP, hD⟩ := hB8
    have hP : va_P D vwCl (WM cI cZ b nC nR nL nF par wt (fun r => nI (sk r)) (fun r => nI (fk r)) mc mp mm mf md mv mder mkn 1 ++ (WD cI cO a FA nC nR nL nF par wt (fun r => nI (sk r)) (fun r => nI (fk r)) hd rea sig ++ (WF FA (fun k => mc k * 40 + mp k * 4 + mm k) mf md mv nx nF ++ [((ob, .inl (cL, 1, .inr (.inl u9))) : Nat × va_E)]))) H := hP
    have hD : va_D A (WM cI cZ b nC nR nL nF par wt (fun r => nI (sk r)) (fun r => nI (fk r)) mc mp mm mf md mv mder mkn 1 ++ (WD cI cO a FA nC nR nL nF par wt (fun r => nI (sk r)) (fun r => nI (fk r)) hd rea sig ++ (WF FA (fun k => mc k * 40 + mp k * 4 + mm k) mf md mv nx nF ++ [((ob, .inl (cL, 1, .inr (.inl u9))) : Nat × va_E)]))) := hD
    refine lv_istore (lv' := [(6, .int b9), (5, .int 1), (4, .int (nI i)), (3, .ref ob), (2, .ref (b 0)), (1, .ref (a 0)), (0, .ref b0)]) hx hb dL_law_799 hl (by decide) rfl (fun ls hl => ?_)
    refine lv_aload_n hx hb dL_law_801 rfl (lv_at hl 4 rfl) ?_
    refine g_csi (va_runV (As := []) (rest := []) ⟨hx, hb, hml, hown, hts⟩ (c5_thrown l D cI cZ cO cL dt A b nC nR nL nF par wt (fun r => nI (sk r)) (fun r => nI (fk r)) mc mp mm mf md mv mder mkn 1 (WD cI cO a FA nC nR nL nF par wt (fun r => nI (sk r)) (fun r => nI (fk r)) hd rea sig ++ (WF FA (fun k => mc k * 40 + mp k * 4 + mm k) mf md mv nx nF ++ [((ob, .inl (cL, 1, .inr (.inl u9))) : Nat × va_E)]))) (cwV 0 hts gL_law_X5_thrown rfl rfl rfl (by decide +kernel) ⟨(Nat.le_of_ble_eq_true rfl), (Nat.le_of_ble_eq_true rfl)⟩) (gP.v (hg.on hS) hP 4 rfl 0 rfl hP) rfl rfl hl.1 rfl (lv_room (Nat.le_of_ble_eq_true rfl)) dL_law_802 ⟨by show cells + 4 + 0 + 0 ≤ 601024; omega, by show slots + 24 + 0 + 0 ≤ 7293034; omega⟩) (fun t7 ht7 => ?_)
    obtain rfl : t7 = 1 := ht7
    have hP := va_P_perm hP (lperm (WD cI cO a FA nC nR nL nF par wt (fun r => nI (sk r)) (fun r => nI (fk r)) hd rea sig) (WF FA (fun k => mc k * 40 + mp k * 4 + mm k) mf md mv nx nF) (WM cI cZ b nC nR nL nF par wt (fun r => nI (sk r)) (fun r => nI (fk r)) mc mp mm mf md mv mder mkn 1) ((ob, .inl (cL, 1, .inr (.inl u9))) : Nat × va_E)).symm
    have hD := va_D_perm hD (lperm (WD cI cO a FA nC nR nL nF par wt (fun r => nI (sk r)) (fun r => nI (fk r)) hd rea sig) (WF FA (fun k => mc k * 40 + mp k * 4 + mm k) mf md mv nx nF) (WM cI cZ b nC nR nL nF par wt (fun r => nI (sk r)) (fun r => nI (fk r)) mc mp mm mf md mv mder mkn 1) ((ob, .inl (cL, 1, .inr (.inl u9))) : Nat × va_E)).symm
    refine lv_iload hx hb dL_law_805 (lv_at hl 1 rfl) ?_
    refine lv_icmp_eq (tgt := 812) hx hb dL_law_807 (by decide) (fun c_807 => ?_) (fun c_807 => ?_)
    · skip
      refine lv_iload hx hb dL_law_812 (lv_at hl 1 rfl) ?_
      refine lv_if_ne (tgt := 829) hx hb dL_law_814 (by decide) (fun c_814 => ?_) (fun c_814 => ?_)
      · skip
        refine lv_goto (tgt := 1413) hx hb dL_law_829 (by decide) ?_
        refine W.widen (k := cells + 4) (n := slots + 24) (by omega) (by omega) ?_
        exact kk _ _ _ ⟨FA, nC, nR, nL, nF, par, wt, sk, fk, hd, rea, sig, mc, mp, mm, mf, md, mv, nx, mder, mkn, 1, u9, L, hOk, hP, hD⟩ hS (lv_sub hl [2, 3, 4, 5, 6] rfl)
      · skip
        exact absurd c_814 (by decide)
    · skip
      exact absurd c_807 (by decide)
  · skip
    have hB9 : va_P D vwCl (WD cI cO a FA nC nR nL nF par wt (fun r => nI (sk r)) (fun r => nI (fk r)) hd rea sig ++ (WF FA (fun k => mc k * 40 + mp k * 4 + mm k) mf md mv nx nF ++ ((ob, .inl (cL, 1, .inr (.inl u9))) : Nat × va_E) :: WM cI cZ b nC nR nL nF par wt (fun r => nI (sk r)) (fun r => nI (fk r)) mc mp mm mf md mv mder mkn thr)) H ∧ va_D A (WD cI cO a FA nC nR nL nF par wt (fun r => nI (sk r)) (fun r => nI (fk r)) hd rea sig ++ (WF FA (fun k => mc k * 40 + mp k * 4 + mm k) mf md mv nx nF ++ ((ob, .inl (cL, 1, .inr (.inl u9))) : Nat × va_E) :: WM cI cZ b nC nR nL nF par wt (fun r => nI (sk r)) (fun r => nI (fk r)) mc mp mm mf md mv mder mkn thr)) := hB9
    obtain ⟨hP, hD⟩ := hB9
    obtain ⟨c1, p1, m1, f1, hv9, hj⟩ := hR9
    have hvv := hv9
    obtain ⟨⟨hc9, hc⟩, ⟨hp9, hp⟩, ⟨hm9, hm⟩, ⟨hf9, hf⟩⟩ := hv9
    refine lv_istore (lv' := [(5, .int 2), (4, .int (nI i)), (3, .ref ob), (2, .ref (b 0)), (1, .ref (a 0)), (0, .ref b0)]) hx hb dL_law_769 hl (by decide) rfl (fun ls hl => ?_)
    refine lv_aload_n hx hb dL_law_771 rfl (lv_at hl 3 rfl) ?_
    refine lv_aload_n hx hb dL_law_772 rfl (lv_at hl 5 rfl) ?_
    refine lv_iload hx hb dL_law_773 (lv_at hl 1 rfl) ?_
    refine lv_iconst (v := 1) hx hb dL_law_775 (by decide) ?_
    refine lv_iadd hx hb dL_law_776 ?_
    refine lv_topi (fun dv edv => ?_)
    obtain rfl : dv = nI (i + 1) := by rw [edv]; exact nI_add i 1
    refine va_sld hx hb hX hb0 hbA hS (vp_in_nI (n := (i + 1)) (by omega) (by omega)) dL_law_777 ?_
    rw [nI_clamp (by omega)]
    refine lv_aload_n hx hb dL_law_778 rfl (lv_at hl 5 rfl) ?_
    refine lv_iload hx hb dL_law_779 (lv_at hl 1 rfl) ?_
    refine lv_iconst (v := 2) hx hb dL_law_781 (by decide) ?_
    refine lv_iadd hx hb dL_law_782 ?_
    refine lv_topi (fun dv edv => ?_)
    obtain rfl : dv = nI (i + 2) := by rw [edv]; exact nI_add i 2
    refine va_sld hx hb hX hb0 hbA hS (vp_in_nI (n := (i + 2)) (by omega) (by omega)) dL_law_783 ?_
    rw [nI_clamp (by omega)]
    refine lv_aload_n hx hb dL_law_784 rfl (lv_at hl 5 rfl) ?_
    refine lv_iload hx hb dL_law_785 (lv_at hl 1 rfl) ?_
    refine lv_iconst (v := 3) hx hb dL_law_787 (by decide) ?_
    refine lv_iadd hx hb dL_law_788 ?_
    refine lv_topi (fun dv edv => ?_)
    obtain rfl : dv = nI (i + 3) := by rw [edv]; exact nI_add i 3
    refine va_sld hx hb hX hb0 hbA hS (vp_in_nI (n := (i + 3)) (by omega) (by omega)) dL_law_789 ?_
    rw [nI_clamp (by omega)]
    refine lv_aload_n hx hb dL_law_790 rfl (lv_at hl 5 rfl) ?_
    refine lv_iload hx hb dL_law_791 (lv_at hl 1 rfl) ?_
    refine lv_iconst (v := 4) hx hb dL_law_793 (by decide) ?_
    refine lv_iadd hx hb dL_law_794 ?_
    refine lv_topi (fun dv edv => ?_)
    obtain rfl : dv = nI (i + 4) := by rw [edv]; exact nI_add i 4
    refine va_sld hx hb hX hb0 hbA hS (vp_in_nI (n := (i + 4)) (by omega) (by omega)) dL_law_795 ?_
    rw [nI_clamp (by omega)]
    have hP := va_P_perm hP (lperm (WD cI cO a FA nC nR nL nF par wt (fun r => nI (sk r)) (fun r => nI (fk r)) hd rea sig) (WF FA (fun k => mc k * 40 + mp k * 4 + mm k) mf md mv nx nF) (WM cI cZ b nC nR nL nF par wt (fun r => nI (sk r)) (fun r => nI (fk r)) mc mp mm mf md mv mder mkn thr) ((ob, .inl (cL, 1, .inr (.inl u9))) : Nat × va_E))
    have hD := va_D_perm hD (lperm (WD cI cO a FA nC nR nL nF par wt (fun r => nI (sk r)) (fun r => nI (fk r)) hd rea sig) (WF FA (fun k => mc k * 40 + mp k * 4 + mm k) mf md mv nx nF) (WM cI cZ b nC nR nL nF par wt (fun r => nI (sk r)) (fun r => nI (fk r)) mc mp mm mf md mv mder mkn thr) ((ob, .inl (cL, 1, .inr (.inl u9))) : Nat × va_E))
    refine va_calli (va_runV (As := [.int (xs (i + 1)), .int (xs (i + 2)), .int (xs (i + 3)), .int (xs (i + 4))]) (rest := []) ⟨hx, hb, hml, hown, hts⟩ (c5_doubt_2 l D cI cZ cO cL dt A b nC nR nL nF par wt (fun r => nI (sk r)) (fun r => nI (fk r)) mc mp mm mf md mv mder mkn thr (WD cI cO a FA nC nR nL nF par wt (fun r => nI (sk r)) (fun r => nI (fk r)) hd rea sig ++ (WF FA (fun k => mc k * 40 + mp k * 4 + mm k) mf md mv nx nF ++ [((ob, .inl (cL, 1, .inr (.inl u9))) : Nat × va_E)])) (xs (i + 1)) (xs (i + 2)) (xs (i + 3)) (xs (i + 4)) hF hC12 hcf hmd31 (kV_ask hC12 hL8 hvv) (by rw [hc9, hp9, hm9, hf9, hMC h1 h2 h3 (by omega) hp hm]; exact hj)) (cwV 4 hts gL_law_X5_doubt rfl rfl rfl (by decide +kernel) ⟨(Nat.le_of_ble_eq_true rfl), (Nat.le_of_ble_eq_true rfl)⟩) (gP.v (hg.on hS) hP 4 rfl 0 rfl ⟨hP, hD⟩) rfl rfl hl.1 rfl (lv_room (Nat.le_of_ble_eq_true rfl)) dL_law_796 ⟨by show cells + 4 + 0 ≤ 601024; omega, by show slots + 24 + 0 ≤ 7293034; omega⟩) hS (fun q _ h => h) (fun q h => h) (fun b9 u8 t8 H locs ht8 hvm8 hw8 hB8 hz8 hk8 hS => ?_)
    rw [ht8] at hB8
    obtain ⟨hP, hD⟩ := hB8
    have hP : va_P D vwCl (WM cI cZ b nC nR nL nF par wt (fun r => nI (sk r)) (fun r => nI (fk r)) mc mp mm mf md mv mder mkn 2 ++ (WD cI cO a FA nC nR nL nF par wt (fun r => nI (sk r)) (fun r => nI (fk r)) hd rea sig ++ (WF FA (fun k => mc k * 40 + mp k * 4 + mm k) mf md mv nx nF ++ [((ob, .inl (cL, 1, .inr (.inl u9))) : Nat × va_E)]))) H := hP
    have hD : va_D A (WM cI cZ b nC nR nL nF par wt (fun r => nI (sk r)) (fun r => nI (fk r)) mc mp mm mf md mv mder mkn 2 ++ (WD cI cO a FA nC nR nL nF par wt (fun r => nI (sk r)) (fun r => nI (fk r)) hd rea sig ++ (WF FA (fun k => mc k * 40 + mp k * 4 + mm k) mf md mv nx nF ++ [((ob, .inl (cL, 1, .inr (.inl u9))) : Nat × va_E)]))) := hD
    refine lv_istore (lv' := [(6, .int b9), (5, .int 2), (4, .int (nI i)), (3, .ref ob), (2, .ref (b 0)), (1, .ref (a 0)), (0, .ref b0)]) hx hb dL_law_799 hl (by decide) rfl (fun ls hl => ?_)
    refine lv_aload_n hx hb dL_law_801 rfl (lv_at hl 4 rfl) ?_
    refine g_csi (va_runV (As := []) (rest := []) ⟨hx, hb, hml, hown, hts⟩ (c5_thrown l D cI cZ cO cL dt A b nC nR nL nF par wt (fun r => nI (sk r)) (fun r => nI (fk r)) mc mp mm mf md mv mder mkn 2 (WD cI cO a FA nC nR nL nF par wt (fun r => nI (sk r)) (fun r => nI (fk r)) hd rea sig ++ (WF FA (fun k => mc k * 40 + mp k * 4 + mm k) mf md mv nx nF ++ [((ob, .inl (cL, 1, .inr (.inl u9))) : Nat × va_E)]))) (cwV 0 hts gL_law_X5_thrown rfl rfl rfl (by decide +kernel) ⟨(Nat.le_of_ble_eq_true rfl), (Nat.le_of_ble_eq_true rfl)⟩) (gP.v (hg.on hS) hP 4 rfl 0 rfl hP) rfl rfl hl.1 rfl (lv_room (Nat.le_of_ble_eq_true rfl)) dL_law_802 ⟨by show cells + 4 + 0 + 0 ≤ 601024; omega, by show slots + 24 + 0 + 0 ≤ 7293034; omega⟩) (fun t7 ht7 => ?_)
    obtain rfl : t7 = 2 := ht7
    have hP := va_P_perm hP (lperm (WD cI cO a FA nC nR nL nF par wt (fun r => nI (sk r)) (fun r => nI (fk r)) hd rea sig) (WF FA (fun k => mc k * 40 + mp k * 4 + mm k) mf md mv nx nF) (WM cI cZ b nC nR nL nF par wt (fun r => nI (sk r)) (fun r => nI (fk r)) mc mp mm mf md mv mder mkn 2) ((ob, .inl (cL, 1, .inr (.inl u9))) : Nat × va_E)).symm
    have hD := va_D_perm hD (lperm (WD cI cO a FA nC nR nL nF par wt (fun r => nI (sk r)) (fun r => nI (fk r)) hd rea sig) (WF FA (fun k => mc k * 40 + mp k * 4 + mm k) mf md mv nx nF) (WM cI cZ b nC nR nL nF par wt (fun r => nI (sk r)) (fun r => nI (fk r)) mc mp mm mf md mv mder mkn 2) ((ob, .inl (cL, 1, .inr (.inl u9))) : Nat × va_E)).symm
    refine lv_iload hx hb dL_law_805 (lv_at hl 1 rfl) ?_
    refine lv_icmp_eq (tgt := 812) hx hb dL_law_807 (by decide) (fun c_807 => ?_) (fun c_807 => ?_)
    · skip
      refine lv_iload hx hb dL_law_812 (lv_at hl 1 rfl) ?_
      refine lv_if_ne (tgt := 829) hx hb dL_law_814 (by decide) (fun c_814 => ?_) (fun c_814 => ?_)
      · skip
        refine lv_goto (tgt := 1413) hx hb dL_law_829 (by decide) ?_
        refine W.widen (k := cells + 4) (n := slots + 24) (by omega) (by omega) ?_
        exact kk _ _ _ ⟨FA, nC, nR, nL, nF, par, wt, sk, fk, hd, rea, sig, mc, mp, mm, mf, md, mv, nx, mder, mkn, 2, u9, L, hOk, hP, hD⟩ hS (lv_sub hl [2, 3, 4, 5, 6] rfl)
      · skip
        exact absurd c_814 (by decide)
    · skip
      exact absurd c_807 (by decide)
set_option maxHeartbeats 4000000 in
set_option maxRecDepth 100000 in
/-- the case of sum -/
theorem lw_sum (l : Launch) (hlt : l.stackTraces = false) {D : va_G} {cI cZ cO cL : ClassId} {dt : Nat} {A : Nat → Prop} {a b : Nat → Nat} {ob b0 i Ls cells slots : Nat} {xs : Nat → Int32} {p9 : Program} {e9 : Env} {s : State} {m9 : MethodId} {args : Array Value} {below : List Frame} {meth : Method} {c9 : Code} {H : Heap} {locs : List Loc} {ls : Array Slot} {Q : State → Prop}
    (hx : p9.tables.exec = Jvm.exec) (hb : c9.code = cL_law) (hml : c9.maxLocals = 7) (hown : s.vm.findClass RL = some m9.cls) (hts : ∀ w ∈ wsL_law, w.before args s = true) (hg : gG D cI cZ cO cL dt A s s.heap) (hX : va_X b0 Ls xs s s.heap) (hb0 : b0 < s.heap.size) (hbA : ¬ A b0) (hi : i + 6 ≤ Ls) (hLs : Ls ≤ 3072)
    (hI : lInv D cI cZ cO cL A a b ob H) (hS : va_S A s.heap H locs) (hl : lv_has ls 7 [(4, .int (nI i)), (3, .ref ob), (2, .ref (b 0)), (1, .ref (a 0)), (0, .ref b0)]) (hcc : cells + 4 ≤ 601024) (hss : slots + 24 ≤ 7293034)
    (kk : ∀ (H : Heap) (locs : List Loc) (ls : Array Slot), lInv D cI cZ cO cL A a b ob H → va_S A s.heap H locs → lv_has ls 7 [(4, .int (nI i)), (3, .ref ob), (2, .ref (b 0)), (1, .ref (a 0)), (0, .ref b0)] → W p9 l e9 room_1 s m9 args below meth c9 H locs (cells + 4) (slots + 24) Q (F0 m9 1413 ls [])) :
    W p9 l e9 room_1 s m9 args below meth c9 H locs cells slots Q (F0 m9 832 ls []) := by
  obtain ⟨FA, nC, nR, nL, nF, par, wt, sk, fk, hd, rea, sig, mc, mp, mm, mf, md, mv, nx, mder, mkn, thr, ov, L, hOk, hP, hD⟩ := hI
  obtain ⟨⟨hC12, hR5, hL8, hF⟩, ⟨hT, hwt⟩, ⟨hsk12, hfk12, hskC⟩, ⟨hCh, hH, hN, hfL⟩, h1, h2, h3, h4, hmd, hmv, h7⟩ := id hOk
  have hK := hg.1
  have hck : ∀ k, mc k * 40 + mp k * 4 + mm k < 480 := fun k => by have := h1 k; have := h2 k; have := h3 k; omega
  have hcf : ∀ k, mf k < 2 ^ 31 := fun k => by have := h4 k; omega
  have hmd31 : ∀ k, md k < 2 ^ 31 := fun k => by have := hmd k; omega
  have hP : va_P D vwCl (WD cI cO a FA nC nR nL nF par wt (fun r => nI (sk r)) (fun r => nI (fk r)) hd rea sig ++ (WF FA (fun k => mc k * 40 + mp k * 4 + mm k) mf md mv nx nF ++ ((ob, .inl (cL, 1, .inr (.inl ov))) : Nat × va_E) :: WM cI cZ b nC nR nL nF par wt (fun r => nI (sk r)) (fun r => nI (fk r)) mc mp mm mf md mv mder mkn thr)) H := hP
  have hD : va_D A (WD cI cO a FA nC nR nL nF par wt (fun r => nI (sk r)) (fun r => nI (fk r)) hd rea sig ++ (WF FA (fun k => mc k * 40 + mp k * 4 + mm k) mf md mv nx nF ++ ((ob, .inl (cL, 1, .inr (.inl ov))) : Nat × va_E) :: WM cI cZ b nC nR nL nF par wt (fun r => nI (sk r)) (fun r => nI (fk r)) mc mp mm mf md mv mder mkn thr)) := hD
  refine lv_aload_n hx hb dL_law_832 rfl (lv_at hl 3 rfl) ?_
  refine lv_aload_n hx hb dL_law_833 rfl (lv_at hl 4 rfl) ?_
  refine lv_iload hx hb dL_law_834 (lv_at hl 0 rfl) ?_
  refine lv_iconst (v := 1) hx hb dL_law_836 (by decide) ?_
  refine lv_iadd hx hb dL_law_837 ?_
  refine lv_topi (fun dv edv => ?_)
  obtain rfl : dv = nI (i + 1) := by rw [edv]; exact nI_add i 1
  refine va_sld hx hb hX hb0 hbA hS (vp_in_nI (n := (i + 1)) (by omega) (by omega)) dL_law_838 ?_
  rw [nI_clamp (by omega)]
  refine lv_aload_n hx hb dL_law_839 rfl (lv_at hl 4 rfl) ?_
  refine lv_iload hx hb dL_law_840 (lv_at hl 0 rfl) ?_
  refine lv_iconst (v := 2) hx hb dL_law_842 (by decide) ?_
  refine lv_iadd hx hb dL_law_843 ?_
  refine lv_topi (fun dv edv => ?_)
  obtain rfl : dv = nI (i + 2) := by rw [edv]; exact nI_add i 2
  refine va_sld hx hb hX hb0 hbA hS (vp_in_nI (n := (i + 2)) (by omega) (by omega)) dL_law_844 ?_
  rw [nI_clamp (by omega)]
  refine lv_aload_n hx hb dL_law_845 rfl (lv_at hl 4 rfl) ?_
  refine lv_iload hx hb dL_law_846 (lv_at hl 0 rfl) ?_
  refine lv_iconst (v := 3) hx hb dL_law_848 (by decide) ?_
  refine lv_iadd hx hb dL_law_849 ?_
  refine lv_topi (fun dv edv => ?_)
  obtain rfl : dv = nI (i + 3) := by rw [edv]; exact nI_add i 3
  refine va_sld hx hb hX hb0 hbA hS (vp_in_nI (n := (i + 3)) (by omega) (by omega)) dL_law_850 ?_
  rw [nI_clamp (by omega)]
  refine lv_aload_n hx hb dL_law_851 rfl (lv_at hl 4 rfl) ?_
  refine lv_iload hx hb dL_law_852 (lv_at hl 0 rfl) ?_
  refine lv_iconst (v := 4) hx hb dL_law_854 (by decide) ?_
  refine lv_iadd hx hb dL_law_855 ?_
  refine lv_topi (fun dv edv => ?_)
  obtain rfl : dv = nI (i + 4) := by rw [edv]; exact nI_add i 4
  refine va_sld hx hb hX hb0 hbA hS (vp_in_nI (n := (i + 4)) (by omega) (by omega)) dL_law_856 ?_
  rw [nI_clamp (by omega)]
  refine lv_aload_n hx hb dL_law_857 rfl (lv_at hl 1 rfl) ?_
  refine va_calli (vx_runSW (hh := [(0, 14, 17, 19)]) (As := [.ref (a 0), .int (xs (i + 1)), .int (xs (i + 2)), .int (xs (i + 3)), .int (xs (i + 4)), .ref ob]) (rest := []) ⟨hx, hb, hml, hown, hts⟩ (kL_sum l D cI cZ cO cL dt A a FA nC nR nL nF par wt (fun r => nI (sk r)) (fun r => nI (fk r)) hd rea sig (fun k => mc k * 40 + mp k * 4 + mm k) mf md mv nx (WM cI cZ b nC nR nL nF par wt (fun r => nI (sk r)) (fun r => nI (fk r)) mc mp mm mf md mv mder mkn thr) ob ov (xs (i + 1)) (xs (i + 2)) (xs (i + 3)) (xs (i + 4)) hlt hF hC12 hck hcf hmd hmv hwt hCh hL8) (vx_cwSW 6 hts gL_law_L_sum rfl rfl rfl (by decide +kernel) ⟨(Nat.le_of_ble_eq_true rfl), (Nat.le_of_ble_eq_true rfl)⟩) (gP.s (hg.on hS) ⟨hP, hD⟩) rfl rfl hl.1 rfl (lv_room (Nat.le_of_ble_eq_true rfl)) dL_law_858 ⟨by show cells + 3 ≤ 601024; omega, by show slots + 18 ≤ 7293034; omega⟩) hS (fun q _ h => h) (fun q h => h) (fun k9 u9 t9 H locs ht9 hvm9 hw9 hB9 hz9 hk9 hS => ?_)
  rw [ht9] at hB9
  rcases hw9 with ⟨rfl, r9, hu9, hpost⟩ | ⟨rfl, hR9⟩
  · skip
    have hB9 : va_P D vwCl (WD cI cO a FA nC nR nL nF par wt (fun r => nI (sk r)) (fun r => nI (fk r)) hd rea sig ++ (WF FA (fun k => mc k * 40 + mp k * 4 + mm k) mf md mv nx nF ++ ((ob, .inl (cL, 1, .inr (.inl u9))) : Nat × va_E) :: WM cI cZ b nC nR nL nF par wt (fun r => nI (sk r)) (fun r => nI (fk r)) mc mp mm mf md mv mder mkn thr)) H ∧ va_D A (WD cI cO a FA nC nR nL nF par wt (fun r => nI (sk r)) (fun r => nI (fk r)) hd rea sig ++ (WF FA (fun k => mc k * 40 + mp k * 4 + mm k) mf md mv nx nF ++ ((ob, .inl (cL, 1, .inr (.inl u9))) : Nat × va_E) :: WM cI cZ b nC nR nL nF par wt (fun r => nI (sk r)) (fun r => nI (fk r)) mc mp mm mf md mv mder mkn thr)) := hB9
    obtain ⟨hP, hD⟩ := hB9
    obtain ⟨c1, p1, m1, f1, hv9, hr9⟩ := hpost
    have hvv := hv9
    obtain ⟨⟨hc9, hc⟩, ⟨hp9, hp⟩, ⟨hm9, hm⟩, ⟨hf9, hf⟩⟩ := hv9
    refine lv_istore (lv' := [(5, .int 0), (4, .int (nI i)), (3, .ref ob), (2, .ref (b 0)), (1, .ref (a 0)), (0, .ref b0)]) hx hb dL_law_861 hl (by decide) rfl (fun ls hl => ?_)
    refine lv_aload_n hx hb dL_law_863 rfl (lv_at hl 3 rfl) ?_
    refine lv_aload_n hx hb dL_law_864 rfl (lv_at hl 5 rfl) ?_
    refine lv_iload hx hb dL_law_865 (lv_at hl 1 rfl) ?_
    refine lv_iconst (v := 1) hx hb dL_law_867 (by decide) ?_
    refine lv_iadd hx hb dL_law_868 ?_
    refine lv_topi (fun dv edv => ?_)
    obtain rfl : dv = nI (i + 1) := by rw [edv]; exact nI_add i 1
    refine va_sld hx hb hX hb0 hbA hS (vp_in_nI (n := (i + 1)) (by omega) (by omega)) dL_law_869 ?_
    rw [nI_clamp (by omega)]
    refine lv_aload_n hx hb dL_law_870 rfl (lv_at hl 5 rfl) ?_
    refine lv_iload hx hb dL_law_871 (lv_at hl 1 rfl) ?_
    refine lv_iconst (v := 2) hx hb dL_law_873 (by decide) ?_
    refine lv_iadd hx hb dL_law_874 ?_
    refine lv_topi (fun dv edv => ?_)
    obtain rfl : dv = nI (i + 2) := by rw [edv]; exact nI_add i 2
    refine va_sld hx hb hX hb0 hbA hS (vp_in_nI (n := (i + 2)) (by omega) (by omega)) dL_law_875 ?_
    rw [nI_clamp (by omega)]
    refine lv_aload_n hx hb dL_law_876 rfl (lv_at hl 5 rfl) ?_
    refine lv_iload hx hb dL_law_877 (lv_at hl 1 rfl) ?_
    refine lv_iconst (v := 3) hx hb dL_law_879 (by decide) ?_
    refine lv_iadd hx hb dL_law_880 ?_
    refine lv_topi (fun dv edv => ?_)
    obtain rfl : dv = nI (i + 3) := by rw [edv]; exact nI_add i 3
    refine va_sld hx hb hX hb0 hbA hS (vp_in_nI (n := (i + 3)) (by omega) (by omega)) dL_law_881 ?_
    rw [nI_clamp (by omega)]
    refine lv_aload_n hx hb dL_law_882 rfl (lv_at hl 5 rfl) ?_
    refine lv_iload hx hb dL_law_883 (lv_at hl 1 rfl) ?_
    refine lv_iconst (v := 4) hx hb dL_law_885 (by decide) ?_
    refine lv_iadd hx hb dL_law_886 ?_
    refine lv_topi (fun dv edv => ?_)
    obtain rfl : dv = nI (i + 4) := by rw [edv]; exact nI_add i 4
    refine va_sld hx hb hX hb0 hbA hS (vp_in_nI (n := (i + 4)) (by omega) (by omega)) dL_law_887 ?_
    rw [nI_clamp (by omega)]
    have hP := va_P_perm hP (lperm (WD cI cO a FA nC nR nL nF par wt (fun r => nI (sk r)) (fun r => nI (fk r)) hd rea sig) (WF FA (fun k => mc k * 40 + mp k * 4 + mm k) mf md mv nx nF) (WM cI cZ b nC nR nL nF par wt (fun r => nI (sk r)) (fun r => nI (fk r)) mc mp mm mf md mv mder mkn thr) ((ob, .inl (cL, 1, .inr (.inl u9))) : Nat × va_E))
    have hD := va_D_perm hD (lperm (WD cI cO a FA nC nR nL nF par wt (fun r => nI (sk r)) (fun r => nI (fk r)) hd rea sig) (WF FA (fun k => mc k * 40 + mp k * 4 + mm k) mf md mv nx nF) (WM cI cZ b nC nR nL nF par wt (fun r => nI (sk r)) (fun r => nI (fk r)) mc mp mm mf md mv mder mkn thr) ((ob, .inl (cL, 1, .inr (.inl u9))) : Nat × va_E))
    refine va_calli (va_runV (As := [.int (xs (i + 1)), .int (xs (i + 2)), .int (xs (i + 3)), .int (xs (i + 4))]) (rest := []) ⟨hx, hb, hml, hown, hts⟩ (c5_sum_0 l D cI cZ cO cL dt A b nC nR nL nF par wt (fun r => nI (sk r)) (fun r => nI (fk r)) mc mp mm mf md mv mder mkn thr (WD cI cO a FA nC nR nL nF par wt (fun r => nI (sk r)) (fun r => nI (fk r)) hd rea sig ++ (WF FA (fun k => mc k * 40 + mp k * 4 + mm k) mf md mv nx nF ++ [((ob, .inl (cL, 1, .inr (.inl u9))) : Nat × va_E)])) (xs (i + 1)) (xs (i + 2)) (xs (i + 3)) (xs (i + 4)) hF hC12 hcf hmd31 (kV_ask hC12 hL8 hvv)) (cwV 4 hts gL_law_X5_sum rfl rfl rfl (by decide +kernel) ⟨(Nat.le_of_ble_eq_true rfl), (Nat.le_of_ble_eq_true rfl)⟩) (gP.v (hg.on hS) hP 4 rfl 0 rfl ⟨hP, hD⟩) rfl rfl hl.1 rfl (lv_room (Nat.le_of_ble_eq_true rfl)) dL_law_888 ⟨by show cells + 3 + 0 ≤ 601024; omega, by show slots + 18 + 0 ≤ 7293034; omega⟩) hS (fun q _ h => h) (fun q h => h) (fun b9 u8 t8 H locs ht8 hvm8 hw8 hB8 hz8 hk8 hS => ?_)
    rw [ht8] at hB8
    obtain ⟨hP, hD⟩ := hB8
    have hP : va_P D vwCl (WM cI cZ b nC nR nL nF par wt (fun r => nI (sk r)) (fun r => nI (fk r)) mc mp mm mf md mv mder mkn 0 ++ (WD cI cO a FA nC nR nL nF par wt (fun r => nI (sk r)) (fun r => nI (fk r)) hd rea sig ++ (WF FA (fun k => mc k * 40 + mp k * 4 + mm k) mf md mv nx nF ++ [((ob, .inl (cL, 1, .inr (.inl u9))) : Nat × va_E)]))) H := hP
    have hD : va_D A (WM cI cZ b nC nR nL nF par wt (fun r => nI (sk r)) (fun r => nI (fk r)) mc mp mm mf md mv mder mkn 0 ++ (WD cI cO a FA nC nR nL nF par wt (fun r => nI (sk r)) (fun r => nI (fk r)) hd rea sig ++ (WF FA (fun k => mc k * 40 + mp k * 4 + mm k) mf md mv nx nF ++ [((ob, .inl (cL, 1, .inr (.inl u9))) : Nat × va_E)]))) := hD
    refine lv_istore (lv' := [(6, .int b9), (5, .int 0), (4, .int (nI i)), (3, .ref ob), (2, .ref (b 0)), (1, .ref (a 0)), (0, .ref b0)]) hx hb dL_law_891 hl (by decide) rfl (fun ls hl => ?_)
    refine lv_aload_n hx hb dL_law_893 rfl (lv_at hl 4 rfl) ?_
    refine g_csi (va_runV (As := []) (rest := []) ⟨hx, hb, hml, hown, hts⟩ (c5_thrown l D cI cZ cO cL dt A b nC nR nL nF par wt (fun r => nI (sk r)) (fun r => nI (fk r)) mc mp mm mf md mv mder mkn 0 (WD cI cO a FA nC nR nL nF par wt (fun r => nI (sk r)) (fun r => nI (fk r)) hd rea sig ++ (WF FA (fun k => mc k * 40 + mp k * 4 + mm k) mf md mv nx nF ++ [((ob, .inl (cL, 1, .inr (.inl u9))) : Nat × va_E)]))) (cwV 0 hts gL_law_X5_thrown rfl rfl rfl (by decide +kernel) ⟨(Nat.le_of_ble_eq_true rfl), (Nat.le_of_ble_eq_true rfl)⟩) (gP.v (hg.on hS) hP 4 rfl 0 rfl hP) rfl rfl hl.1 rfl (lv_room (Nat.le_of_ble_eq_true rfl)) dL_law_894 ⟨by show cells + 3 + 0 + 0 ≤ 601024; omega, by show slots + 18 + 0 + 0 ≤ 7293034; omega⟩) (fun t7 ht7 => ?_)
    obtain rfl : t7 = 0 := ht7
    have hP := va_P_perm hP (lperm (WD cI cO a FA nC nR nL nF par wt (fun r => nI (sk r)) (fun r => nI (fk r)) hd rea sig) (WF FA (fun k => mc k * 40 + mp k * 4 + mm k) mf md mv nx nF) (WM cI cZ b nC nR nL nF par wt (fun r => nI (sk r)) (fun r => nI (fk r)) mc mp mm mf md mv mder mkn 0) ((ob, .inl (cL, 1, .inr (.inl u9))) : Nat × va_E)).symm
    have hD := va_D_perm hD (lperm (WD cI cO a FA nC nR nL nF par wt (fun r => nI (sk r)) (fun r => nI (fk r)) hd rea sig) (WF FA (fun k => mc k * 40 + mp k * 4 + mm k) mf md mv nx nF) (WM cI cZ b nC nR nL nF par wt (fun r => nI (sk r)) (fun r => nI (fk r)) mc mp mm mf md mv mder mkn 0) ((ob, .inl (cL, 1, .inr (.inl u9))) : Nat × va_E)).symm
    have hag9 : r9 = b9 := by rw [hr9, hw8, hc9, hp9, hm9, hf9]; exact sumN_congr (fun k hk => (hMC h1 h2 h3 (by omega) hp hm).symm)
    have hag := congrArg Int32.toInt64 hag9
    refine lv_iload hx hb dL_law_897 (lv_at hl 1 rfl) ?_
    refine lv_icmp_eq (tgt := 904) hx hb dL_law_899 (by decide) (fun c_899 => ?_) (fun c_899 => ?_)
    · skip
      refine lv_iload hx hb dL_law_904 (lv_at hl 1 rfl) ?_
      refine lv_if_ne (tgt := 921) hx hb dL_law_906 (by decide) (fun c_906 => ?_) (fun c_906 => ?_)
      · skip
        exact absurd c_906 (by decide)
      · skip
        refine lv_aload_n hx hb dL_law_909 rfl (lv_at hl 3 rfl) ?_
        refine lv_iconst (v := 0) hx hb dL_law_910 (by decide) ?_
        refine va_lald hx hb hK hP (11 + nF) 3 (WDR_at) rfl e_in0 dL_law_911 ?_
        rw [e_z0, hu9, hag]
        refine lv_iload hx hb dL_law_912 (lv_at hl 0 rfl) ?_
        refine lv_i2l (v := (b9).toInt64) hx hb dL_law_914 rfl ?_
        refine W.lcmp hx hb dL_law_915 ?_
        rw [lg_self]
        refine lv_if_eq (tgt := 921) hx hb dL_law_916 (by decide) (fun c_916 => ?_) (fun c_916 => ?_)
        · skip
          refine lv_goto (tgt := 1413) hx hb dL_law_921 (by decide) ?_
          refine W.widen (k := cells + 4) (n := slots + 24) (by omega) (by omega) ?_
          exact kk _ _ _ ⟨FA, nC, nR, nL, nF, par, wt, sk, fk, hd, rea, sig, mc, mp, mm, mf, md, mv, nx, mder, mkn, 0, u9, L, hOk, hP, hD⟩ hS (lv_sub hl [2, 3, 4, 5, 6] rfl)
        · skip
          exact absurd c_916 (by decide)
    · skip
      exact absurd c_899 (by decide)
  · skip
    have hB9 : va_P D vwCl (WD cI cO a FA nC nR nL nF par wt (fun r => nI (sk r)) (fun r => nI (fk r)) hd rea sig ++ (WF FA (fun k => mc k * 40 + mp k * 4 + mm k) mf md mv nx nF ++ ((ob, .inl (cL, 1, .inr (.inl u9))) : Nat × va_E) :: WM cI cZ b nC nR nL nF par wt (fun r => nI (sk r)) (fun r => nI (fk r)) mc mp mm mf md mv mder mkn thr)) H ∧ va_D A (WD cI cO a FA nC nR nL nF par wt (fun r => nI (sk r)) (fun r => nI (fk r)) hd rea sig ++ (WF FA (fun k => mc k * 40 + mp k * 4 + mm k) mf md mv nx nF ++ ((ob, .inl (cL, 1, .inr (.inl u9))) : Nat × va_E) :: WM cI cZ b nC nR nL nF par wt (fun r => nI (sk r)) (fun r => nI (fk r)) mc mp mm mf md mv mder mkn thr)) := hB9
    obtain ⟨hP, hD⟩ := hB9
    refine lv_istore (lv' := [(5, .int 1), (4, .int (nI i)), (3, .ref ob), (2, .ref (b 0)), (1, .ref (a 0)), (0, .ref b0)]) hx hb dL_law_861 hl (by decide) rfl (fun ls hl => ?_)
    refine lv_aload_n hx hb dL_law_863 rfl (lv_at hl 3 rfl) ?_
    refine lv_aload_n hx hb dL_law_864 rfl (lv_at hl 5 rfl) ?_
    refine lv_iload hx hb dL_law_865 (lv_at hl 1 rfl) ?_
    refine lv_iconst (v := 1) hx hb dL_law_867 (by decide) ?_
    refine lv_iadd hx hb dL_law_868 ?_
    refine lv_topi (fun dv edv => ?_)
    obtain rfl : dv = nI (i + 1) := by rw [edv]; exact nI_add i 1
    refine va_sld hx hb hX hb0 hbA hS (vp_in_nI (n := (i + 1)) (by omega) (by omega)) dL_law_869 ?_
    rw [nI_clamp (by omega)]
    refine lv_aload_n hx hb dL_law_870 rfl (lv_at hl 5 rfl) ?_
    refine lv_iload hx hb dL_law_871 (lv_at hl 1 rfl) ?_
    refine lv_iconst (v := 2) hx hb dL_law_873 (by decide) ?_
    refine lv_iadd hx hb dL_law_874 ?_
    refine lv_topi (fun dv edv => ?_)
    obtain rfl : dv = nI (i + 2) := by rw [edv]; exact nI_add i 2
    refine va_sld hx hb hX hb0 hbA hS (vp_in_nI (n := (i + 2)) (by omega) (by omega)) dL_law_875 ?_
    rw [nI_clamp (by omega)]
    refine lv_aload_n hx hb dL_law_876 rfl (lv_at hl 5 rfl) ?_
    refine lv_iload hx hb dL_law_877 (lv_at hl 1 rfl) ?_
    refine lv_iconst (v := 3) hx hb dL_law_879 (by decide) ?_
    refine lv_iadd hx hb dL_law_880 ?_
    refine lv_topi (fun dv edv => ?_)
    obtain rfl : dv = nI (i + 3) := by rw [edv]; exact nI_add i 3
    refine va_sld hx hb hX hb0 hbA hS (vp_in_nI (n := (i + 3)) (by omega) (by omega)) dL_law_881 ?_
    rw [nI_clamp (by omega)]
    refine lv_aload_n hx hb dL_law_882 rfl (lv_at hl 5 rfl) ?_
    refine lv_iload hx hb dL_law_883 (lv_at hl 1 rfl) ?_
    refine lv_iconst (v := 4) hx hb dL_law_885 (by decide) ?_
    refine lv_iadd hx hb dL_law_886 ?_
    refine lv_topi (fun dv edv => ?_)
    obtain rfl : dv = nI (i + 4) := by rw [edv]; exact nI_add i 4
    refine va_sld hx hb hX hb0 hbA hS (vp_in_nI (n := (i + 4)) (by omega) (by omega)) dL_law_887 ?_
    rw [nI_clamp (by omega)]
    have hP := va_P_perm hP (lperm (WD cI cO a FA nC nR nL nF par wt (fun r => nI (sk r)) (fun r => nI (fk r)) hd rea sig) (WF FA (fun k => mc k * 40 + mp k * 4 + mm k) mf md mv nx nF) (WM cI cZ b nC nR nL nF par wt (fun r => nI (sk r)) (fun r => nI (fk r)) mc mp mm mf md mv mder mkn thr) ((ob, .inl (cL, 1, .inr (.inl u9))) : Nat × va_E))
    have hD := va_D_perm hD (lperm (WD cI cO a FA nC nR nL nF par wt (fun r => nI (sk r)) (fun r => nI (fk r)) hd rea sig) (WF FA (fun k => mc k * 40 + mp k * 4 + mm k) mf md mv nx nF) (WM cI cZ b nC nR nL nF par wt (fun r => nI (sk r)) (fun r => nI (fk r)) mc mp mm mf md mv mder mkn thr) ((ob, .inl (cL, 1, .inr (.inl u9))) : Nat × va_E))
    refine va_calli (va_runV (As := [.int (xs (i + 1)), .int (xs (i + 2)), .int (xs (i + 3)), .int (xs (i + 4))]) (rest := []) ⟨hx, hb, hml, hown, hts⟩ (c5_sum_1 l D cI cZ cO cL dt A b nC nR nL nF par wt (fun r => nI (sk r)) (fun r => nI (fk r)) mc mp mm mf md mv mder mkn thr (WD cI cO a FA nC nR nL nF par wt (fun r => nI (sk r)) (fun r => nI (fk r)) hd rea sig ++ (WF FA (fun k => mc k * 40 + mp k * 4 + mm k) mf md mv nx nF ++ [((ob, .inl (cL, 1, .inr (.inl u9))) : Nat × va_E)])) (xs (i + 1)) (xs (i + 2)) (xs (i + 3)) (xs (i + 4)) (kNo_ask hC12 hL8 hR9)) (cwV 4 hts gL_law_X5_sum rfl rfl rfl (by decide +kernel) ⟨(Nat.le_of_ble_eq_true rfl), (Nat.le_of_ble_eq_true rfl)⟩) (gP.v (hg.on hS) hP 4 rfl 0 rfl ⟨hP, hD⟩) rfl rfl hl.1 rfl (lv_room (Nat.le_of_ble_eq_true rfl)) dL_law_888 ⟨by show cells + 3 + 0 ≤ 601024; omega, by show slots + 18 + 0 ≤ 7293034; omega⟩) hS (fun q _ h => h) (fun q h => h) (fun b9 u8 t8 H locs ht8 hvm8 hw8 hB8 hz8 hk8 hS => ?_)
    rw [ht8] at hB8
    obtain ⟨hP, hD⟩ := hB8
    have hP : va_P D vwCl (WM cI cZ b nC nR nL nF par wt (fun r => nI (sk r)) (fun r => nI (fk r)) mc mp mm mf md mv mder mkn 1 ++ (WD cI cO a FA nC nR nL nF par wt (fun r => nI (sk r)) (fun r => nI (fk r)) hd rea sig ++ (WF FA (fun k => mc k * 40 + mp k * 4 + mm k) mf md mv nx nF ++ [((ob, .inl (cL, 1, .inr (.inl u9))) : Nat × va_E)]))) H := hP
    have hD : va_D A (WM cI cZ b nC nR nL nF par wt (fun r => nI (sk r)) (fun r => nI (fk r)) mc mp mm mf md mv mder mkn 1 ++ (WD cI cO a FA nC nR nL nF par wt (fun r => nI (sk r)) (fun r => nI (fk r)) hd rea sig ++ (WF FA (fun k => mc k * 40 + mp k * 4 + mm k) mf md mv nx nF ++ [((ob, .inl (cL, 1, .inr (.inl u9))) : Nat × va_E)]))) := hD
    refine lv_istore (lv' := [(6, .int b9), (5, .int 1), (4, .int (nI i)), (3, .ref ob), (2, .ref (b 0)), (1, .ref (a 0)), (0, .ref b0)]) hx hb dL_law_891 hl (by decide) rfl (fun ls hl => ?_)
    refine lv_aload_n hx hb dL_law_893 rfl (lv_at hl 4 rfl) ?_
    refine g_csi (va_runV (As := []) (rest := []) ⟨hx, hb, hml, hown, hts⟩ (c5_thrown l D cI cZ cO cL dt A b nC nR nL nF par wt (fun r => nI (sk r)) (fun r => nI (fk r)) mc mp mm mf md mv mder mkn 1 (WD cI cO a FA nC nR nL nF par wt (fun r => nI (sk r)) (fun r => nI (fk r)) hd rea sig ++ (WF FA (fun k => mc k * 40 + mp k * 4 + mm k) mf md mv nx nF ++ [((ob, .inl (cL, 1, .inr (.inl u9))) : Nat × va_E)]))) (cwV 0 hts gL_law_X5_thrown rfl rfl rfl (by decide +kernel) ⟨(Nat.le_of_ble_eq_true rfl), (Nat.le_of_ble_eq_true rfl)⟩) (gP.v (hg.on hS) hP 4 rfl 0 rfl hP) rfl rfl hl.1 rfl (lv_room (Nat.le_of_ble_eq_true rfl)) dL_law_894 ⟨by show cells + 3 + 0 + 0 ≤ 601024; omega, by show slots + 18 + 0 + 0 ≤ 7293034; omega⟩) (fun t7 ht7 => ?_)
    obtain rfl : t7 = 1 := ht7
    have hP := va_P_perm hP (lperm (WD cI cO a FA nC nR nL nF par wt (fun r => nI (sk r)) (fun r => nI (fk r)) hd rea sig) (WF FA (fun k => mc k * 40 + mp k * 4 + mm k) mf md mv nx nF) (WM cI cZ b nC nR nL nF par wt (fun r => nI (sk r)) (fun r => nI (fk r)) mc mp mm mf md mv mder mkn 1) ((ob, .inl (cL, 1, .inr (.inl u9))) : Nat × va_E)).symm
    have hD := va_D_perm hD (lperm (WD cI cO a FA nC nR nL nF par wt (fun r => nI (sk r)) (fun r => nI (fk r)) hd rea sig) (WF FA (fun k => mc k * 40 + mp k * 4 + mm k) mf md mv nx nF) (WM cI cZ b nC nR nL nF par wt (fun r => nI (sk r)) (fun r => nI (fk r)) mc mp mm mf md mv mder mkn 1) ((ob, .inl (cL, 1, .inr (.inl u9))) : Nat × va_E)).symm
    refine lv_iload hx hb dL_law_897 (lv_at hl 1 rfl) ?_
    refine lv_icmp_eq (tgt := 904) hx hb dL_law_899 (by decide) (fun c_899 => ?_) (fun c_899 => ?_)
    · skip
      refine lv_iload hx hb dL_law_904 (lv_at hl 1 rfl) ?_
      refine lv_if_ne (tgt := 921) hx hb dL_law_906 (by decide) (fun c_906 => ?_) (fun c_906 => ?_)
      · skip
        refine lv_goto (tgt := 1413) hx hb dL_law_921 (by decide) ?_
        refine W.widen (k := cells + 4) (n := slots + 24) (by omega) (by omega) ?_
        exact kk _ _ _ ⟨FA, nC, nR, nL, nF, par, wt, sk, fk, hd, rea, sig, mc, mp, mm, mf, md, mv, nx, mder, mkn, 1, u9, L, hOk, hP, hD⟩ hS (lv_sub hl [2, 3, 4, 5, 6] rfl)
      · skip
        exact absurd c_906 (by decide)
    · skip
      exact absurd c_899 (by decide)
set_option maxHeartbeats 4000000 in
set_option maxRecDepth 100000 in
/-- the case of isSumOff -/
theorem lw_isSumOff (l : Launch) (hlt : l.stackTraces = false) {D : va_G} {cI cZ cO cL : ClassId} {dt : Nat} {A : Nat → Prop} {a b : Nat → Nat} {ob b0 i Ls cells slots : Nat} {xs : Nat → Int32} {p9 : Program} {e9 : Env} {s : State} {m9 : MethodId} {args : Array Value} {below : List Frame} {meth : Method} {c9 : Code} {H : Heap} {locs : List Loc} {ls : Array Slot} {Q : State → Prop}
    (hx : p9.tables.exec = Jvm.exec) (hb : c9.code = cL_law) (hml : c9.maxLocals = 7) (hown : s.vm.findClass RL = some m9.cls) (hts : ∀ w ∈ wsL_law, w.before args s = true) (hg : gG D cI cZ cO cL dt A s s.heap) (hX : va_X b0 Ls xs s s.heap) (hb0 : b0 < s.heap.size) (hbA : ¬ A b0) (hi : i + 6 ≤ Ls) (hLs : Ls ≤ 3072)
    (hI : lInv D cI cZ cO cL A a b ob H) (hS : va_S A s.heap H locs) (hl : lv_has ls 7 [(4, .int (nI i)), (3, .ref ob), (2, .ref (b 0)), (1, .ref (a 0)), (0, .ref b0)]) (hcc : cells + 4 ≤ 601024) (hss : slots + 24 ≤ 7293034)
    (kk : ∀ (H : Heap) (locs : List Loc) (ls : Array Slot), lInv D cI cZ cO cL A a b ob H → va_S A s.heap H locs → lv_has ls 7 [(4, .int (nI i)), (3, .ref ob), (2, .ref (b 0)), (1, .ref (a 0)), (0, .ref b0)] → W p9 l e9 room_1 s m9 args below meth c9 H locs (cells + 4) (slots + 24) Q (F0 m9 1413 ls [])) :
    W p9 l e9 room_1 s m9 args below meth c9 H locs cells slots Q (F0 m9 1016 ls []) := by
  obtain ⟨FA, nC, nR, nL, nF, par, wt, sk, fk, hd, rea, sig, mc, mp, mm, mf, md, mv, nx, mder, mkn, thr, ov, L, hOk, hP, hD⟩ := hI
  obtain ⟨⟨hC12, hR5, hL8, hF⟩, ⟨hT, hwt⟩, ⟨hsk12, hfk12, hskC⟩, ⟨hCh, hH, hN, hfL⟩, h1, h2, h3, h4, hmd, hmv, h7⟩ := id hOk
  have hK := hg.1
  have hck : ∀ k, mc k * 40 + mp k * 4 + mm k < 480 := fun k => by have := h1 k; have := h2 k; have := h3 k; omega
  have hcf : ∀ k, mf k < 2 ^ 31 := fun k => by have := h4 k; omega
  have hmd31 : ∀ k, md k < 2 ^ 31 := fun k => by have := hmd k; omega
  have hP : va_P D vwCl (WD cI cO a FA nC nR nL nF par wt (fun r => nI (sk r)) (fun r => nI (fk r)) hd rea sig ++ (WF FA (fun k => mc k * 40 + mp k * 4 + mm k) mf md mv nx nF ++ ((ob, .inl (cL, 1, .inr (.inl ov))) : Nat × va_E) :: WM cI cZ b nC nR nL nF par wt (fun r => nI (sk r)) (fun r => nI (fk r)) mc mp mm mf md mv mder mkn thr)) H := hP
  have hD : va_D A (WD cI cO a FA nC nR nL nF par wt (fun r => nI (sk r)) (fun r => nI (fk r)) hd rea sig ++ (WF FA (fun k => mc k * 40 + mp k * 4 + mm k) mf md mv nx nF ++ ((ob, .inl (cL, 1, .inr (.inl ov))) : Nat × va_E) :: WM cI cZ b nC nR nL nF par wt (fun r => nI (sk r)) (fun r => nI (fk r)) mc mp mm mf md mv mder mkn thr)) := hD
  refine lv_aload_n hx hb dL_law_1016 rfl (lv_at hl 3 rfl) ?_
  refine lv_aload_n hx hb dL_law_1017 rfl (lv_at hl 4 rfl) ?_
  refine lv_iload hx hb dL_law_1018 (lv_at hl 0 rfl) ?_
  refine lv_iconst (v := 1) hx hb dL_law_1020 (by decide) ?_
  refine lv_iadd hx hb dL_law_1021 ?_
  refine lv_topi (fun dv edv => ?_)
  obtain rfl : dv = nI (i + 1) := by rw [edv]; exact nI_add i 1
  refine va_sld hx hb hX hb0 hbA hS (vp_in_nI (n := (i + 1)) (by omega) (by omega)) dL_law_1022 ?_
  rw [nI_clamp (by omega)]
  refine lv_aload_n hx hb dL_law_1023 rfl (lv_at hl 4 rfl) ?_
  refine lv_iload hx hb dL_law_1024 (lv_at hl 0 rfl) ?_
  refine lv_iconst (v := 2) hx hb dL_law_1026 (by decide) ?_
  refine lv_iadd hx hb dL_law_1027 ?_
  refine lv_topi (fun dv edv => ?_)
  obtain rfl : dv = nI (i + 2) := by rw [edv]; exact nI_add i 2
  refine va_sld hx hb hX hb0 hbA hS (vp_in_nI (n := (i + 2)) (by omega) (by omega)) dL_law_1028 ?_
  rw [nI_clamp (by omega)]
  refine lv_aload_n hx hb dL_law_1029 rfl (lv_at hl 4 rfl) ?_
  refine lv_iload hx hb dL_law_1030 (lv_at hl 0 rfl) ?_
  refine lv_iconst (v := 3) hx hb dL_law_1032 (by decide) ?_
  refine lv_iadd hx hb dL_law_1033 ?_
  refine lv_topi (fun dv edv => ?_)
  obtain rfl : dv = nI (i + 3) := by rw [edv]; exact nI_add i 3
  refine va_sld hx hb hX hb0 hbA hS (vp_in_nI (n := (i + 3)) (by omega) (by omega)) dL_law_1034 ?_
  rw [nI_clamp (by omega)]
  refine lv_aload_n hx hb dL_law_1035 rfl (lv_at hl 4 rfl) ?_
  refine lv_iload hx hb dL_law_1036 (lv_at hl 0 rfl) ?_
  refine lv_iconst (v := 4) hx hb dL_law_1038 (by decide) ?_
  refine lv_iadd hx hb dL_law_1039 ?_
  refine lv_topi (fun dv edv => ?_)
  obtain rfl : dv = nI (i + 4) := by rw [edv]; exact nI_add i 4
  refine va_sld hx hb hX hb0 hbA hS (vp_in_nI (n := (i + 4)) (by omega) (by omega)) dL_law_1040 ?_
  rw [nI_clamp (by omega)]
  refine lv_aload_n hx hb dL_law_1041 rfl (lv_at hl 1 rfl) ?_
  refine va_calli (vx_runSW (hh := [(0, 21, 24, 19)]) (As := [.ref (a 0), .int (xs (i + 1)), .int (xs (i + 2)), .int (xs (i + 3)), .int (xs (i + 4)), .ref ob]) (rest := []) ⟨hx, hb, hml, hown, hts⟩ (kL_isSumOff l D cI cZ cO cL dt A a FA nC nR nL nF par wt (fun r => nI (sk r)) (fun r => nI (fk r)) hd rea sig (fun k => mc k * 40 + mp k * 4 + mm k) mf md mv nx (WM cI cZ b nC nR nL nF par wt (fun r => nI (sk r)) (fun r => nI (fk r)) mc mp mm mf md mv mder mkn thr) ob ov (xs (i + 1)) (xs (i + 2)) (xs (i + 3)) (xs (i + 4)) hlt hF hC12 hck hcf hmd hmv hwt hCh hL8) (vx_cwSW 6 hts gL_law_L_isSumOff rfl rfl rfl (by decide +kernel) ⟨(Nat.le_of_ble_eq_true rfl), (Nat.le_of_ble_eq_true rfl)⟩) (gP.s (hg.on hS) ⟨hP, hD⟩) rfl rfl hl.1 rfl (lv_room (Nat.le_of_ble_eq_true rfl)) dL_law_1042 ⟨by show cells + 3 ≤ 601024; omega, by show slots + 18 ≤ 7293034; omega⟩) hS (fun q _ h => h) (fun q h => h) (fun k9 u9 t9 H locs ht9 hvm9 hw9 hB9 hz9 hk9 hS => ?_)
  rw [ht9] at hB9
  rcases hw9 with ⟨rfl, r9, hu9, hpost⟩ | ⟨rfl, hR9⟩
  · skip
    have hB9 : va_P D vwCl (WD cI cO a FA nC nR nL nF par wt (fun r => nI (sk r)) (fun r => nI (fk r)) hd rea sig ++ (WF FA (fun k => mc k * 40 + mp k * 4 + mm k) mf md mv nx nF ++ ((ob, .inl (cL, 1, .inr (.inl u9))) : Nat × va_E) :: WM cI cZ b nC nR nL nF par wt (fun r => nI (sk r)) (fun r => nI (fk r)) mc mp mm mf md mv mder mkn thr)) H ∧ va_D A (WD cI cO a FA nC nR nL nF par wt (fun r => nI (sk r)) (fun r => nI (fk r)) hd rea sig ++ (WF FA (fun k => mc k * 40 + mp k * 4 + mm k) mf md mv nx nF ++ ((ob, .inl (cL, 1, .inr (.inl u9))) : Nat × va_E) :: WM cI cZ b nC nR nL nF par wt (fun r => nI (sk r)) (fun r => nI (fk r)) mc mp mm mf md mv mder mkn thr)) := hB9
    obtain ⟨hP, hD⟩ := hB9
    obtain ⟨c1, p1, m1, f1, hv9, hr9⟩ := hpost
    have hvv := hv9
    obtain ⟨⟨hc9, hc⟩, ⟨hp9, hp⟩, ⟨hm9, hm⟩, ⟨hf9, hf⟩⟩ := hv9
    refine lv_istore (lv' := [(5, .int 0), (4, .int (nI i)), (3, .ref ob), (2, .ref (b 0)), (1, .ref (a 0)), (0, .ref b0)]) hx hb dL_law_1045 hl (by decide) rfl (fun ls hl => ?_)
    refine lv_aload_n hx hb dL_law_1047 rfl (lv_at hl 3 rfl) ?_
    refine lv_aload_n hx hb dL_law_1048 rfl (lv_at hl 5 rfl) ?_
    refine lv_iload hx hb dL_law_1049 (lv_at hl 1 rfl) ?_
    refine lv_iconst (v := 1) hx hb dL_law_1051 (by decide) ?_
    refine lv_iadd hx hb dL_law_1052 ?_
    refine lv_topi (fun dv edv => ?_)
    obtain rfl : dv = nI (i + 1) := by rw [edv]; exact nI_add i 1
    refine va_sld hx hb hX hb0 hbA hS (vp_in_nI (n := (i + 1)) (by omega) (by omega)) dL_law_1053 ?_
    rw [nI_clamp (by omega)]
    refine lv_aload_n hx hb dL_law_1054 rfl (lv_at hl 5 rfl) ?_
    refine lv_iload hx hb dL_law_1055 (lv_at hl 1 rfl) ?_
    refine lv_iconst (v := 2) hx hb dL_law_1057 (by decide) ?_
    refine lv_iadd hx hb dL_law_1058 ?_
    refine lv_topi (fun dv edv => ?_)
    obtain rfl : dv = nI (i + 2) := by rw [edv]; exact nI_add i 2
    refine va_sld hx hb hX hb0 hbA hS (vp_in_nI (n := (i + 2)) (by omega) (by omega)) dL_law_1059 ?_
    rw [nI_clamp (by omega)]
    refine lv_aload_n hx hb dL_law_1060 rfl (lv_at hl 5 rfl) ?_
    refine lv_iload hx hb dL_law_1061 (lv_at hl 1 rfl) ?_
    refine lv_iconst (v := 3) hx hb dL_law_1063 (by decide) ?_
    refine lv_iadd hx hb dL_law_1064 ?_
    refine lv_topi (fun dv edv => ?_)
    obtain rfl : dv = nI (i + 3) := by rw [edv]; exact nI_add i 3
    refine va_sld hx hb hX hb0 hbA hS (vp_in_nI (n := (i + 3)) (by omega) (by omega)) dL_law_1065 ?_
    rw [nI_clamp (by omega)]
    refine lv_aload_n hx hb dL_law_1066 rfl (lv_at hl 5 rfl) ?_
    refine lv_iload hx hb dL_law_1067 (lv_at hl 1 rfl) ?_
    refine lv_iconst (v := 4) hx hb dL_law_1069 (by decide) ?_
    refine lv_iadd hx hb dL_law_1070 ?_
    refine lv_topi (fun dv edv => ?_)
    obtain rfl : dv = nI (i + 4) := by rw [edv]; exact nI_add i 4
    refine va_sld hx hb hX hb0 hbA hS (vp_in_nI (n := (i + 4)) (by omega) (by omega)) dL_law_1071 ?_
    rw [nI_clamp (by omega)]
    have hP := va_P_perm hP (lperm (WD cI cO a FA nC nR nL nF par wt (fun r => nI (sk r)) (fun r => nI (fk r)) hd rea sig) (WF FA (fun k => mc k * 40 + mp k * 4 + mm k) mf md mv nx nF) (WM cI cZ b nC nR nL nF par wt (fun r => nI (sk r)) (fun r => nI (fk r)) mc mp mm mf md mv mder mkn thr) ((ob, .inl (cL, 1, .inr (.inl u9))) : Nat × va_E))
    have hD := va_D_perm hD (lperm (WD cI cO a FA nC nR nL nF par wt (fun r => nI (sk r)) (fun r => nI (fk r)) hd rea sig) (WF FA (fun k => mc k * 40 + mp k * 4 + mm k) mf md mv nx nF) (WM cI cZ b nC nR nL nF par wt (fun r => nI (sk r)) (fun r => nI (fk r)) mc mp mm mf md mv mder mkn thr) ((ob, .inl (cL, 1, .inr (.inl u9))) : Nat × va_E))
    refine va_calli (va_runV (As := [.int (xs (i + 1)), .int (xs (i + 2)), .int (xs (i + 3)), .int (xs (i + 4))]) (rest := []) ⟨hx, hb, hml, hown, hts⟩ (c5_isSumOff_0 l D cI cZ cO cL dt A b nC nR nL nF par wt (fun r => nI (sk r)) (fun r => nI (fk r)) mc mp mm mf md mv mder mkn thr (WD cI cO a FA nC nR nL nF par wt (fun r => nI (sk r)) (fun r => nI (fk r)) hd rea sig ++ (WF FA (fun k => mc k * 40 + mp k * 4 + mm k) mf md mv nx nF ++ [((ob, .inl (cL, 1, .inr (.inl u9))) : Nat × va_E)])) (xs (i + 1)) (xs (i + 2)) (xs (i + 3)) (xs (i + 4)) hF hC12 hcf hmd31 (kV_ask hC12 hL8 hvv)) (cwV 4 hts gL_law_X5_isSumOff rfl rfl rfl (by decide +kernel) ⟨(Nat.le_of_ble_eq_true rfl), (Nat.le_of_ble_eq_true rfl)⟩) (gP.v (hg.on hS) hP 4 rfl 0 rfl ⟨hP, hD⟩) rfl rfl hl.1 rfl (lv_room (Nat.le_of_ble_eq_true rfl)) dL_law_1072 ⟨by show cells + 3 + 0 ≤ 601024; omega, by show slots + 18 + 0 ≤ 7293034; omega⟩) hS (fun q _ h => h) (fun q h => h) (fun b9 u8 t8 H locs ht8 hvm8 hw8 hB8 hz8 hk8 hS => ?_)
    rw [ht8] at hB8
    obtain ⟨hP, hD⟩ := hB8
    have hP : va_P D vwCl (WM cI cZ b nC nR nL nF par wt (fun r => nI (sk r)) (fun r => nI (fk r)) mc mp mm mf md mv mder mkn 0 ++ (WD cI cO a FA nC nR nL nF par wt (fun r => nI (sk r)) (fun r => nI (fk r)) hd rea sig ++ (WF FA (fun k => mc k * 40 + mp k * 4 + mm k) mf md mv nx nF ++ [((ob, .inl (cL, 1, .inr (.inl u9))) : Nat × va_E)]))) H := hP
    have hD : va_D A (WM cI cZ b nC nR nL nF par wt (fun r => nI (sk r)) (fun r => nI (fk r)) mc mp mm mf md mv mder mkn 0 ++ (WD cI cO a FA nC nR nL nF par wt (fun r => nI (sk r)) (fun r => nI (fk r)) hd rea sig ++ (WF FA (fun k => mc k * 40 + mp k * 4 + mm k) mf md mv nx nF ++ [((ob, .inl (cL, 1, .inr (.inl u9))) : Nat × va_E)]))) := hD
    refine lv_istore (lv' := [(6, .int b9), (5, .int 0), (4, .int (nI i)), (3, .ref ob), (2, .ref (b 0)), (1, .ref (a 0)), (0, .ref b0)]) hx hb dL_law_1075 hl (by decide) rfl (fun ls hl => ?_)
    refine lv_aload_n hx hb dL_law_1077 rfl (lv_at hl 4 rfl) ?_
    refine g_csi (va_runV (As := []) (rest := []) ⟨hx, hb, hml, hown, hts⟩ (c5_thrown l D cI cZ cO cL dt A b nC nR nL nF par wt (fun r => nI (sk r)) (fun r => nI (fk r)) mc mp mm mf md mv mder mkn 0 (WD cI cO a FA nC nR nL nF par wt (fun r => nI (sk r)) (fun r => nI (fk r)) hd rea sig ++ (WF FA (fun k => mc k * 40 + mp k * 4 + mm k) mf md mv nx nF ++ [((ob, .inl (cL, 1, .inr (.inl u9))) : Nat × va_E)]))) (cwV 0 hts gL_law_X5_thrown rfl rfl rfl (by decide +kernel) ⟨(Nat.le_of_ble_eq_true rfl), (Nat.le_of_ble_eq_true rfl)⟩) (gP.v (hg.on hS) hP 4 rfl 0 rfl hP) rfl rfl hl.1 rfl (lv_room (Nat.le_of_ble_eq_true rfl)) dL_law_1078 ⟨by show cells + 3 + 0 + 0 ≤ 601024; omega, by show slots + 18 + 0 + 0 ≤ 7293034; omega⟩) (fun t7 ht7 => ?_)
    obtain rfl : t7 = 0 := ht7
    have hP := va_P_perm hP (lperm (WD cI cO a FA nC nR nL nF par wt (fun r => nI (sk r)) (fun r => nI (fk r)) hd rea sig) (WF FA (fun k => mc k * 40 + mp k * 4 + mm k) mf md mv nx nF) (WM cI cZ b nC nR nL nF par wt (fun r => nI (sk r)) (fun r => nI (fk r)) mc mp mm mf md mv mder mkn 0) ((ob, .inl (cL, 1, .inr (.inl u9))) : Nat × va_E)).symm
    have hD := va_D_perm hD (lperm (WD cI cO a FA nC nR nL nF par wt (fun r => nI (sk r)) (fun r => nI (fk r)) hd rea sig) (WF FA (fun k => mc k * 40 + mp k * 4 + mm k) mf md mv nx nF) (WM cI cZ b nC nR nL nF par wt (fun r => nI (sk r)) (fun r => nI (fk r)) mc mp mm mf md mv mder mkn 0) ((ob, .inl (cL, 1, .inr (.inl u9))) : Nat × va_E)).symm
    have hag9 : r9 = b9 := by rw [hr9, hw8]; rw [hc9, hp9, hm9, hf9]; exact congrArg (fun z => bI (z = true)) (sumOff_congr (fun k hk => (hMC h1 h2 h3 (by omega) hp hm).symm) (hMC h1 h2 h3 (by omega) hp hm).symm)
    have hag := congrArg (fun z : Int32 => if z = 0 then (0 : Int64) else 1) hag9
    refine lv_iload hx hb dL_law_1081 (lv_at hl 1 rfl) ?_
    refine lv_icmp_eq (tgt := 1088) hx hb dL_law_1083 (by decide) (fun c_1083 => ?_) (fun c_1083 => ?_)
    · skip
      refine lv_iload hx hb dL_law_1088 (lv_at hl 1 rfl) ?_
      refine lv_if_ne (tgt := 1112) hx hb dL_law_1090 (by decide) (fun c_1090 => ?_) (fun c_1090 => ?_)
      · skip
        exact absurd c_1090 (by decide)
      · skip
        refine lv_aload_n hx hb dL_law_1093 rfl (lv_at hl 3 rfl) ?_
        refine lv_iconst (v := 0) hx hb dL_law_1094 (by decide) ?_
        refine va_lald hx hb hK hP (11 + nF) 3 (WDR_at) rfl e_in0 dL_law_1095 ?_
        rw [e_z0, hu9, hag]
        refine lv_iload hx hb dL_law_1096 (lv_at hl 0 rfl) ?_
        refine lv_if_eq (tgt := 1105) hx hb dL_law_1098 (by decide) (fun c_1098 => ?_) (fun c_1098 => ?_)
        · skip
          refine lv_lconst (v := 0) hx hb dL_law_1105 (by decide) ?_
          refine W.lcmp hx hb dL_law_1106 ?_
          rw [if_pos c_1098, lg_self]
          refine lv_if_eq (tgt := 1112) hx hb dL_law_1107 (by decide) (fun c_1107 => ?_) (fun c_1107 => ?_)
          · skip
            refine lv_goto (tgt := 1413) hx hb dL_law_1112 (by decide) ?_
            refine W.widen (k := cells + 4) (n := slots + 24) (by omega) (by omega) ?_
            exact kk _ _ _ ⟨FA, nC, nR, nL, nF, par, wt, sk, fk, hd, rea, sig, mc, mp, mm, mf, md, mv, nx, mder, mkn, 0, u9, L, hOk, hP, hD⟩ hS (lv_sub hl [2, 3, 4, 5, 6] rfl)
          · skip
            exact absurd c_1107 (by decide)
        · skip
          refine lv_lconst (v := 1) hx hb dL_law_1101 (by decide) ?_
          refine lv_goto (tgt := 1106) hx hb dL_law_1102 (by decide) ?_
          refine W.lcmp hx hb dL_law_1106 ?_
          rw [if_neg c_1098, lg_self]
          refine lv_if_eq (tgt := 1112) hx hb dL_law_1107 (by decide) (fun c_1107 => ?_) (fun c_1107 => ?_)
          · skip
            refine lv_goto (tgt := 1413) hx hb dL_law_1112 (by decide) ?_
            refine W.widen (k := cells + 4) (n := slots + 24) (by omega) (by omega) ?_
            exact kk _ _ _ ⟨FA, nC, nR, nL, nF, par, wt, sk, fk, hd, rea, sig, mc, mp, mm, mf, md, mv, nx, mder, mkn, 0, u9, L, hOk, hP, hD⟩ hS (lv_sub hl [2, 3, 4, 5, 6] rfl)
          · skip
            exact absurd c_1107 (by decide)
    · skip
      exact absurd c_1083 (by decide)
  · skip
    have hB9 : va_P D vwCl (WD cI cO a FA nC nR nL nF par wt (fun r => nI (sk r)) (fun r => nI (fk r)) hd rea sig ++ (WF FA (fun k => mc k * 40 + mp k * 4 + mm k) mf md mv nx nF ++ ((ob, .inl (cL, 1, .inr (.inl u9))) : Nat × va_E) :: WM cI cZ b nC nR nL nF par wt (fun r => nI (sk r)) (fun r => nI (fk r)) mc mp mm mf md mv mder mkn thr)) H ∧ va_D A (WD cI cO a FA nC nR nL nF par wt (fun r => nI (sk r)) (fun r => nI (fk r)) hd rea sig ++ (WF FA (fun k => mc k * 40 + mp k * 4 + mm k) mf md mv nx nF ++ ((ob, .inl (cL, 1, .inr (.inl u9))) : Nat × va_E) :: WM cI cZ b nC nR nL nF par wt (fun r => nI (sk r)) (fun r => nI (fk r)) mc mp mm mf md mv mder mkn thr)) := hB9
    obtain ⟨hP, hD⟩ := hB9
    refine lv_istore (lv' := [(5, .int 1), (4, .int (nI i)), (3, .ref ob), (2, .ref (b 0)), (1, .ref (a 0)), (0, .ref b0)]) hx hb dL_law_1045 hl (by decide) rfl (fun ls hl => ?_)
    refine lv_aload_n hx hb dL_law_1047 rfl (lv_at hl 3 rfl) ?_
    refine lv_aload_n hx hb dL_law_1048 rfl (lv_at hl 5 rfl) ?_
    refine lv_iload hx hb dL_law_1049 (lv_at hl 1 rfl) ?_
    refine lv_iconst (v := 1) hx hb dL_law_1051 (by decide) ?_
    refine lv_iadd hx hb dL_law_1052 ?_
    refine lv_topi (fun dv edv => ?_)
    obtain rfl : dv = nI (i + 1) := by rw [edv]; exact nI_add i 1
    refine va_sld hx hb hX hb0 hbA hS (vp_in_nI (n := (i + 1)) (by omega) (by omega)) dL_law_1053 ?_
    rw [nI_clamp (by omega)]
    refine lv_aload_n hx hb dL_law_1054 rfl (lv_at hl 5 rfl) ?_
    refine lv_iload hx hb dL_law_1055 (lv_at hl 1 rfl) ?_
    refine lv_iconst (v := 2) hx hb dL_law_1057 (by decide) ?_
    refine lv_iadd hx hb dL_law_1058 ?_
    refine lv_topi (fun dv edv => ?_)
    obtain rfl : dv = nI (i + 2) := by rw [edv]; exact nI_add i 2
    refine va_sld hx hb hX hb0 hbA hS (vp_in_nI (n := (i + 2)) (by omega) (by omega)) dL_law_1059 ?_
    rw [nI_clamp (by omega)]
    refine lv_aload_n hx hb dL_law_1060 rfl (lv_at hl 5 rfl) ?_
    refine lv_iload hx hb dL_law_1061 (lv_at hl 1 rfl) ?_
    refine lv_iconst (v := 3) hx hb dL_law_1063 (by decide) ?_
    refine lv_iadd hx hb dL_law_1064 ?_
    refine lv_topi (fun dv edv => ?_)
    obtain rfl : dv = nI (i + 3) := by rw [edv]; exact nI_add i 3
    refine va_sld hx hb hX hb0 hbA hS (vp_in_nI (n := (i + 3)) (by omega) (by omega)) dL_law_1065 ?_
    rw [nI_clamp (by omega)]
    refine lv_aload_n hx hb dL_law_1066 rfl (lv_at hl 5 rfl) ?_
    refine lv_iload hx hb dL_law_1067 (lv_at hl 1 rfl) ?_
    refine lv_iconst (v := 4) hx hb dL_law_1069 (by decide) ?_
    refine lv_iadd hx hb dL_law_1070 ?_
    refine lv_topi (fun dv edv => ?_)
    obtain rfl : dv = nI (i + 4) := by rw [edv]; exact nI_add i 4
    refine va_sld hx hb hX hb0 hbA hS (vp_in_nI (n := (i + 4)) (by omega) (by omega)) dL_law_1071 ?_
    rw [nI_clamp (by omega)]
    have hP := va_P_perm hP (lperm (WD cI cO a FA nC nR nL nF par wt (fun r => nI (sk r)) (fun r => nI (fk r)) hd rea sig) (WF FA (fun k => mc k * 40 + mp k * 4 + mm k) mf md mv nx nF) (WM cI cZ b nC nR nL nF par wt (fun r => nI (sk r)) (fun r => nI (fk r)) mc mp mm mf md mv mder mkn thr) ((ob, .inl (cL, 1, .inr (.inl u9))) : Nat × va_E))
    have hD := va_D_perm hD (lperm (WD cI cO a FA nC nR nL nF par wt (fun r => nI (sk r)) (fun r => nI (fk r)) hd rea sig) (WF FA (fun k => mc k * 40 + mp k * 4 + mm k) mf md mv nx nF) (WM cI cZ b nC nR nL nF par wt (fun r => nI (sk r)) (fun r => nI (fk r)) mc mp mm mf md mv mder mkn thr) ((ob, .inl (cL, 1, .inr (.inl u9))) : Nat × va_E))
    refine va_calli (va_runV (As := [.int (xs (i + 1)), .int (xs (i + 2)), .int (xs (i + 3)), .int (xs (i + 4))]) (rest := []) ⟨hx, hb, hml, hown, hts⟩ (c5_isSumOff_1 l D cI cZ cO cL dt A b nC nR nL nF par wt (fun r => nI (sk r)) (fun r => nI (fk r)) mc mp mm mf md mv mder mkn thr (WD cI cO a FA nC nR nL nF par wt (fun r => nI (sk r)) (fun r => nI (fk r)) hd rea sig ++ (WF FA (fun k => mc k * 40 + mp k * 4 + mm k) mf md mv nx nF ++ [((ob, .inl (cL, 1, .inr (.inl u9))) : Nat × va_E)])) (xs (i + 1)) (xs (i + 2)) (xs (i + 3)) (xs (i + 4)) (kNo_ask hC12 hL8 hR9)) (cwV 4 hts gL_law_X5_isSumOff rfl rfl rfl (by decide +kernel) ⟨(Nat.le_of_ble_eq_true rfl), (Nat.le_of_ble_eq_true rfl)⟩) (gP.v (hg.on hS) hP 4 rfl 0 rfl ⟨hP, hD⟩) rfl rfl hl.1 rfl (lv_room (Nat.le_of_ble_eq_true rfl)) dL_law_1072 ⟨by show cells + 3 + 0 ≤ 601024; omega, by show slots + 18 + 0 ≤ 7293034; omega⟩) hS (fun q _ h => h) (fun q h => h) (fun b9 u8 t8 H locs ht8 hvm8 hw8 hB8 hz8 hk8 hS => ?_)
    rw [ht8] at hB8
    obtain ⟨hP, hD⟩ := hB8
    have hP : va_P D vwCl (WM cI cZ b nC nR nL nF par wt (fun r => nI (sk r)) (fun r => nI (fk r)) mc mp mm mf md mv mder mkn 1 ++ (WD cI cO a FA nC nR nL nF par wt (fun r => nI (sk r)) (fun r => nI (fk r)) hd rea sig ++ (WF FA (fun k => mc k * 40 + mp k * 4 + mm k) mf md mv nx nF ++ [((ob, .inl (cL, 1, .inr (.inl u9))) : Nat × va_E)]))) H := hP
    have hD : va_D A (WM cI cZ b nC nR nL nF par wt (fun r => nI (sk r)) (fun r => nI (fk r)) mc mp mm mf md mv mder mkn 1 ++ (WD cI cO a FA nC nR nL nF par wt (fun r => nI (sk r)) (fun r => nI (fk r)) hd rea sig ++ (WF FA (fun k => mc k * 40 + mp k * 4 + mm k) mf md mv nx nF ++ [((ob, .inl (cL, 1, .inr (.inl u9))) : Nat × va_E)]))) := hD
    refine lv_istore (lv' := [(6, .int b9), (5, .int 1), (4, .int (nI i)), (3, .ref ob), (2, .ref (b 0)), (1, .ref (a 0)), (0, .ref b0)]) hx hb dL_law_1075 hl (by decide) rfl (fun ls hl => ?_)
    refine lv_aload_n hx hb dL_law_1077 rfl (lv_at hl 4 rfl) ?_
    refine g_csi (va_runV (As := []) (rest := []) ⟨hx, hb, hml, hown, hts⟩ (c5_thrown l D cI cZ cO cL dt A b nC nR nL nF par wt (fun r => nI (sk r)) (fun r => nI (fk r)) mc mp mm mf md mv mder mkn 1 (WD cI cO a FA nC nR nL nF par wt (fun r => nI (sk r)) (fun r => nI (fk r)) hd rea sig ++ (WF FA (fun k => mc k * 40 + mp k * 4 + mm k) mf md mv nx nF ++ [((ob, .inl (cL, 1, .inr (.inl u9))) : Nat × va_E)]))) (cwV 0 hts gL_law_X5_thrown rfl rfl rfl (by decide +kernel) ⟨(Nat.le_of_ble_eq_true rfl), (Nat.le_of_ble_eq_true rfl)⟩) (gP.v (hg.on hS) hP 4 rfl 0 rfl hP) rfl rfl hl.1 rfl (lv_room (Nat.le_of_ble_eq_true rfl)) dL_law_1078 ⟨by show cells + 3 + 0 + 0 ≤ 601024; omega, by show slots + 18 + 0 + 0 ≤ 7293034; omega⟩) (fun t7 ht7 => ?_)
    obtain rfl : t7 = 1 := ht7
    have hP := va_P_perm hP (lperm (WD cI cO a FA nC nR nL nF par wt (fun r => nI (sk r)) (fun r => nI (fk r)) hd rea sig) (WF FA (fun k => mc k * 40 + mp k * 4 + mm k) mf md mv nx nF) (WM cI cZ b nC nR nL nF par wt (fun r => nI (sk r)) (fun r => nI (fk r)) mc mp mm mf md mv mder mkn 1) ((ob, .inl (cL, 1, .inr (.inl u9))) : Nat × va_E)).symm
    have hD := va_D_perm hD (lperm (WD cI cO a FA nC nR nL nF par wt (fun r => nI (sk r)) (fun r => nI (fk r)) hd rea sig) (WF FA (fun k => mc k * 40 + mp k * 4 + mm k) mf md mv nx nF) (WM cI cZ b nC nR nL nF par wt (fun r => nI (sk r)) (fun r => nI (fk r)) mc mp mm mf md mv mder mkn 1) ((ob, .inl (cL, 1, .inr (.inl u9))) : Nat × va_E)).symm
    refine lv_iload hx hb dL_law_1081 (lv_at hl 1 rfl) ?_
    refine lv_icmp_eq (tgt := 1088) hx hb dL_law_1083 (by decide) (fun c_1083 => ?_) (fun c_1083 => ?_)
    · skip
      refine lv_iload hx hb dL_law_1088 (lv_at hl 1 rfl) ?_
      refine lv_if_ne (tgt := 1112) hx hb dL_law_1090 (by decide) (fun c_1090 => ?_) (fun c_1090 => ?_)
      · skip
        refine lv_goto (tgt := 1413) hx hb dL_law_1112 (by decide) ?_
        refine W.widen (k := cells + 4) (n := slots + 24) (by omega) (by omega) ?_
        exact kk _ _ _ ⟨FA, nC, nR, nL, nF, par, wt, sk, fk, hd, rea, sig, mc, mp, mm, mf, md, mv, nx, mder, mkn, 1, u9, L, hOk, hP, hD⟩ hS (lv_sub hl [2, 3, 4, 5, 6] rfl)
      · skip
        exact absurd c_1090 (by decide)
    · skip
      exact absurd c_1083 (by decide)
set_option maxHeartbeats 4000000 in
set_option maxRecDepth 100000 in
/-- the case of areMembersOff -/
theorem lw_areMembersOff (l : Launch) (hlt : l.stackTraces = false) {D : va_G} {cI cZ cO cL : ClassId} {dt : Nat} {A : Nat → Prop} {a b : Nat → Nat} {ob b0 i Ls cells slots : Nat} {xs : Nat → Int32} {p9 : Program} {e9 : Env} {s : State} {m9 : MethodId} {args : Array Value} {below : List Frame} {meth : Method} {c9 : Code} {H : Heap} {locs : List Loc} {ls : Array Slot} {Q : State → Prop}
    (hx : p9.tables.exec = Jvm.exec) (hb : c9.code = cL_law) (hml : c9.maxLocals = 7) (hown : s.vm.findClass RL = some m9.cls) (hts : ∀ w ∈ wsL_law, w.before args s = true) (hg : gG D cI cZ cO cL dt A s s.heap) (hX : va_X b0 Ls xs s s.heap) (hb0 : b0 < s.heap.size) (hbA : ¬ A b0) (hi : i + 6 ≤ Ls) (hLs : Ls ≤ 3072)
    (hI : lInv D cI cZ cO cL A a b ob H) (hS : va_S A s.heap H locs) (hl : lv_has ls 7 [(4, .int (nI i)), (3, .ref ob), (2, .ref (b 0)), (1, .ref (a 0)), (0, .ref b0)]) (hcc : cells + 4 ≤ 601024) (hss : slots + 24 ≤ 7293034)
    (kk : ∀ (H : Heap) (locs : List Loc) (ls : Array Slot), lInv D cI cZ cO cL A a b ob H → va_S A s.heap H locs → lv_has ls 7 [(4, .int (nI i)), (3, .ref ob), (2, .ref (b 0)), (1, .ref (a 0)), (0, .ref b0)] → W p9 l e9 room_1 s m9 args below meth c9 H locs (cells + 4) (slots + 24) Q (F0 m9 1413 ls [])) :
    W p9 l e9 room_1 s m9 args below meth c9 H locs cells slots Q (F0 m9 1115 ls []) := by
  obtain ⟨FA, nC, nR, nL, nF, par, wt, sk, fk, hd, rea, sig, mc, mp, mm, mf, md, mv, nx, mder, mkn, thr, ov, L, hOk, hP, hD⟩ := hI
  obtain ⟨⟨hC12, hR5, hL8, hF⟩, ⟨hT, hwt⟩, ⟨hsk12, hfk12, hskC⟩, ⟨hCh, hH, hN, hfL⟩, h1, h2, h3, h4, hmd, hmv, h7⟩ := id hOk
  have hK := hg.1
  have hck : ∀ k, mc k * 40 + mp k * 4 + mm k < 480 := fun k => by have := h1 k; have := h2 k; have := h3 k; omega
  have hcf : ∀ k, mf k < 2 ^ 31 := fun k => by have := h4 k; omega
  have hmd31 : ∀ k, md k < 2 ^ 31 := fun k => by have := hmd k; omega
  have hP : va_P D vwCl (WD cI cO a FA nC nR nL nF par wt (fun r => nI (sk r)) (fun r => nI (fk r)) hd rea sig ++ (WF FA (fun k => mc k * 40 + mp k * 4 + mm k) mf md mv nx nF ++ ((ob, .inl (cL, 1, .inr (.inl ov))) : Nat × va_E) :: WM cI cZ b nC nR nL nF par wt (fun r => nI (sk r)) (fun r => nI (fk r)) mc mp mm mf md mv mder mkn thr)) H := hP
  have hD : va_D A (WD cI cO a FA nC nR nL nF par wt (fun r => nI (sk r)) (fun r => nI (fk r)) hd rea sig ++ (WF FA (fun k => mc k * 40 + mp k * 4 + mm k) mf md mv nx nF ++ ((ob, .inl (cL, 1, .inr (.inl ov))) : Nat × va_E) :: WM cI cZ b nC nR nL nF par wt (fun r => nI (sk r)) (fun r => nI (fk r)) mc mp mm mf md mv mder mkn thr)) := hD
  refine lv_aload_n hx hb dL_law_1115 rfl (lv_at hl 3 rfl) ?_
  refine lv_aload_n hx hb dL_law_1116 rfl (lv_at hl 4 rfl) ?_
  refine lv_iload hx hb dL_law_1117 (lv_at hl 0 rfl) ?_
  refine lv_iconst (v := 1) hx hb dL_law_1119 (by decide) ?_
  refine lv_iadd hx hb dL_law_1120 ?_
  refine lv_topi (fun dv edv => ?_)
  obtain rfl : dv = nI (i + 1) := by rw [edv]; exact nI_add i 1
  refine va_sld hx hb hX hb0 hbA hS (vp_in_nI (n := (i + 1)) (by omega) (by omega)) dL_law_1121 ?_
  rw [nI_clamp (by omega)]
  refine lv_aload_n hx hb dL_law_1122 rfl (lv_at hl 4 rfl) ?_
  refine lv_iload hx hb dL_law_1123 (lv_at hl 0 rfl) ?_
  refine lv_iconst (v := 2) hx hb dL_law_1125 (by decide) ?_
  refine lv_iadd hx hb dL_law_1126 ?_
  refine lv_topi (fun dv edv => ?_)
  obtain rfl : dv = nI (i + 2) := by rw [edv]; exact nI_add i 2
  refine va_sld hx hb hX hb0 hbA hS (vp_in_nI (n := (i + 2)) (by omega) (by omega)) dL_law_1127 ?_
  rw [nI_clamp (by omega)]
  refine lv_aload_n hx hb dL_law_1128 rfl (lv_at hl 4 rfl) ?_
  refine lv_iload hx hb dL_law_1129 (lv_at hl 0 rfl) ?_
  refine lv_iconst (v := 3) hx hb dL_law_1131 (by decide) ?_
  refine lv_iadd hx hb dL_law_1132 ?_
  refine lv_topi (fun dv edv => ?_)
  obtain rfl : dv = nI (i + 3) := by rw [edv]; exact nI_add i 3
  refine va_sld hx hb hX hb0 hbA hS (vp_in_nI (n := (i + 3)) (by omega) (by omega)) dL_law_1133 ?_
  rw [nI_clamp (by omega)]
  refine lv_aload_n hx hb dL_law_1134 rfl (lv_at hl 1 rfl) ?_
  refine va_calli (vx_runSW (hh := [(0, 19, 22, 19)]) (As := [.ref (a 0), .int (xs (i + 1)), .int (xs (i + 2)), .int (xs (i + 3)), .ref ob]) (rest := []) ⟨hx, hb, hml, hown, hts⟩ (kL_areMembersOff l D cI cZ cO cL dt A a FA nC nR nL nF par wt (fun r => nI (sk r)) (fun r => nI (fk r)) hd rea sig (fun k => mc k * 40 + mp k * 4 + mm k) mf md mv nx (WM cI cZ b nC nR nL nF par wt (fun r => nI (sk r)) (fun r => nI (fk r)) mc mp mm mf md mv mder mkn thr) ob ov (xs (i + 1)) (xs (i + 2)) (xs (i + 3)) hlt hF hC12 hck hcf hmd hmv hwt hCh hL8) (vx_cwSW 5 hts gL_law_L_areMembersOff rfl rfl rfl (by decide +kernel) ⟨(Nat.le_of_ble_eq_true rfl), (Nat.le_of_ble_eq_true rfl)⟩) (gP.s (hg.on hS) ⟨hP, hD⟩) rfl rfl hl.1 rfl (lv_room (Nat.le_of_ble_eq_true rfl)) dL_law_1135 ⟨by show cells + 3 ≤ 601024; omega, by show slots + 18 ≤ 7293034; omega⟩) hS (fun q _ h => h) (fun q h => h) (fun k9 u9 t9 H locs ht9 hvm9 hw9 hB9 hz9 hk9 hS => ?_)
  rw [ht9] at hB9
  rcases hw9 with ⟨rfl, r9, hu9, hpost⟩ | ⟨rfl, hR9⟩
  · skip
    have hB9 : va_P D vwCl (WD cI cO a FA nC nR nL nF par wt (fun r => nI (sk r)) (fun r => nI (fk r)) hd rea sig ++ (WF FA (fun k => mc k * 40 + mp k * 4 + mm k) mf md mv nx nF ++ ((ob, .inl (cL, 1, .inr (.inl u9))) : Nat × va_E) :: WM cI cZ b nC nR nL nF par wt (fun r => nI (sk r)) (fun r => nI (fk r)) mc mp mm mf md mv mder mkn thr)) H ∧ va_D A (WD cI cO a FA nC nR nL nF par wt (fun r => nI (sk r)) (fun r => nI (fk r)) hd rea sig ++ (WF FA (fun k => mc k * 40 + mp k * 4 + mm k) mf md mv nx nF ++ ((ob, .inl (cL, 1, .inr (.inl u9))) : Nat × va_E) :: WM cI cZ b nC nR nL nF par wt (fun r => nI (sk r)) (fun r => nI (fk r)) mc mp mm mf md mv mder mkn thr)) := hB9
    obtain ⟨hP, hD⟩ := hB9
    obtain ⟨c1, p1, f1, hv9, hr9⟩ := hpost
    have hvv := hv9
    obtain ⟨⟨hc9, hc⟩, ⟨hp9, hp⟩, ⟨hm9, hm⟩, ⟨hf9, hf⟩⟩ := hv9
    refine lv_istore (lv' := [(5, .int 0), (4, .int (nI i)), (3, .ref ob), (2, .ref (b 0)), (1, .ref (a 0)), (0, .ref b0)]) hx hb dL_law_1138 hl (by decide) rfl (fun ls hl => ?_)
    refine lv_aload_n hx hb dL_law_1140 rfl (lv_at hl 3 rfl) ?_
    refine lv_aload_n hx hb dL_law_1141 rfl (lv_at hl 5 rfl) ?_
    refine lv_iload hx hb dL_law_1142 (lv_at hl 1 rfl) ?_
    refine lv_iconst (v := 1) hx hb dL_law_1144 (by decide) ?_
    refine lv_iadd hx hb dL_law_1145 ?_
    refine lv_topi (fun dv edv => ?_)
    obtain rfl : dv = nI (i + 1) := by rw [edv]; exact nI_add i 1
    refine va_sld hx hb hX hb0 hbA hS (vp_in_nI (n := (i + 1)) (by omega) (by omega)) dL_law_1146 ?_
    rw [nI_clamp (by omega)]
    refine lv_aload_n hx hb dL_law_1147 rfl (lv_at hl 5 rfl) ?_
    refine lv_iload hx hb dL_law_1148 (lv_at hl 1 rfl) ?_
    refine lv_iconst (v := 2) hx hb dL_law_1150 (by decide) ?_
    refine lv_iadd hx hb dL_law_1151 ?_
    refine lv_topi (fun dv edv => ?_)
    obtain rfl : dv = nI (i + 2) := by rw [edv]; exact nI_add i 2
    refine va_sld hx hb hX hb0 hbA hS (vp_in_nI (n := (i + 2)) (by omega) (by omega)) dL_law_1152 ?_
    rw [nI_clamp (by omega)]
    refine lv_aload_n hx hb dL_law_1153 rfl (lv_at hl 5 rfl) ?_
    refine lv_iload hx hb dL_law_1154 (lv_at hl 1 rfl) ?_
    refine lv_iconst (v := 3) hx hb dL_law_1156 (by decide) ?_
    refine lv_iadd hx hb dL_law_1157 ?_
    refine lv_topi (fun dv edv => ?_)
    obtain rfl : dv = nI (i + 3) := by rw [edv]; exact nI_add i 3
    refine va_sld hx hb hX hb0 hbA hS (vp_in_nI (n := (i + 3)) (by omega) (by omega)) dL_law_1158 ?_
    rw [nI_clamp (by omega)]
    have hP := va_P_perm hP (lperm (WD cI cO a FA nC nR nL nF par wt (fun r => nI (sk r)) (fun r => nI (fk r)) hd rea sig) (WF FA (fun k => mc k * 40 + mp k * 4 + mm k) mf md mv nx nF) (WM cI cZ b nC nR nL nF par wt (fun r => nI (sk r)) (fun r => nI (fk r)) mc mp mm mf md mv mder mkn thr) ((ob, .inl (cL, 1, .inr (.inl u9))) : Nat × va_E))
    have hD := va_D_perm hD (lperm (WD cI cO a FA nC nR nL nF par wt (fun r => nI (sk r)) (fun r => nI (fk r)) hd rea sig) (WF FA (fun k => mc k * 40 + mp k * 4 + mm k) mf md mv nx nF) (WM cI cZ b nC nR nL nF par wt (fun r => nI (sk r)) (fun r => nI (fk r)) mc mp mm mf md mv mder mkn thr) ((ob, .inl (cL, 1, .inr (.inl u9))) : Nat × va_E))
    refine va_calli (va_runV (As := [.int (xs (i + 1)), .int (xs (i + 2)), .int (xs (i + 3))]) (rest := []) ⟨hx, hb, hml, hown, hts⟩ (c5_areMembersOff_0 l D cI cZ cO cL dt A b nC nR nL nF par wt (fun r => nI (sk r)) (fun r => nI (fk r)) mc mp mm mf md mv mder mkn thr (WD cI cO a FA nC nR nL nF par wt (fun r => nI (sk r)) (fun r => nI (fk r)) hd rea sig ++ (WF FA (fun k => mc k * 40 + mp k * 4 + mm k) mf md mv nx nF ++ [((ob, .inl (cL, 1, .inr (.inl u9))) : Nat × va_E)])) (xs (i + 1)) (xs (i + 2)) (xs (i + 3)) hF hC12 hcf hmd31 (kV_ask hC12 hL8 hvv)) (cwV 3 hts gL_law_X5_areMembersOff rfl rfl rfl (by decide +kernel) ⟨(Nat.le_of_ble_eq_true rfl), (Nat.le_of_ble_eq_true rfl)⟩) (gP.v (hg.on hS) hP 4 rfl 0 rfl ⟨hP, hD⟩) rfl rfl hl.1 rfl (lv_room (Nat.le_of_ble_eq_true rfl)) dL_law_1159 ⟨by show cells + 3 + 0 ≤ 601024; omega, by show slots + 18 + 0 ≤ 7293034; omega⟩) hS (fun q _ h => h) (fun q h => h) (fun b9 u8 t8 H locs ht8 hvm8 hw8 hB8 hz8 hk8 hS => ?_)
    rw [ht8] at hB8
    obtain ⟨hP, hD⟩ := hB8
    have hP : va_P D vwCl (WM cI cZ b nC nR nL nF par wt (fun r => nI (sk r)) (fun r => nI (fk r)) mc mp mm mf md mv mder mkn 0 ++ (WD cI cO a FA nC nR nL nF par wt (fun r => nI (sk r)) (fun r => nI (fk r)) hd rea sig ++ (WF FA (fun k => mc k * 40 + mp k * 4 + mm k) mf md mv nx nF ++ [((ob, .inl (cL, 1, .inr (.inl u9))) : Nat × va_E)]))) H := hP
    have hD : va_D A (WM cI cZ b nC nR nL nF par wt (fun r => nI (sk r)) (fun r => nI (fk r)) mc mp mm mf md mv mder mkn 0 ++ (WD cI cO a FA nC nR nL nF par wt (fun r => nI (sk r)) (fun r => nI (fk r)) hd rea sig ++ (WF FA (fun k => mc k * 40 + mp k * 4 + mm k) mf md mv nx nF ++ [((ob, .inl (cL, 1, .inr (.inl u9))) : Nat × va_E)]))) := hD
    refine lv_istore (lv' := [(6, .int b9), (5, .int 0), (4, .int (nI i)), (3, .ref ob), (2, .ref (b 0)), (1, .ref (a 0)), (0, .ref b0)]) hx hb dL_law_1162 hl (by decide) rfl (fun ls hl => ?_)
    refine lv_aload_n hx hb dL_law_1164 rfl (lv_at hl 4 rfl) ?_
    refine g_csi (va_runV (As := []) (rest := []) ⟨hx, hb, hml, hown, hts⟩ (c5_thrown l D cI cZ cO cL dt A b nC nR nL nF par wt (fun r => nI (sk r)) (fun r => nI (fk r)) mc mp mm mf md mv mder mkn 0 (WD cI cO a FA nC nR nL nF par wt (fun r => nI (sk r)) (fun r => nI (fk r)) hd rea sig ++ (WF FA (fun k => mc k * 40 + mp k * 4 + mm k) mf md mv nx nF ++ [((ob, .inl (cL, 1, .inr (.inl u9))) : Nat × va_E)]))) (cwV 0 hts gL_law_X5_thrown rfl rfl rfl (by decide +kernel) ⟨(Nat.le_of_ble_eq_true rfl), (Nat.le_of_ble_eq_true rfl)⟩) (gP.v (hg.on hS) hP 4 rfl 0 rfl hP) rfl rfl hl.1 rfl (lv_room (Nat.le_of_ble_eq_true rfl)) dL_law_1165 ⟨by show cells + 3 + 0 + 0 ≤ 601024; omega, by show slots + 18 + 0 + 0 ≤ 7293034; omega⟩) (fun t7 ht7 => ?_)
    obtain rfl : t7 = 0 := ht7
    have hP := va_P_perm hP (lperm (WD cI cO a FA nC nR nL nF par wt (fun r => nI (sk r)) (fun r => nI (fk r)) hd rea sig) (WF FA (fun k => mc k * 40 + mp k * 4 + mm k) mf md mv nx nF) (WM cI cZ b nC nR nL nF par wt (fun r => nI (sk r)) (fun r => nI (fk r)) mc mp mm mf md mv mder mkn 0) ((ob, .inl (cL, 1, .inr (.inl u9))) : Nat × va_E)).symm
    have hD := va_D_perm hD (lperm (WD cI cO a FA nC nR nL nF par wt (fun r => nI (sk r)) (fun r => nI (fk r)) hd rea sig) (WF FA (fun k => mc k * 40 + mp k * 4 + mm k) mf md mv nx nF) (WM cI cZ b nC nR nL nF par wt (fun r => nI (sk r)) (fun r => nI (fk r)) mc mp mm mf md mv mder mkn 0) ((ob, .inl (cL, 1, .inr (.inl u9))) : Nat × va_E)).symm
    have hag9 : r9 = b9 := by rw [hr9, hw8]; rw [hc9, hp9, hf9]; exact congrArg (fun z => bI (z = true)) (memOff_congr (fun k hk => (hMC h1 h2 h3 (by omega) hp hk).symm))
    have hag := congrArg (fun z : Int32 => if z = 0 then (0 : Int64) else 1) hag9
    refine lv_iload hx hb dL_law_1168 (lv_at hl 1 rfl) ?_
    refine lv_icmp_eq (tgt := 1175) hx hb dL_law_1170 (by decide) (fun c_1170 => ?_) (fun c_1170 => ?_)
    · skip
      refine lv_iload hx hb dL_law_1175 (lv_at hl 1 rfl) ?_
      refine lv_if_ne (tgt := 1199) hx hb dL_law_1177 (by decide) (fun c_1177 => ?_) (fun c_1177 => ?_)
      · skip
        exact absurd c_1177 (by decide)
      · skip
        refine lv_aload_n hx hb dL_law_1180 rfl (lv_at hl 3 rfl) ?_
        refine lv_iconst (v := 0) hx hb dL_law_1181 (by decide) ?_
        refine va_lald hx hb hK hP (11 + nF) 3 (WDR_at) rfl e_in0 dL_law_1182 ?_
        rw [e_z0, hu9, hag]
        refine lv_iload hx hb dL_law_1183 (lv_at hl 0 rfl) ?_
        refine lv_if_eq (tgt := 1192) hx hb dL_law_1185 (by decide) (fun c_1185 => ?_) (fun c_1185 => ?_)
        · skip
          refine lv_lconst (v := 0) hx hb dL_law_1192 (by decide) ?_
          refine W.lcmp hx hb dL_law_1193 ?_
          rw [if_pos c_1185, lg_self]
          refine lv_if_eq (tgt := 1199) hx hb dL_law_1194 (by decide) (fun c_1194 => ?_) (fun c_1194 => ?_)
          · skip
            refine lv_goto (tgt := 1413) hx hb dL_law_1199 (by decide) ?_
            refine W.widen (k := cells + 4) (n := slots + 24) (by omega) (by omega) ?_
            exact kk _ _ _ ⟨FA, nC, nR, nL, nF, par, wt, sk, fk, hd, rea, sig, mc, mp, mm, mf, md, mv, nx, mder, mkn, 0, u9, L, hOk, hP, hD⟩ hS (lv_sub hl [2, 3, 4, 5, 6] rfl)
          · skip
            exact absurd c_1194 (by decide)
        · skip
          refine lv_lconst (v := 1) hx hb dL_law_1188 (by decide) ?_
          refine lv_goto (tgt := 1193) hx hb dL_law_1189 (by decide) ?_
          refine W.lcmp hx hb dL_law_1193 ?_
          rw [if_neg c_1185, lg_self]
          refine lv_if_eq (tgt := 1199) hx hb dL_law_1194 (by decide) (fun c_1194 => ?_) (fun c_1194 => ?_)
          · skip
            refine lv_goto (tgt := 1413) hx hb dL_law_1199 (by decide) ?_
            refine W.widen (k := cells + 4) (n := slots + 24) (by omega) (by omega) ?_
            exact kk _ _ _ ⟨FA, nC, nR, nL, nF, par, wt, sk, fk, hd, rea, sig, mc, mp, mm, mf, md, mv, nx, mder, mkn, 0, u9, L, hOk, hP, hD⟩ hS (lv_sub hl [2, 3, 4, 5, 6] rfl)
          · skip
            exact absurd c_1194 (by decide)
    · skip
      exact absurd c_1170 (by decide)
  · skip
    have hB9 : va_P D vwCl (WD cI cO a FA nC nR nL nF par wt (fun r => nI (sk r)) (fun r => nI (fk r)) hd rea sig ++ (WF FA (fun k => mc k * 40 + mp k * 4 + mm k) mf md mv nx nF ++ ((ob, .inl (cL, 1, .inr (.inl u9))) : Nat × va_E) :: WM cI cZ b nC nR nL nF par wt (fun r => nI (sk r)) (fun r => nI (fk r)) mc mp mm mf md mv mder mkn thr)) H ∧ va_D A (WD cI cO a FA nC nR nL nF par wt (fun r => nI (sk r)) (fun r => nI (fk r)) hd rea sig ++ (WF FA (fun k => mc k * 40 + mp k * 4 + mm k) mf md mv nx nF ++ ((ob, .inl (cL, 1, .inr (.inl u9))) : Nat × va_E) :: WM cI cZ b nC nR nL nF par wt (fun r => nI (sk r)) (fun r => nI (fk r)) mc mp mm mf md mv mder mkn thr)) := hB9
    obtain ⟨hP, hD⟩ := hB9
    refine lv_istore (lv' := [(5, .int 1), (4, .int (nI i)), (3, .ref ob), (2, .ref (b 0)), (1, .ref (a 0)), (0, .ref b0)]) hx hb dL_law_1138 hl (by decide) rfl (fun ls hl => ?_)
    refine lv_aload_n hx hb dL_law_1140 rfl (lv_at hl 3 rfl) ?_
    refine lv_aload_n hx hb dL_law_1141 rfl (lv_at hl 5 rfl) ?_
    refine lv_iload hx hb dL_law_1142 (lv_at hl 1 rfl) ?_
    refine lv_iconst (v := 1) hx hb dL_law_1144 (by decide) ?_
    refine lv_iadd hx hb dL_law_1145 ?_
    refine lv_topi (fun dv edv => ?_)
    obtain rfl : dv = nI (i + 1) := by rw [edv]; exact nI_add i 1
    refine va_sld hx hb hX hb0 hbA hS (vp_in_nI (n := (i + 1)) (by omega) (by omega)) dL_law_1146 ?_
    rw [nI_clamp (by omega)]
    refine lv_aload_n hx hb dL_law_1147 rfl (lv_at hl 5 rfl) ?_
    refine lv_iload hx hb dL_law_1148 (lv_at hl 1 rfl) ?_
    refine lv_iconst (v := 2) hx hb dL_law_1150 (by decide) ?_
    refine lv_iadd hx hb dL_law_1151 ?_
    refine lv_topi (fun dv edv => ?_)
    obtain rfl : dv = nI (i + 2) := by rw [edv]; exact nI_add i 2
    refine va_sld hx hb hX hb0 hbA hS (vp_in_nI (n := (i + 2)) (by omega) (by omega)) dL_law_1152 ?_
    rw [nI_clamp (by omega)]
    refine lv_aload_n hx hb dL_law_1153 rfl (lv_at hl 5 rfl) ?_
    refine lv_iload hx hb dL_law_1154 (lv_at hl 1 rfl) ?_
    refine lv_iconst (v := 3) hx hb dL_law_1156 (by decide) ?_
    refine lv_iadd hx hb dL_law_1157 ?_
    refine lv_topi (fun dv edv => ?_)
    obtain rfl : dv = nI (i + 3) := by rw [edv]; exact nI_add i 3
    refine va_sld hx hb hX hb0 hbA hS (vp_in_nI (n := (i + 3)) (by omega) (by omega)) dL_law_1158 ?_
    rw [nI_clamp (by omega)]
    have hP := va_P_perm hP (lperm (WD cI cO a FA nC nR nL nF par wt (fun r => nI (sk r)) (fun r => nI (fk r)) hd rea sig) (WF FA (fun k => mc k * 40 + mp k * 4 + mm k) mf md mv nx nF) (WM cI cZ b nC nR nL nF par wt (fun r => nI (sk r)) (fun r => nI (fk r)) mc mp mm mf md mv mder mkn thr) ((ob, .inl (cL, 1, .inr (.inl u9))) : Nat × va_E))
    have hD := va_D_perm hD (lperm (WD cI cO a FA nC nR nL nF par wt (fun r => nI (sk r)) (fun r => nI (fk r)) hd rea sig) (WF FA (fun k => mc k * 40 + mp k * 4 + mm k) mf md mv nx nF) (WM cI cZ b nC nR nL nF par wt (fun r => nI (sk r)) (fun r => nI (fk r)) mc mp mm mf md mv mder mkn thr) ((ob, .inl (cL, 1, .inr (.inl u9))) : Nat × va_E))
    refine va_calli (va_runV (As := [.int (xs (i + 1)), .int (xs (i + 2)), .int (xs (i + 3))]) (rest := []) ⟨hx, hb, hml, hown, hts⟩ (c5_areMembersOff_1 l D cI cZ cO cL dt A b nC nR nL nF par wt (fun r => nI (sk r)) (fun r => nI (fk r)) mc mp mm mf md mv mder mkn thr (WD cI cO a FA nC nR nL nF par wt (fun r => nI (sk r)) (fun r => nI (fk r)) hd rea sig ++ (WF FA (fun k => mc k * 40 + mp k * 4 + mm k) mf md mv nx nF ++ [((ob, .inl (cL, 1, .inr (.inl u9))) : Nat × va_E)])) (xs (i + 1)) (xs (i + 2)) (xs (i + 3)) (kNo_ask hC12 hL8 hR9)) (cwV 3 hts gL_law_X5_areMembersOff rfl rfl rfl (by decide +kernel) ⟨(Nat.le_of_ble_eq_true rfl), (Nat.le_of_ble_eq_true rfl)⟩) (gP.v (hg.on hS) hP 4 rfl 0 rfl ⟨hP, hD⟩) rfl rfl hl.1 rfl (lv_room (Nat.le_of_ble_eq_true rfl)) dL_law_1159 ⟨by show cells + 3 + 0 ≤ 601024; omega, by show slots + 18 + 0 ≤ 7293034; omega⟩) hS (fun q _ h => h) (fun q h => h) (fun b9 u8 t8 H locs ht8 hvm8 hw8 hB8 hz8 hk8 hS => ?_)
    rw [ht8] at hB8
    obtain ⟨hP, hD⟩ := hB8
    have hP : va_P D vwCl (WM cI cZ b nC nR nL nF par wt (fun r => nI (sk r)) (fun r => nI (fk r)) mc mp mm mf md mv mder mkn 1 ++ (WD cI cO a FA nC nR nL nF par wt (fun r => nI (sk r)) (fun r => nI (fk r)) hd rea sig ++ (WF FA (fun k => mc k * 40 + mp k * 4 + mm k) mf md mv nx nF ++ [((ob, .inl (cL, 1, .inr (.inl u9))) : Nat × va_E)]))) H := hP
    have hD : va_D A (WM cI cZ b nC nR nL nF par wt (fun r => nI (sk r)) (fun r => nI (fk r)) mc mp mm mf md mv mder mkn 1 ++ (WD cI cO a FA nC nR nL nF par wt (fun r => nI (sk r)) (fun r => nI (fk r)) hd rea sig ++ (WF FA (fun k => mc k * 40 + mp k * 4 + mm k) mf md mv nx nF ++ [((ob, .inl (cL, 1, .inr (.inl u9))) : Nat × va_E)]))) := hD
    refine lv_istore (lv' := [(6, .int b9), (5, .int 1), (4, .int (nI i)), (3, .ref ob), (2, .ref (b 0)), (1, .ref (a 0)), (0, .ref b0)]) hx hb dL_law_1162 hl (by decide) rfl (fun ls hl => ?_)
    refine lv_aload_n hx hb dL_law_1164 rfl (lv_at hl 4 rfl) ?_
    refine g_csi (va_runV (As := []) (rest := []) ⟨hx, hb, hml, hown, hts⟩ (c5_thrown l D cI cZ cO cL dt A b nC nR nL nF par wt (fun r => nI (sk r)) (fun r => nI (fk r)) mc mp mm mf md mv mder mkn 1 (WD cI cO a FA nC nR nL nF par wt (fun r => nI (sk r)) (fun r => nI (fk r)) hd rea sig ++ (WF FA (fun k => mc k * 40 + mp k * 4 + mm k) mf md mv nx nF ++ [((ob, .inl (cL, 1, .inr (.inl u9))) : Nat × va_E)]))) (cwV 0 hts gL_law_X5_thrown rfl rfl rfl (by decide +kernel) ⟨(Nat.le_of_ble_eq_true rfl), (Nat.le_of_ble_eq_true rfl)⟩) (gP.v (hg.on hS) hP 4 rfl 0 rfl hP) rfl rfl hl.1 rfl (lv_room (Nat.le_of_ble_eq_true rfl)) dL_law_1165 ⟨by show cells + 3 + 0 + 0 ≤ 601024; omega, by show slots + 18 + 0 + 0 ≤ 7293034; omega⟩) (fun t7 ht7 => ?_)
    obtain rfl : t7 = 1 := ht7
    have hP := va_P_perm hP (lperm (WD cI cO a FA nC nR nL nF par wt (fun r => nI (sk r)) (fun r => nI (fk r)) hd rea sig) (WF FA (fun k => mc k * 40 + mp k * 4 + mm k) mf md mv nx nF) (WM cI cZ b nC nR nL nF par wt (fun r => nI (sk r)) (fun r => nI (fk r)) mc mp mm mf md mv mder mkn 1) ((ob, .inl (cL, 1, .inr (.inl u9))) : Nat × va_E)).symm
    have hD := va_D_perm hD (lperm (WD cI cO a FA nC nR nL nF par wt (fun r => nI (sk r)) (fun r => nI (fk r)) hd rea sig) (WF FA (fun k => mc k * 40 + mp k * 4 + mm k) mf md mv nx nF) (WM cI cZ b nC nR nL nF par wt (fun r => nI (sk r)) (fun r => nI (fk r)) mc mp mm mf md mv mder mkn 1) ((ob, .inl (cL, 1, .inr (.inl u9))) : Nat × va_E)).symm
    refine lv_iload hx hb dL_law_1168 (lv_at hl 1 rfl) ?_
    refine lv_icmp_eq (tgt := 1175) hx hb dL_law_1170 (by decide) (fun c_1170 => ?_) (fun c_1170 => ?_)
    · skip
      refine lv_iload hx hb dL_law_1175 (lv_at hl 1 rfl) ?_
      refine lv_if_ne (tgt := 1199) hx hb dL_law_1177 (by decide) (fun c_1177 => ?_) (fun c_1177 => ?_)
      · skip
        refine lv_goto (tgt := 1413) hx hb dL_law_1199 (by decide) ?_
        refine W.widen (k := cells + 4) (n := slots + 24) (by omega) (by omega) ?_
        exact kk _ _ _ ⟨FA, nC, nR, nL, nF, par, wt, sk, fk, hd, rea, sig, mc, mp, mm, mf, md, mv, nx, mder, mkn, 1, u9, L, hOk, hP, hD⟩ hS (lv_sub hl [2, 3, 4, 5, 6] rfl)
      · skip
        exact absurd c_1177 (by decide)
    · skip
      exact absurd c_1170 (by decide)
