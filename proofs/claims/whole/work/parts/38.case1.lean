set_option maxHeartbeats 4000000 in
set_option maxRecDepth 100000 in
/-- the case of addConcept -/
theorem lw_addConcept (l : Launch) (hlt : l.stackTraces = false) {D : va_G} {cI cZ cO cL : ClassId} {dt : Nat} {A : Nat → Prop} {a b : Nat → Nat} {ob b0 i Ls cells slots : Nat} {xs : Nat → Int32} {p9 : Program} {e9 : Env} {s : State} {m9 : MethodId} {args : Array Value} {below : List Frame} {meth : Method} {c9 : Code} {H : Heap} {locs : List Loc} {ls : Array Slot} {Q : State → Prop}
    (hx : p9.tables.exec = Jvm.exec) (hb : c9.code = cL_law) (hml : c9.maxLocals = 7) (hown : s.vm.findClass RL = some m9.cls) (hts : ∀ w ∈ wsL_law, w.before args s = true) (hg : gG D cI cZ cO cL dt A s s.heap) (hX : va_X b0 Ls xs s s.heap) (hb0 : b0 < s.heap.size) (hbA : ¬ A b0) (hi : i + 6 ≤ Ls) (hLs : Ls ≤ 3072)
    (hI : lInv D cI cZ cO cL A a b ob H) (hS : va_S A s.heap H locs) (hl : lv_has ls 7 [(4, .int (nI i)), (3, .ref ob), (2, .ref (b 0)), (1, .ref (a 0)), (0, .ref b0)]) (hcc : cells + 4 ≤ 601024) (hss : slots + 24 ≤ 7293034)
    (kk : ∀ (H : Heap) (locs : List Loc) (ls : Array Slot), lInv D cI cZ cO cL A a b ob H → va_S A s.heap H locs → lv_has ls 7 [(4, .int (nI i)), (3, .ref ob), (2, .ref (b 0)), (1, .ref (a 0)), (0, .ref b0)] → W p9 l e9 room_1 s m9 args below meth c9 H locs (cells + 4) (slots + 24) Q (F0 m9 1413 ls [])) :
    W p9 l e9 room_1 s m9 args below meth c9 H locs cells slots Q (F0 m9 124 ls []) := by
  obtain ⟨FA, nC, nR, nL, nF, par, wt, sk, fk, hd, rea, sig, mc, mp, mm, mf, md, mv, nx, mder, mkn, thr, ov, L, hOk, hP, hD⟩ := hI
  obtain ⟨⟨hC12, hR5, hL8, hF⟩, ⟨hT, hwt⟩, ⟨hsk12, hfk12, hskC⟩, ⟨hCh, hH, hN, hfL⟩, h1, h2, h3, h4, hmd, hmv, h7⟩ := id hOk
  have hK := hg.1
  have hck : ∀ k, mc k * 40 + mp k * 4 + mm k < 480 := fun k => by have := h1 k; have := h2 k; have := h3 k; omega
  have hcf : ∀ k, mf k < 2 ^ 31 := fun k => by have := h4 k; omega
  have hmd31 : ∀ k, md k < 2 ^ 31 := fun k => by have := hmd k; omega
  have hP : va_P D vwCl (WD cI cO a FA nC nR nL nF par wt (fun r => nI (sk r)) (fun r => nI (fk r)) hd rea sig ++ (WF FA (fun k => mc k * 40 + mp k * 4 + mm k) mf md mv nx nF ++ ((ob, .inl (cL, 1, .inr (.inl ov))) : Nat × va_E) :: WM cI cZ b nC nR nL nF par wt (fun r => nI (sk r)) (fun r => nI (fk r)) mc mp mm mf md mv mder mkn thr)) H := hP
  have hD : va_D A (WD cI cO a FA nC nR nL nF par wt (fun r => nI (sk r)) (fun r => nI (fk r)) hd rea sig ++ (WF FA (fun k => mc k * 40 + mp k * 4 + mm k) mf md mv nx nF ++ ((ob, .inl (cL, 1, .inr (.inl ov))) : Nat × va_E) :: WM cI cZ b nC nR nL nF par wt (fun r => nI (sk r)) (fun r => nI (fk r)) mc mp mm mf md mv mder mkn thr)) := hD
  refine lv_aload_n hx hb dL_law_124 rfl (lv_at hl 3 rfl) ?_
  refine lv_aload_n hx hb dL_law_125 rfl (lv_at hl 1 rfl) ?_
  refine va_calli (vx_runSW (hh := [(0, 8, 11, 13)]) (As := [.ref (a 0), .ref ob]) (rest := []) ⟨hx, hb, hml, hown, hts⟩ (kL_addConcept l D cI cZ cO cL dt A a FA nC nR nL nF par wt (fun r => nI (sk r)) (fun r => nI (fk r)) hd rea sig (fun k => mc k * 40 + mp k * 4 + mm k) mf md mv nx (WM cI cZ b nC nR nL nF par wt (fun r => nI (sk r)) (fun r => nI (fk r)) mc mp mm mf md mv mder mkn thr) ob ov hlt hC12 hL8) (vx_cwSW 2 hts gL_law_L_addConcept rfl rfl rfl (by decide +kernel) ⟨(Nat.le_of_ble_eq_true rfl), (Nat.le_of_ble_eq_true rfl)⟩) (gP.s (hg.on hS) ⟨hP, hD⟩) rfl rfl hl.1 rfl (lv_room (Nat.le_of_ble_eq_true rfl)) dL_law_126 ⟨by show cells + 1 ≤ 601024; omega, by show slots + 6 ≤ 7293034; omega⟩) hS (fun q _ h => h) (fun q h => h) (fun k9 u9 t9 H locs ht9 hvm9 hw9 hB9 hz9 hk9 hS => ?_)
  rw [ht9] at hB9
  obtain ⟨ov9, ux⟩ := u9
  rcases hw9 with ⟨rfl, r9, x, hx9, hu9, hpost⟩ | ⟨hx9, ⟨rfl, hR9⟩⟩
  · skip
    obtain rfl : ux = some x := hx9
    have hu9 : ov9 0 = _ := hu9
    have hB9 : va_P D vwCl (WD cI cO a FA (nC + 1) nR nL nF (upd par nC (-1)) wt (fun r => nI (sk r)) (fun r => nI (fk r)) hd rea sig ++ (WF FA (fun k => mc k * 40 + mp k * 4 + mm k) mf md mv nx nF ++ ((ob, .inl (cL, 1, .inr (.inl ov9))) : Nat × va_E) :: WM cI cZ b nC nR nL nF par wt (fun r => nI (sk r)) (fun r => nI (fk r)) mc mp mm mf md mv mder mkn thr)) H ∧ va_D A (WD cI cO a FA (nC + 1) nR nL nF (upd par nC (-1)) wt (fun r => nI (sk r)) (fun r => nI (fk r)) hd rea sig ++ (WF FA (fun k => mc k * 40 + mp k * 4 + mm k) mf md mv nx nF ++ ((ob, .inl (cL, 1, .inr (.inl ov9))) : Nat × va_E) :: WM cI cZ b nC nR nL nF par wt (fun r => nI (sk r)) (fun r => nI (fk r)) mc mp mm mf md mv mder mkn thr)) := hB9
    obtain ⟨hP, hD⟩ := hB9
    obtain ⟨h12, rfl⟩ := hpost
    refine lv_istore (lv' := [(5, .int 0), (4, .int (nI i)), (3, .ref ob), (2, .ref (b 0)), (1, .ref (a 0)), (0, .ref b0)]) hx hb dL_law_129 hl (by decide) rfl (fun ls hl => ?_)
    refine lv_aload_n hx hb dL_law_131 rfl (lv_at hl 3 rfl) ?_
    have hP := va_P_perm hP (lperm (WD cI cO a FA (nC + 1) nR nL nF (upd par nC (-1)) wt (fun r => nI (sk r)) (fun r => nI (fk r)) hd rea sig) (WF FA (fun k => mc k * 40 + mp k * 4 + mm k) mf md mv nx nF) (WM cI cZ b nC nR nL nF par wt (fun r => nI (sk r)) (fun r => nI (fk r)) mc mp mm mf md mv mder mkn thr) ((ob, .inl (cL, 1, .inr (.inl ov9))) : Nat × va_E))
    have hD := va_D_perm hD (lperm (WD cI cO a FA (nC + 1) nR nL nF (upd par nC (-1)) wt (fun r => nI (sk r)) (fun r => nI (fk r)) hd rea sig) (WF FA (fun k => mc k * 40 + mp k * 4 + mm k) mf md mv nx nF) (WM cI cZ b nC nR nL nF par wt (fun r => nI (sk r)) (fun r => nI (fk r)) mc mp mm mf md mv mder mkn thr) ((ob, .inl (cL, 1, .inr (.inl ov9))) : Nat × va_E))
    refine va_calli (va_runV (As := []) (rest := []) ⟨hx, hb, hml, hown, hts⟩ (c5_addConcept_0 l D cI cZ cO cL dt A b nC nR nL nF par wt (fun r => nI (sk r)) (fun r => nI (fk r)) mc mp mm mf md mv mder mkn thr (WD cI cO a FA (nC + 1) nR nL nF (upd par nC (-1)) wt (fun r => nI (sk r)) (fun r => nI (fk r)) hd rea sig ++ (WF FA (fun k => mc k * 40 + mp k * 4 + mm k) mf md mv nx nF ++ [((ob, .inl (cL, 1, .inr (.inl ov9))) : Nat × va_E)])) h12) (cwV 0 hts gL_law_X5_addConcept rfl rfl rfl (by decide +kernel) ⟨(Nat.le_of_ble_eq_true rfl), (Nat.le_of_ble_eq_true rfl)⟩) (gP.v (hg.on hS) hP 4 rfl 0 rfl ⟨hP, hD⟩) rfl rfl hl.1 rfl (lv_room (Nat.le_of_ble_eq_true rfl)) dL_law_132 ⟨by show cells + 1 + 0 ≤ 601024; omega, by show slots + 6 + 0 ≤ 7293034; omega⟩) hS (fun q _ h => h) (fun q h => h) (fun b9 u8 t8 H locs ht8 hvm8 hw8 hB8 hz8 hk8 hS => ?_)
    rw [ht8] at hB8
    obtain ⟨hP, hD⟩ := hB8
    have hP : va_P D vwCl (WM cI cZ b (nC + 1) nR nL nF (upd par nC (-1)) wt (fun r => nI (sk r)) (fun r => nI (fk r)) mc mp mm mf md mv mder mkn 0 ++ (WD cI cO a FA (nC + 1) nR nL nF (upd par nC (-1)) wt (fun r => nI (sk r)) (fun r => nI (fk r)) hd rea sig ++ (WF FA (fun k => mc k * 40 + mp k * 4 + mm k) mf md mv nx nF ++ [((ob, .inl (cL, 1, .inr (.inl ov9))) : Nat × va_E)]))) H := hP
    have hD : va_D A (WM cI cZ b (nC + 1) nR nL nF (upd par nC (-1)) wt (fun r => nI (sk r)) (fun r => nI (fk r)) mc mp mm mf md mv mder mkn 0 ++ (WD cI cO a FA (nC + 1) nR nL nF (upd par nC (-1)) wt (fun r => nI (sk r)) (fun r => nI (fk r)) hd rea sig ++ (WF FA (fun k => mc k * 40 + mp k * 4 + mm k) mf md mv nx nF ++ [((ob, .inl (cL, 1, .inr (.inl ov9))) : Nat × va_E)]))) := hD
    refine lv_istore (lv' := [(6, .int b9), (5, .int 0), (4, .int (nI i)), (3, .ref ob), (2, .ref (b 0)), (1, .ref (a 0)), (0, .ref b0)]) hx hb dL_law_135 hl (by decide) rfl (fun ls hl => ?_)
    refine lv_aload_n hx hb dL_law_137 rfl (lv_at hl 4 rfl) ?_
    refine g_csi (va_runV (As := []) (rest := []) ⟨hx, hb, hml, hown, hts⟩ (c5_thrown l D cI cZ cO cL dt A b (nC + 1) nR nL nF (upd par nC (-1)) wt (fun r => nI (sk r)) (fun r => nI (fk r)) mc mp mm mf md mv mder mkn 0 (WD cI cO a FA (nC + 1) nR nL nF (upd par nC (-1)) wt (fun r => nI (sk r)) (fun r => nI (fk r)) hd rea sig ++ (WF FA (fun k => mc k * 40 + mp k * 4 + mm k) mf md mv nx nF ++ [((ob, .inl (cL, 1, .inr (.inl ov9))) : Nat × va_E)]))) (cwV 0 hts gL_law_X5_thrown rfl rfl rfl (by decide +kernel) ⟨(Nat.le_of_ble_eq_true rfl), (Nat.le_of_ble_eq_true rfl)⟩) (gP.v (hg.on hS) hP 4 rfl 0 rfl hP) rfl rfl hl.1 rfl (lv_room (Nat.le_of_ble_eq_true rfl)) dL_law_138 ⟨by show cells + 1 + 0 + 0 ≤ 601024; omega, by show slots + 6 + 0 + 0 ≤ 7293034; omega⟩) (fun t7 ht7 => ?_)
    obtain rfl : t7 = 0 := ht7
    have hP := va_P_perm hP (lperm (WD cI cO a FA (nC + 1) nR nL nF (upd par nC (-1)) wt (fun r => nI (sk r)) (fun r => nI (fk r)) hd rea sig) (WF FA (fun k => mc k * 40 + mp k * 4 + mm k) mf md mv nx nF) (WM cI cZ b (nC + 1) nR nL nF (upd par nC (-1)) wt (fun r => nI (sk r)) (fun r => nI (fk r)) mc mp mm mf md mv mder mkn 0) ((ob, .inl (cL, 1, .inr (.inl ov9))) : Nat × va_E)).symm
    have hD := va_D_perm hD (lperm (WD cI cO a FA (nC + 1) nR nL nF (upd par nC (-1)) wt (fun r => nI (sk r)) (fun r => nI (fk r)) hd rea sig) (WF FA (fun k => mc k * 40 + mp k * 4 + mm k) mf md mv nx nF) (WM cI cZ b (nC + 1) nR nL nF (upd par nC (-1)) wt (fun r => nI (sk r)) (fun r => nI (fk r)) mc mp mm mf md mv mder mkn 0) ((ob, .inl (cL, 1, .inr (.inl ov9))) : Nat × va_E)).symm
    have hag : (nI nC).toInt64 = b9.toInt64 := by rw [hw8]
    refine lv_iload hx hb dL_law_141 (lv_at hl 1 rfl) ?_
    refine lv_icmp_eq (tgt := 148) hx hb dL_law_143 (by decide) (fun c_143 => ?_) (fun c_143 => ?_)
    · skip
      refine lv_iload hx hb dL_law_148 (lv_at hl 1 rfl) ?_
      refine lv_if_ne (tgt := 165) hx hb dL_law_150 (by decide) (fun c_150 => ?_) (fun c_150 => ?_)
      · skip
        exact absurd c_150 (by decide)
      · skip
        refine lv_aload_n hx hb dL_law_153 rfl (lv_at hl 3 rfl) ?_
        refine lv_iconst (v := 0) hx hb dL_law_154 (by decide) ?_
        refine va_lald hx hb hK hP (11 + nF) 3 (WDR_at) rfl e_in0 dL_law_155 ?_
        rw [e_z0, hu9, hag]
        refine lv_iload hx hb dL_law_156 (lv_at hl 0 rfl) ?_
        refine lv_i2l (v := (b9).toInt64) hx hb dL_law_158 rfl ?_
        refine W.lcmp hx hb dL_law_159 ?_
        rw [lg_self]
        refine lv_if_eq (tgt := 165) hx hb dL_law_160 (by decide) (fun c_160 => ?_) (fun c_160 => ?_)
        · skip
          refine lv_goto (tgt := 1413) hx hb dL_law_165 (by decide) ?_
          refine W.widen (k := cells + 4) (n := slots + 24) (by omega) (by omega) ?_
          exact kk _ _ _ ⟨FA, (nC + 1), nR, nL, nF, (upd par nC (-1)), wt, sk, fk, hd, rea, sig, mc, mp, mm, mf, md, mv, nx, mder, mkn, 0, ov9, (nC :: L), lOk_add hOk h12, hP, hD⟩ hS (lv_sub hl [2, 3, 4, 5, 6] rfl)
        · skip
          exact absurd c_160 (by decide)
    · skip
      exact absurd c_143 (by decide)
  · skip
    obtain rfl : ux = none := hx9
    have hB9 : va_P D vwCl (WD cI cO a FA nC nR nL nF par wt (fun r => nI (sk r)) (fun r => nI (fk r)) hd rea sig ++ (WF FA (fun k => mc k * 40 + mp k * 4 + mm k) mf md mv nx nF ++ ((ob, .inl (cL, 1, .inr (.inl ov9))) : Nat × va_E) :: WM cI cZ b nC nR nL nF par wt (fun r => nI (sk r)) (fun r => nI (fk r)) mc mp mm mf md mv mder mkn thr)) H ∧ va_D A (WD cI cO a FA nC nR nL nF par wt (fun r => nI (sk r)) (fun r => nI (fk r)) hd rea sig ++ (WF FA (fun k => mc k * 40 + mp k * 4 + mm k) mf md mv nx nF ++ ((ob, .inl (cL, 1, .inr (.inl ov9))) : Nat × va_E) :: WM cI cZ b nC nR nL nF par wt (fun r => nI (sk r)) (fun r => nI (fk r)) mc mp mm mf md mv mder mkn thr)) := hB9
    obtain ⟨hP, hD⟩ := hB9
    refine lv_istore (lv' := [(5, .int 1), (4, .int (nI i)), (3, .ref ob), (2, .ref (b 0)), (1, .ref (a 0)), (0, .ref b0)]) hx hb dL_law_129 hl (by decide) rfl (fun ls hl => ?_)
    refine lv_aload_n hx hb dL_law_131 rfl (lv_at hl 3 rfl) ?_
    have hP := va_P_perm hP (lperm (WD cI cO a FA nC nR nL nF par wt (fun r => nI (sk r)) (fun r => nI (fk r)) hd rea sig) (WF FA (fun k => mc k * 40 + mp k * 4 + mm k) mf md mv nx nF) (WM cI cZ b nC nR nL nF par wt (fun r => nI (sk r)) (fun r => nI (fk r)) mc mp mm mf md mv mder mkn thr) ((ob, .inl (cL, 1, .inr (.inl ov9))) : Nat × va_E))
    have hD := va_D_perm hD (lperm (WD cI cO a FA nC nR nL nF par wt (fun r => nI (sk r)) (fun r => nI (fk r)) hd rea sig) (WF FA (fun k => mc k * 40 + mp k * 4 + mm k) mf md mv nx nF) (WM cI cZ b nC nR nL nF par wt (fun r => nI (sk r)) (fun r => nI (fk r)) mc mp mm mf md mv mder mkn thr) ((ob, .inl (cL, 1, .inr (.inl ov9))) : Nat × va_E))
    refine va_calli (va_runV (As := []) (rest := []) ⟨hx, hb, hml, hown, hts⟩ (c5_addConcept_1 l D cI cZ cO cL dt A b nC nR nL nF par wt (fun r => nI (sk r)) (fun r => nI (fk r)) mc mp mm mf md mv mder mkn thr (WD cI cO a FA nC nR nL nF par wt (fun r => nI (sk r)) (fun r => nI (fk r)) hd rea sig ++ (WF FA (fun k => mc k * 40 + mp k * 4 + mm k) mf md mv nx nF ++ [((ob, .inl (cL, 1, .inr (.inl ov9))) : Nat × va_E)])) (by omega)) (cwV 0 hts gL_law_X5_addConcept rfl rfl rfl (by decide +kernel) ⟨(Nat.le_of_ble_eq_true rfl), (Nat.le_of_ble_eq_true rfl)⟩) (gP.v (hg.on hS) hP 4 rfl 0 rfl ⟨hP, hD⟩) rfl rfl hl.1 rfl (lv_room (Nat.le_of_ble_eq_true rfl)) dL_law_132 ⟨by show cells + 1 + 0 ≤ 601024; omega, by show slots + 6 + 0 ≤ 7293034; omega⟩) hS (fun q _ h => h) (fun q h => h) (fun b9 u8 t8 H locs ht8 hvm8 hw8 hB8 hz8 hk8 hS => ?_)
    rw [ht8] at hB8
    obtain ⟨hP, hD⟩ := hB8
    have hP : va_P D vwCl (WM cI cZ b nC nR nL nF par wt (fun r => nI (sk r)) (fun r => nI (fk r)) mc mp mm mf md mv mder mkn 1 ++ (WD cI cO a FA nC nR nL nF par wt (fun r => nI (sk r)) (fun r => nI (fk r)) hd rea sig ++ (WF FA (fun k => mc k * 40 + mp k * 4 + mm k) mf md mv nx nF ++ [((ob, .inl (cL, 1, .inr (.inl ov9))) : Nat × va_E)]))) H := hP
    have hD : va_D A (WM cI cZ b nC nR nL nF par wt (fun r => nI (sk r)) (fun r => nI (fk r)) mc mp mm mf md mv mder mkn 1 ++ (WD cI cO a FA nC nR nL nF par wt (fun r => nI (sk r)) (fun r => nI (fk r)) hd rea sig ++ (WF FA (fun k => mc k * 40 + mp k * 4 + mm k) mf md mv nx nF ++ [((ob, .inl (cL, 1, .inr (.inl ov9))) : Nat × va_E)]))) := hD
    refine lv_istore (lv' := [(6, .int b9), (5, .int 1), (4, .int (nI i)), (3, .ref ob), (2, .ref (b 0)), (1, .ref (a 0)), (0, .ref b0)]) hx hb dL_law_135 hl (by decide) rfl (fun ls hl => ?_)
    refine lv_aload_n hx hb dL_law_137 rfl (lv_at hl 4 rfl) ?_
    refine g_csi (va_runV (As := []) (rest := []) ⟨hx, hb, hml, hown, hts⟩ (c5_thrown l D cI cZ cO cL dt A b nC nR nL nF par wt (fun r => nI (sk r)) (fun r => nI (fk r)) mc mp mm mf md mv mder mkn 1 (WD cI cO a FA nC nR nL nF par wt (fun r => nI (sk r)) (fun r => nI (fk r)) hd rea sig ++ (WF FA (fun k => mc k * 40 + mp k * 4 + mm k) mf md mv nx nF ++ [((ob, .inl (cL, 1, .inr (.inl ov9))) : Nat × va_E)]))) (cwV 0 hts gL_law_X5_thrown rfl rfl rfl (by decide +kernel) ⟨(Nat.le_of_ble_eq_true rfl), (Nat.le_of_ble_eq_true rfl)⟩) (gP.v (hg.on hS) hP 4 rfl 0 rfl hP) rfl rfl hl.1 rfl (lv_room (Nat.le_of_ble_eq_true rfl)) dL_law_138 ⟨by show cells + 1 + 0 + 0 ≤ 601024; omega, by show slots + 6 + 0 + 0 ≤ 7293034; omega⟩) (fun t7 ht7 => ?_)
    obtain rfl : t7 = 1 := ht7
    have hP := va_P_perm hP (lperm (WD cI cO a FA nC nR nL nF par wt (fun r => nI (sk r)) (fun r => nI (fk r)) hd rea sig) (WF FA (fun k => mc k * 40 + mp k * 4 + mm k) mf md mv nx nF) (WM cI cZ b nC nR nL nF par wt (fun r => nI (sk r)) (fun r => nI (fk r)) mc mp mm mf md mv mder mkn 1) ((ob, .inl (cL, 1, .inr (.inl ov9))) : Nat × va_E)).symm
    have hD := va_D_perm hD (lperm (WD cI cO a FA nC nR nL nF par wt (fun r => nI (sk r)) (fun r => nI (fk r)) hd rea sig) (WF FA (fun k => mc k * 40 + mp k * 4 + mm k) mf md mv nx nF) (WM cI cZ b nC nR nL nF par wt (fun r => nI (sk r)) (fun r => nI (fk r)) mc mp mm mf md mv mder mkn 1) ((ob, .inl (cL, 1, .inr (.inl ov9))) : Nat × va_E)).symm
    refine lv_iload hx hb dL_law_141 (lv_at hl 1 rfl) ?_
    refine lv_icmp_eq (tgt := 148) hx hb dL_law_143 (by decide) (fun c_143 => ?_) (fun c_143 => ?_)
    · skip
      refine lv_iload hx hb dL_law_148 (lv_at hl 1 rfl) ?_
      refine lv_if_ne (tgt := 165) hx hb dL_law_150 (by decide) (fun c_150 => ?_) (fun c_150 => ?_)
      · skip
        refine lv_goto (tgt := 1413) hx hb dL_law_165 (by decide) ?_
        refine W.widen (k := cells + 4) (n := slots + 24) (by omega) (by omega) ?_
        exact kk _ _ _ ⟨FA, nC, nR, nL, nF, par, wt, sk, fk, hd, rea, sig, mc, mp, mm, mf, md, mv, nx, mder, mkn, 1, ov9, L, hOk, hP, hD⟩ hS (lv_sub hl [2, 3, 4, 5, 6] rfl)
      · skip
        exact absurd c_150 (by decide)
    · skip
      exact absurd c_143 (by decide)
set_option maxHeartbeats 4000000 in
set_option maxRecDepth 100000 in
/-- the case of value -/
theorem lw_value (l : Launch) (hlt : l.stackTraces = false) {D : va_G} {cI cZ cO cL : ClassId} {dt : Nat} {A : Nat → Prop} {a b : Nat → Nat} {ob b0 i Ls cells slots : Nat} {xs : Nat → Int32} {p9 : Program} {e9 : Env} {s : State} {m9 : MethodId} {args : Array Value} {below : List Frame} {meth : Method} {c9 : Code} {H : Heap} {locs : List Loc} {ls : Array Slot} {Q : State → Prop}
    (hx : p9.tables.exec = Jvm.exec) (hb : c9.code = cL_law) (hml : c9.maxLocals = 7) (hown : s.vm.findClass RL = some m9.cls) (hts : ∀ w ∈ wsL_law, w.before args s = true) (hg : gG D cI cZ cO cL dt A s s.heap) (hX : va_X b0 Ls xs s s.heap) (hb0 : b0 < s.heap.size) (hbA : ¬ A b0) (hi : i + 6 ≤ Ls) (hLs : Ls ≤ 3072)
    (hI : lInv D cI cZ cO cL A a b ob H) (hS : va_S A s.heap H locs) (hl : lv_has ls 7 [(4, .int (nI i)), (3, .ref ob), (2, .ref (b 0)), (1, .ref (a 0)), (0, .ref b0)]) (hcc : cells + 4 ≤ 601024) (hss : slots + 24 ≤ 7293034)
    (kk : ∀ (H : Heap) (locs : List Loc) (ls : Array Slot), lInv D cI cZ cO cL A a b ob H → va_S A s.heap H locs → lv_has ls 7 [(4, .int (nI i)), (3, .ref ob), (2, .ref (b 0)), (1, .ref (a 0)), (0, .ref b0)] → W p9 l e9 room_1 s m9 args below meth c9 H locs (cells + 4) (slots + 24) Q (F0 m9 1413 ls [])) :
    W p9 l e9 room_1 s m9 args below meth c9 H locs cells slots Q (F0 m9 648 ls []) := by
  obtain ⟨FA, nC, nR, nL, nF, par, wt, sk, fk, hd, rea, sig, mc, mp, mm, mf, md, mv, nx, mder, mkn, thr, ov, L, hOk, hP, hD⟩ := hI
  obtain ⟨⟨hC12, hR5, hL8, hF⟩, ⟨hT, hwt⟩, ⟨hsk12, hfk12, hskC⟩, ⟨hCh, hH, hN, hfL⟩, h1, h2, h3, h4, hmd, hmv, h7⟩ := id hOk
  have hK := hg.1
  have hck : ∀ k, mc k * 40 + mp k * 4 + mm k < 480 := fun k => by have := h1 k; have := h2 k; have := h3 k; omega
  have hcf : ∀ k, mf k < 2 ^ 31 := fun k => by have := h4 k; omega
  have hmd31 : ∀ k, md k < 2 ^ 31 := fun k => by have := hmd k; omega
  have hP : va_P D vwCl (WD cI cO a FA nC nR nL nF par wt (fun r => nI (sk r)) (fun r => nI (fk r)) hd rea sig ++ (WF FA (fun k => mc k * 40 + mp k * 4 + mm k) mf md mv nx nF ++ ((ob, .inl (cL, 1, .inr (.inl ov))) : Nat × va_E) :: WM cI cZ b nC nR nL nF par wt (fun r => nI (sk r)) (fun r => nI (fk r)) mc mp mm mf md mv mder mkn thr)) H := hP
  have hD : va_D A (WD cI cO a FA nC nR nL nF par wt (fun r => nI (sk r)) (fun r => nI (fk r)) hd rea sig ++ (WF FA (fun k => mc k * 40 + mp k * 4 + mm k) mf md mv nx nF ++ ((ob, .inl (cL, 1, .inr (.inl ov))) : Nat × va_E) :: WM cI cZ b nC nR nL nF par wt (fun r => nI (sk r)) (fun r => nI (fk r)) mc mp mm mf md mv mder mkn thr)) := hD
  refine lv_aload_n hx hb dL_law_648 rfl (lv_at hl 3 rfl) ?_
  refine lv_aload_n hx hb dL_law_649 rfl (lv_at hl 4 rfl) ?_
  refine lv_iload hx hb dL_law_650 (lv_at hl 0 rfl) ?_
  refine lv_iconst (v := 1) hx hb dL_law_652 (by decide) ?_
  refine lv_iadd hx hb dL_law_653 ?_
  refine lv_topi (fun dv edv => ?_)
  obtain rfl : dv = nI (i + 1) := by rw [edv]; exact nI_add i 1
  refine va_sld hx hb hX hb0 hbA hS (vp_in_nI (n := (i + 1)) (by omega) (by omega)) dL_law_654 ?_
  rw [nI_clamp (by omega)]
  refine lv_aload_n hx hb dL_law_655 rfl (lv_at hl 4 rfl) ?_
  refine lv_iload hx hb dL_law_656 (lv_at hl 0 rfl) ?_
  refine lv_iconst (v := 2) hx hb dL_law_658 (by decide) ?_
  refine lv_iadd hx hb dL_law_659 ?_
  refine lv_topi (fun dv edv => ?_)
  obtain rfl : dv = nI (i + 2) := by rw [edv]; exact nI_add i 2
  refine va_sld hx hb hX hb0 hbA hS (vp_in_nI (n := (i + 2)) (by omega) (by omega)) dL_law_660 ?_
  rw [nI_clamp (by omega)]
  refine lv_aload_n hx hb dL_law_661 rfl (lv_at hl 4 rfl) ?_
  refine lv_iload hx hb dL_law_662 (lv_at hl 0 rfl) ?_
  refine lv_iconst (v := 3) hx hb dL_law_664 (by decide) ?_
  refine lv_iadd hx hb dL_law_665 ?_
  refine lv_topi (fun dv edv => ?_)
  obtain rfl : dv = nI (i + 3) := by rw [edv]; exact nI_add i 3
  refine va_sld hx hb hX hb0 hbA hS (vp_in_nI (n := (i + 3)) (by omega) (by omega)) dL_law_666 ?_
  rw [nI_clamp (by omega)]
  refine lv_aload_n hx hb dL_law_667 rfl (lv_at hl 4 rfl) ?_
  refine lv_iload hx hb dL_law_668 (lv_at hl 0 rfl) ?_
  refine lv_iconst (v := 4) hx hb dL_law_670 (by decide) ?_
  refine lv_iadd hx hb dL_law_671 ?_
  refine lv_topi (fun dv edv => ?_)
  obtain rfl : dv = nI (i + 4) := by rw [edv]; exact nI_add i 4
  refine va_sld hx hb hX hb0 hbA hS (vp_in_nI (n := (i + 4)) (by omega) (by omega)) dL_law_672 ?_
  rw [nI_clamp (by omega)]
  refine lv_aload_n hx hb dL_law_673 rfl (lv_at hl 1 rfl) ?_
  refine va_calli (vx_runSW (hh := [(0, 14, 17, 19), (0, 14, 21, 48)]) (As := [.ref (a 0), .int (xs (i + 1)), .int (xs (i + 2)), .int (xs (i + 3)), .int (xs (i + 4)), .ref ob]) (rest := []) ⟨hx, hb, hml, hown, hts⟩ (kL_value l D cI cZ cO cL dt A a FA nC nR nL nF par wt (fun r => nI (sk r)) (fun r => nI (fk r)) hd rea sig (fun k => mc k * 40 + mp k * 4 + mm k) mf md mv nx (WM cI cZ b nC nR nL nF par wt (fun r => nI (sk r)) (fun r => nI (fk r)) mc mp mm mf md mv mder mkn thr) ob ov (xs (i + 1)) (xs (i + 2)) (xs (i + 3)) (xs (i + 4)) hlt hF hC12 hck hcf hmd hmv hwt hCh hL8) (vx_cwSW 6 hts gL_law_L_value rfl rfl rfl (by decide +kernel) ⟨(Nat.le_of_ble_eq_true rfl), (Nat.le_of_ble_eq_true rfl)⟩) (gP.s (hg.on hS) ⟨hP, hD⟩) rfl rfl hl.1 rfl (lv_room (Nat.le_of_ble_eq_true rfl)) dL_law_674 ⟨by show cells + 4 ≤ 601024; omega, by show slots + 24 ≤ 7293034; omega⟩) hS (fun q _ h => h) (fun q h => h) (fun k9 u9 t9 H locs ht9 hvm9 hw9 hB9 hz9 hk9 hS => ?_)
  rw [ht9] at hB9
  rcases hw9 with ⟨rfl, r9, hu9, hpost⟩ | ⟨rfl, hR9⟩ | ⟨rfl, hR9⟩
  · skip
    have hB9 : va_P D vwCl (WD cI cO a FA nC nR nL nF par wt (fun r => nI (sk r)) (fun r => nI (fk r)) hd rea sig ++ (WF FA (fun k => mc k * 40 + mp k * 4 + mm k) mf md mv nx nF ++ ((ob, .inl (cL, 1, .inr (.inl u9))) : Nat × va_E) :: WM cI cZ b nC nR nL nF par wt (fun r => nI (sk r)) (fun r => nI (fk r)) mc mp mm mf md mv mder mkn thr)) H ∧ va_D A (WD cI cO a FA nC nR nL nF par wt (fun r => nI (sk r)) (fun r => nI (fk r)) hd rea sig ++ (WF FA (fun k => mc k * 40 + mp k * 4 + mm k) mf md mv nx nF ++ ((ob, .inl (cL, 1, .inr (.inl u9))) : Nat × va_E) :: WM cI cZ b nC nR nL nF par wt (fun r => nI (sk r)) (fun r => nI (fk r)) mc mp mm mf md mv mder mkn thr)) := hB9
    obtain ⟨hP, hD⟩ := hB9
    obtain ⟨c1, p1, m1, f1, hv9, j, hj, rfl⟩ := hpost
    have hvv := hv9
    obtain ⟨⟨hc9, hc⟩, ⟨hp9, hp⟩, ⟨hm9, hm⟩, ⟨hf9, hf⟩⟩ := hv9
    refine lv_istore (lv' := [(5, .int 0), (4, .int (nI i)), (3, .ref ob), (2, .ref (b 0)), (1, .ref (a 0)), (0, .ref b0)]) hx hb dL_law_677 hl (by decide) rfl (fun ls hl => ?_)
    refine lv_aload_n hx hb dL_law_679 rfl (lv_at hl 3 rfl) ?_
    refine lv_aload_n hx hb dL_law_680 rfl (lv_at hl 5 rfl) ?_
    refine lv_iload hx hb dL_law_681 (lv_at hl 1 rfl) ?_
    refine lv_iconst (v := 1) hx hb dL_law_683 (by decide) ?_
    refine lv_iadd hx hb dL_law_684 ?_
    refine lv_topi (fun dv edv => ?_)
    obtain rfl : dv = nI (i + 1) := by rw [edv]; exact nI_add i 1
    refine va_sld hx hb hX hb0 hbA hS (vp_in_nI (n := (i + 1)) (by omega) (by omega)) dL_law_685 ?_
    rw [nI_clamp (by omega)]
    refine lv_aload_n hx hb dL_law_686 rfl (lv_at hl 5 rfl) ?_
    refine lv_iload hx hb dL_law_687 (lv_at hl 1 rfl) ?_
    refine lv_iconst (v := 2) hx hb dL_law_689 (by decide) ?_
    refine lv_iadd hx hb dL_law_690 ?_
    refine lv_topi (fun dv edv => ?_)
    obtain rfl : dv = nI (i + 2) := by rw [edv]; exact nI_add i 2
    refine va_sld hx hb hX hb0 hbA hS (vp_in_nI (n := (i + 2)) (by omega) (by omega)) dL_law_691 ?_
    rw [nI_clamp (by omega)]
    refine lv_aload_n hx hb dL_law_692 rfl (lv_at hl 5 rfl) ?_
    refine lv_iload hx hb dL_law_693 (lv_at hl 1 rfl) ?_
    refine lv_iconst (v := 3) hx hb dL_law_695 (by decide) ?_
    refine lv_iadd hx hb dL_law_696 ?_
    refine lv_topi (fun dv edv => ?_)
    obtain rfl : dv = nI (i + 3) := by rw [edv]; exact nI_add i 3
    refine va_sld hx hb hX hb0 hbA hS (vp_in_nI (n := (i + 3)) (by omega) (by omega)) dL_law_697 ?_
    rw [nI_clamp (by omega)]
    refine lv_aload_n hx hb dL_law_698 rfl (lv_at hl 5 rfl) ?_
    refine lv_iload hx hb dL_law_699 (lv_at hl 1 rfl) ?_
    refine lv_iconst (v := 4) hx hb dL_law_701 (by decide) ?_
    refine lv_iadd hx hb dL_law_702 ?_
    refine lv_topi (fun dv edv => ?_)
    obtain rfl : dv = nI (i + 4) := by rw [edv]; exact nI_add i 4
    refine va_sld hx hb hX hb0 hbA hS (vp_in_nI (n := (i + 4)) (by omega) (by omega)) dL_law_703 ?_
    rw [nI_clamp (by omega)]
    have hP := va_P_perm hP (lperm (WD cI cO a FA nC nR nL nF par wt (fun r => nI (sk r)) (fun r => nI (fk r)) hd rea sig) (WF FA (fun k => mc k * 40 + mp k * 4 + mm k) mf md mv nx nF) (WM cI cZ b nC nR nL nF par wt (fun r => nI (sk r)) (fun r => nI (fk r)) mc mp mm mf md mv mder mkn thr) ((ob, .inl (cL, 1, .inr (.inl u9))) : Nat × va_E))
    have hD := va_D_perm hD (lperm (WD cI cO a FA nC nR nL nF par wt (fun r => nI (sk r)) (fun r => nI (fk r)) hd rea sig) (WF FA (fun k => mc k * 40 + mp k * 4 + mm k) mf md mv nx nF) (WM cI cZ b nC nR nL nF par wt (fun r => nI (sk r)) (fun r => nI (fk r)) mc mp mm mf md mv mder mkn thr) ((ob, .inl (cL, 1, .inr (.inl u9))) : Nat × va_E))
    refine va_calli (va_runV (As := [.int (xs (i + 1)), .int (xs (i + 2)), .int (xs (i + 3)), .int (xs (i + 4))]) (rest := []) ⟨hx, hb, hml, hown, hts⟩ (c5_value_0 l D cI cZ cO cL dt A b nC nR nL nF par wt (fun r => nI (sk r)) (fun r => nI (fk r)) mc mp mm mf md mv mder mkn thr (WD cI cO a FA nC nR nL nF par wt (fun r => nI (sk r)) (fun r => nI (fk r)) hd rea sig ++ (WF FA (fun k => mc k * 40 + mp k * 4 + mm k) mf md mv nx nF ++ [((ob, .inl (cL, 1, .inr (.inl u9))) : Nat × va_E)])) (xs (i + 1)) (xs (i + 2)) (xs (i + 3)) (xs (i + 4)) j hF hC12 hcf hmd31 (kV_ask hC12 hL8 hvv) (by rw [hc9, hp9, hm9, hf9, hMC h1 h2 h3 (by omega) hp hm]; exact hj)) (cwV 4 hts gL_law_X5_value rfl rfl rfl (by decide +kernel) ⟨(Nat.le_of_ble_eq_true rfl), (Nat.le_of_ble_eq_true rfl)⟩) (gP.v (hg.on hS) hP 4 rfl 0 rfl ⟨hP, hD⟩) rfl rfl hl.1 rfl (lv_room (Nat.le_of_ble_eq_true rfl)) dL_law_704 ⟨by show cells + 4 + 0 ≤ 601024; omega, by show slots + 24 + 0 ≤ 7293034; omega⟩) hS (fun q _ h => h) (fun q h => h) (fun b9 u8 t8 H locs ht8 hvm8 hw8 hB8 hz8 hk8 hS => ?_)
    rw [ht8] at hB8
    obtain ⟨hP, hD⟩ := hB8
    have hP : va_P D vwCl (WM cI cZ b nC nR nL nF par wt (fun r => nI (sk r)) (fun r => nI (fk r)) mc mp mm mf md mv mder mkn 0 ++ (WD cI cO a FA nC nR nL nF par wt (fun r => nI (sk r)) (fun r => nI (fk r)) hd rea sig ++ (WF FA (fun k => mc k * 40 + mp k * 4 + mm k) mf md mv nx nF ++ [((ob, .inl (cL, 1, .inr (.inl u9))) : Nat × va_E)]))) H := hP
    have hD : va_D A (WM cI cZ b nC nR nL nF par wt (fun r => nI (sk r)) (fun r => nI (fk r)) mc mp mm mf md mv mder mkn 0 ++ (WD cI cO a FA nC nR nL nF par wt (fun r => nI (sk r)) (fun r => nI (fk r)) hd rea sig ++ (WF FA (fun k => mc k * 40 + mp k * 4 + mm k) mf md mv nx nF ++ [((ob, .inl (cL, 1, .inr (.inl u9))) : Nat × va_E)]))) := hD
    refine lv_istore (lv' := [(6, .int b9), (5, .int 0), (4, .int (nI i)), (3, .ref ob), (2, .ref (b 0)), (1, .ref (a 0)), (0, .ref b0)]) hx hb dL_law_707 hl (by decide) rfl (fun ls hl => ?_)
    refine lv_aload_n hx hb dL_law_709 rfl (lv_at hl 4 rfl) ?_
    refine g_csi (va_runV (As := []) (rest := []) ⟨hx, hb, hml, hown, hts⟩ (c5_thrown l D cI cZ cO cL dt A b nC nR nL nF par wt (fun r => nI (sk r)) (fun r => nI (fk r)) mc mp mm mf md mv mder mkn 0 (WD cI cO a FA nC nR nL nF par wt (fun r => nI (sk r)) (fun r => nI (fk r)) hd rea sig ++ (WF FA (fun k => mc k * 40 + mp k * 4 + mm k) mf md mv nx nF ++ [((ob, .inl (cL, 1, .inr (.inl u9))) : Nat × va_E)]))) (cwV 0 hts gL_law_X5_thrown rfl rfl rfl (by decide +kernel) ⟨(Nat.le_of_ble_eq_true rfl), (Nat.le_of_ble_eq_true rfl)⟩) (gP.v (hg.on hS) hP 4 rfl 0 rfl hP) rfl rfl hl.1 rfl (lv_room (Nat.le_of_ble_eq_true rfl)) dL_law_710 ⟨by show cells + 4 + 0 + 0 ≤ 601024; omega, by show slots + 24 + 0 + 0 ≤ 7293034; omega⟩) (fun t7 ht7 => ?_)
    obtain rfl : t7 = 0 := ht7
    have hP := va_P_perm hP (lperm (WD cI cO a FA nC nR nL nF par wt (fun r => nI (sk r)) (fun r => nI (fk r)) hd rea sig) (WF FA (fun k => mc k * 40 + mp k * 4 + mm k) mf md mv nx nF) (WM cI cZ b nC nR nL nF par wt (fun r => nI (sk r)) (fun r => nI (fk r)) mc mp mm mf md mv mder mkn 0) ((ob, .inl (cL, 1, .inr (.inl u9))) : Nat × va_E)).symm
    have hD := va_D_perm hD (lperm (WD cI cO a FA nC nR nL nF par wt (fun r => nI (sk r)) (fun r => nI (fk r)) hd rea sig) (WF FA (fun k => mc k * 40 + mp k * 4 + mm k) mf md mv nx nF) (WM cI cZ b nC nR nL nF par wt (fun r => nI (sk r)) (fun r => nI (fk r)) mc mp mm mf md mv mder mkn 0) ((ob, .inl (cL, 1, .inr (.inl u9))) : Nat × va_E)).symm
    have hag := congrArg Int32.toInt64 hw8.symm
    refine lv_iload hx hb dL_law_713 (lv_at hl 1 rfl) ?_
    refine lv_icmp_eq (tgt := 720) hx hb dL_law_715 (by decide) (fun c_715 => ?_) (fun c_715 => ?_)
    · skip
      refine lv_iload hx hb dL_law_720 (lv_at hl 1 rfl) ?_
      refine lv_if_ne (tgt := 737) hx hb dL_law_722 (by decide) (fun c_722 => ?_) (fun c_722 => ?_)
      · skip
        exact absurd c_722 (by decide)
      · skip
        refine lv_aload_n hx hb dL_law_725 rfl (lv_at hl 3 rfl) ?_
        refine lv_iconst (v := 0) hx hb dL_law_726 (by decide) ?_
        refine va_lald hx hb hK hP (11 + nF) 3 (WDR_at) rfl e_in0 dL_law_727 ?_
        rw [e_z0, hu9, hag]
        refine lv_iload hx hb dL_law_728 (lv_at hl 0 rfl) ?_
        refine lv_i2l (v := (b9).toInt64) hx hb dL_law_730 rfl ?_
        refine W.lcmp hx hb dL_law_731 ?_
        rw [lg_self]
        refine lv_if_eq (tgt := 737) hx hb dL_law_732 (by decide) (fun c_732 => ?_) (fun c_732 => ?_)
        · skip
          refine lv_goto (tgt := 1413) hx hb dL_law_737 (by decide) ?_
          refine W.widen (k := cells + 4) (n := slots + 24) (by omega) (by omega) ?_
          exact kk _ _ _ ⟨FA, nC, nR, nL, nF, par, wt, sk, fk, hd, rea, sig, mc, mp, mm, mf, md, mv, nx, mder, mkn, 0, u9, L, hOk, hP, hD⟩ hS (lv_sub hl [2, 3, 4, 5, 6] rfl)
        · skip
          exact absurd c_732 (by decide)
    · skip
      exact absurd c_715 (by decide)
  · skip
    have hB9 : va_P D vwCl (WD cI cO a FA nC nR nL nF par wt (fun r => nI (sk r)) (fun r => nI (fk r)) hd rea sig ++ (WF FA (fun k => mc k * 40 + mp k * 4 + mm k) mf md mv nx nF ++ ((ob, .inl (cL, 1, .inr (.inl u9))) : Nat × va_E) :: WM cI cZ b nC nR nL nF par wt (fun r => nI (sk r)) (fun r => nI (fk r)) mc mp mm mf md mv mder mkn thr)) H ∧ va_D A (WD cI cO a FA nC nR nL nF par wt (fun r => nI (sk r)) (fun r => nI (fk r)) hd rea sig ++ (WF FA (fun k => mc k * 40 + mp k * 4 + mm k) mf md mv nx nF ++ ((ob, .inl (cL, 1, .inr (.inl u9))) : Nat × va_E) :: WM cI cZ b nC nR nL nF par wt (fun r => nI (sk r)) (fun r => nI (fk r)) mc mp mm mf md mv mder mkn thr)) := hB9
    obtain ⟨hP, hD⟩ := hB9
    refine lv_istore (lv' := [(5, .int 1), (4, .int (nI i)), (3, .ref ob), (2, .ref (b 0)), (1, .ref (a 0)), (0, .ref b0)]) hx hb dL_law_677 hl (by decide) rfl (fun ls hl => ?_)
    refine lv_aload_n hx hb dL_law_679 rfl (lv_at hl 3 rfl) ?_
    refine lv_aload_n hx hb dL_law_680 rfl (lv_at hl 5 rfl) ?_
    refine lv_iload hx hb dL_law_681 (lv_at hl 1 rfl) ?_
    refine lv_iconst (v := 1) hx hb dL_law_683 (by decide) ?_
    refine lv_iadd hx hb dL_law_684 ?_
    refine lv_topi (fun dv edv => ?_)
    obtain rfl : dv = nI (i + 1) := by rw [edv]; exact nI_add i 1
    refine va_sld hx hb hX hb0 hbA hS (vp_in_nI (n := (i + 1)) (by omega) (by omega)) dL_law_685 ?_
    rw [nI_clamp (by omega)]
    refine lv_aload_n hx hb dL_law_686 rfl (lv_at hl 5 rfl) ?_
    refine lv_iload hx hb dL_law_687 (lv_at hl 1 rfl) ?_
    refine lv_iconst (v := 2) hx hb dL_law_689 (by decide) ?_
    refine lv_iadd hx hb dL_law_690 ?_
    refine lv_topi (fun dv edv => ?_)
    obtain rfl : dv = nI (i + 2) := by rw [edv]; exact nI_add i 2
    refine va_sld hx hb hX hb0 hbA hS (vp_in_nI (n := (i + 2)) (by omega) (by omega)) dL_law_691 ?_
    rw [nI_clamp (by omega)]
    refine lv_aload_n hx hb dL_law_692 rfl (lv_at hl 5 rfl) ?_
    refine lv_iload hx hb dL_law_693 (lv_at hl 1 rfl) ?_
    refine lv_iconst (v := 3) hx hb dL_law_695 (by decide) ?_
    refine lv_iadd hx hb dL_law_696 ?_
    refine lv_topi (fun dv edv => ?_)
    obtain rfl : dv = nI (i + 3) := by rw [edv]; exact nI_add i 3
    refine va_sld hx hb hX hb0 hbA hS (vp_in_nI (n := (i + 3)) (by omega) (by omega)) dL_law_697 ?_
    rw [nI_clamp (by omega)]
    refine lv_aload_n hx hb dL_law_698 rfl (lv_at hl 5 rfl) ?_
    refine lv_iload hx hb dL_law_699 (lv_at hl 1 rfl) ?_
    refine lv_iconst (v := 4) hx hb dL_law_701 (by decide) ?_
    refine lv_iadd hx hb dL_law_702 ?_
    refine lv_topi (fun dv edv => ?_)
    obtain rfl : dv = nI (i + 4) := by rw [edv]; exact nI_add i 4
    refine va_sld hx hb hX hb0 hbA hS (vp_in_nI (n := (i + 4)) (by omega) (by omega)) dL_law_703 ?_
    rw [nI_clamp (by omega)]
    have hP := va_P_perm hP (lperm (WD cI cO a FA nC nR nL nF par wt (fun r => nI (sk r)) (fun r => nI (fk r)) hd rea sig) (WF FA (fun k => mc k * 40 + mp k * 4 + mm k) mf md mv nx nF) (WM cI cZ b nC nR nL nF par wt (fun r => nI (sk r)) (fun r => nI (fk r)) mc mp mm mf md mv mder mkn thr) ((ob, .inl (cL, 1, .inr (.inl u9))) : Nat × va_E))
    have hD := va_D_perm hD (lperm (WD cI cO a FA nC nR nL nF par wt (fun r => nI (sk r)) (fun r => nI (fk r)) hd rea sig) (WF FA (fun k => mc k * 40 + mp k * 4 + mm k) mf md mv nx nF) (WM cI cZ b nC nR nL nF par wt (fun r => nI (sk r)) (fun r => nI (fk r)) mc mp mm mf md mv mder mkn thr) ((ob, .inl (cL, 1, .inr (.inl u9))) : Nat × va_E))
    refine va_calli (va_runV (As := [.int (xs (i + 1)), .int (xs (i + 2)), .int (xs (i + 3)), .int (xs (i + 4))]) (rest := []) ⟨hx, hb, hml, hown, hts⟩ (c5_value_1 l D cI cZ cO cL dt A b nC nR nL nF par wt (fun r => nI (sk r)) (fun r => nI (fk r)) mc mp mm mf md mv mder mkn thr (WD cI cO a FA nC nR nL nF par wt (fun r => nI (sk r)) (fun r => nI (fk r)) hd rea sig ++ (WF FA (fun k => mc k * 40 + mp k * 4 + mm k) mf md mv nx nF ++ [((ob, .inl (cL, 1, .inr (.inl u9))) : Nat × va_E)])) (xs (i + 1)) (xs (i + 2)) (xs (i + 3)) (xs (i + 4)) (kNo_ask hC12 hL8 hR9)) (cwV 4 hts gL_law_X5_value rfl rfl rfl (by decide +kernel) ⟨(Nat.le_of_ble_eq_true rfl), (Nat.le_of_ble_eq_true rfl)⟩) (gP.v (hg.on hS) hP 4 rfl 0 rfl ⟨hP, hD⟩) rfl rfl hl.1 rfl (lv_room (Nat.le_of_ble_eq_true rfl)) dL_law_704 ⟨by show cells + 4 + 0 ≤ 601024; omega, by show slots + 24 + 0 ≤ 7293034; omega⟩) hS (fun q _ h => h) (fun q h => h) (fun b9 u8 t8 H locs ht8 hvm8 hw8 hB8 hz8 hk8 hS => ?_)
    rw [ht8] at hB8
    obtain ⟨hP, hD⟩ := hB8
    have hP : va_P D vwCl (WM cI cZ b nC nR nL nF par wt (fun r => nI (sk r)) (fun r => nI (fk r)) mc mp mm mf md mv mder mkn 1 ++ (WD cI cO a FA nC nR nL nF par wt (fun r => nI (sk r)) (fun r => nI (fk r)) hd rea sig ++ (WF FA (fun k => mc k * 40 + mp k * 4 + mm k) mf md mv nx nF ++ [((ob, .inl (cL, 1, .inr (.inl u9))) : Nat × va_E)]))) H := hP
    have hD : va_D A (WM cI cZ b nC nR nL nF par wt (fun r => nI (sk r)) (fun r => nI (fk r)) mc mp mm mf md mv mder mkn 1 ++ (WD cI cO a FA nC nR nL nF par wt (fun r => nI (sk r)) (fun r => nI (fk r)) hd rea sig ++ (WF FA (fun k => mc k * 40 + mp k * 4 + mm k) mf md mv nx nF ++ [((ob, .inl (cL, 1, .inr (.inl u9))) : Nat × va_E)]))) := hD
    refine lv_istore (lv' := [(6, .int b9), (5, .int 1), (4, .int (nI i)), (3, .ref ob), (2, .ref (b 0)), (1, .ref (a 0)), (0, .ref b0)]) hx hb dL_law_707 hl (by decide) rfl (fun ls hl => ?_)
    refine lv_aload_n hx hb dL_law_709 rfl (lv_at hl 4 rfl) ?_
    refine g_csi (va_runV (As := []) (rest := []) ⟨hx, hb, hml, hown, hts⟩ (c5_thrown l D cI cZ cO cL dt A b nC nR nL nF par wt (fun r => nI (sk r)) (fun r => nI (fk r)) mc mp mm mf md mv mder mkn 1 (WD cI cO a FA nC nR nL nF par wt (fun r => nI (sk r)) (fun r => nI (fk r)) hd rea sig ++ (WF FA (fun k => mc k * 40 + mp k * 4 + mm k) mf md mv nx nF ++ [((ob, .inl (cL, 1, .inr (.inl u9))) : Nat × va_E)]))) (cwV 0 hts gL_law_X5_thrown rfl rfl rfl (by decide +kernel) ⟨(Nat.le_of_ble_eq_true rfl), (Nat.le_of_ble_eq_true rfl)⟩) (gP.v (hg.on hS) hP 4 rfl 0 rfl hP) rfl rfl hl.1 rfl (lv_room (Nat.le_of_ble_eq_true rfl)) dL_law_710 ⟨by show cells + 4 + 0 + 0 ≤ 601024; omega, by show slots + 24 + 0 + 0 ≤ 7293034; omega⟩) (fun t7 ht7 => ?_)
    obtain rfl : t7 = 1 := ht7
    have hP := va_P_perm hP (lperm (WD cI cO a FA nC nR nL nF par wt (fun r => nI (sk r)) (fun r => nI (fk r)) hd rea sig) (WF FA (fun k => mc k * 40 + mp k * 4 + mm k) mf md mv nx nF) (WM cI cZ b nC nR nL nF par wt (fun r => nI (sk r)) (fun r => nI (fk r)) mc mp mm mf md mv mder mkn 1) ((ob, .inl (cL, 1, .inr (.inl u9))) : Nat × va_E)).symm
    have hD := va_D_perm hD (lperm (WD cI cO a FA nC nR nL nF par wt (fun r => nI (sk r)) (fun r => nI (fk r)) hd rea sig) (WF FA (fun k => mc k * 40 + mp k * 4 + mm k) mf md mv nx nF) (WM cI cZ b nC nR nL nF par wt (fun r => nI (sk r)) (fun r => nI (fk r)) mc mp mm mf md mv mder mkn 1) ((ob, .inl (cL, 1, .inr (.inl u9))) : Nat × va_E)).symm
    refine lv_iload hx hb dL_law_713 (lv_at hl 1 rfl) ?_
    refine lv_icmp_eq (tgt := 720) hx hb dL_law_715 (by decide) (fun c_715 => ?_) (fun c_715 => ?_)
    · skip
      refine lv_iload hx hb dL_law_720 (lv_at hl 1 rfl) ?_
      refine lv_if_ne (tgt := 737) hx hb dL_law_722 (by decide) (fun c_722 => ?_) (fun c_722 => ?_)
      · skip
        refine lv_goto (tgt := 1413) hx hb dL_law_737 (by decide) ?_
        refine W.widen (k := cells + 4) (n := slots + 24) (by omega) (by omega) ?_
        exact kk _ _ _ ⟨FA, nC, nR, nL, nF, par, wt, sk, fk, hd, rea, sig, mc, mp, mm, mf, md, mv, nx, mder, mkn, 1, u9, L, hOk, hP, hD⟩ hS (lv_sub hl [2, 3, 4, 5, 6] rfl)
      · skip
        exact absurd c_722 (by decide)
    · skip
      exact absurd c_715 (by decide)
  · skip
    have hB9 : va_P D vwCl (WD cI cO a FA nC nR nL nF par wt (fun r => nI (sk r)) (fun r => nI (fk r)) hd rea sig ++ (WF FA (fun k => mc k * 40 + mp k * 4 + mm k) mf md mv nx nF ++ ((ob, .inl (cL, 1, .inr (.inl u9))) : Nat × va_E) :: WM cI cZ b nC nR nL nF par wt (fun r => nI (sk r)) (fun r => nI (fk r)) mc mp mm mf md mv mder mkn thr)) H ∧ va_D A (WD cI cO a FA nC nR nL nF par wt (fun r => nI (sk r)) (fun r => nI (fk r)) hd rea sig ++ (WF FA (fun k => mc k * 40 + mp k * 4 + mm k) mf md mv nx nF ++ ((ob, .inl (cL, 1, .inr (.inl u9))) : Nat × va_E) :: WM cI cZ b nC nR nL nF par wt (fun r => nI (sk r)) (fun r => nI (fk r)) mc mp mm mf md mv mder mkn thr)) := hB9
    obtain ⟨hP, hD⟩ := hB9
    obtain ⟨c1, p1, m1, f1, hv9, hj⟩ := hR9
    have hvv := hv9
    obtain ⟨⟨hc9, hc⟩, ⟨hp9, hp⟩, ⟨hm9, hm⟩, ⟨hf9, hf⟩⟩ := hv9
    refine lv_istore (lv' := [(5, .int 2), (4, .int (nI i)), (3, .ref ob), (2, .ref (b 0)), (1, .ref (a 0)), (0, .ref b0)]) hx hb dL_law_677 hl (by decide) rfl (fun ls hl => ?_)
    refine lv_aload_n hx hb dL_law_679 rfl (lv_at hl 3 rfl) ?_
    refine lv_aload_n hx hb dL_law_680 rfl (lv_at hl 5 rfl) ?_
    refine lv_iload hx hb dL_law_681 (lv_at hl 1 rfl) ?_
    refine lv_iconst (v := 1) hx hb dL_law_683 (by decide) ?_
    refine lv_iadd hx hb dL_law_684 ?_
    refine lv_topi (fun dv edv => ?_)
    obtain rfl : dv = nI (i + 1) := by rw [edv]; exact nI_add i 1
    refine va_sld hx hb hX hb0 hbA hS (vp_in_nI (n := (i + 1)) (by omega) (by omega)) dL_law_685 ?_
    rw [nI_clamp (by omega)]
    refine lv_aload_n hx hb dL_law_686 rfl (lv_at hl 5 rfl) ?_
    refine lv_iload hx hb dL_law_687 (lv_at hl 1 rfl) ?_
    refine lv_iconst (v := 2) hx hb dL_law_689 (by decide) ?_
    refine lv_iadd hx hb dL_law_690 ?_
    refine lv_topi (fun dv edv => ?_)
    obtain rfl : dv = nI (i + 2) := by rw [edv]; exact nI_add i 2
    refine va_sld hx hb hX hb0 hbA hS (vp_in_nI (n := (i + 2)) (by omega) (by omega)) dL_law_691 ?_
    rw [nI_clamp (by omega)]
    refine lv_aload_n hx hb dL_law_692 rfl (lv_at hl 5 rfl) ?_
    refine lv_iload hx hb dL_law_693 (lv_at hl 1 rfl) ?_
    refine lv_iconst (v := 3) hx hb dL_law_695 (by decide) ?_
    refine lv_iadd hx hb dL_law_696 ?_
    refine lv_topi (fun dv edv => ?_)
    obtain rfl : dv = nI (i + 3) := by rw [edv]; exact nI_add i 3
    refine va_sld hx hb hX hb0 hbA hS (vp_in_nI (n := (i + 3)) (by omega) (by omega)) dL_law_697 ?_
    rw [nI_clamp (by omega)]
    refine lv_aload_n hx hb dL_law_698 rfl (lv_at hl 5 rfl) ?_
    refine lv_iload hx hb dL_law_699 (lv_at hl 1 rfl) ?_
    refine lv_iconst (v := 4) hx hb dL_law_701 (by decide) ?_
    refine lv_iadd hx hb dL_law_702 ?_
    refine lv_topi (fun dv edv => ?_)
    obtain rfl : dv = nI (i + 4) := by rw [edv]; exact nI_add i 4
    refine va_sld hx hb hX hb0 hbA hS (vp_in_nI (n := (i + 4)) (by omega) (by omega)) dL_law_703 ?_
    rw [nI_clamp (by omega)]
    have hP := va_P_perm hP (lperm (WD cI cO a FA nC nR nL nF par wt (fun r => nI (sk r)) (fun r => nI (fk r)) hd rea sig) (WF FA (fun k => mc k * 40 + mp k * 4 + mm k) mf md mv nx nF) (WM cI cZ b nC nR nL nF par wt (fun r => nI (sk r)) (fun r => nI (fk r)) mc mp mm mf md mv mder mkn thr) ((ob, .inl (cL, 1, .inr (.inl u9))) : Nat × va_E))
    have hD := va_D_perm hD (lperm (WD cI cO a FA nC nR nL nF par wt (fun r => nI (sk r)) (fun r => nI (fk r)) hd rea sig) (WF FA (fun k => mc k * 40 + mp k * 4 + mm k) mf md mv nx nF) (WM cI cZ b nC nR nL nF par wt (fun r => nI (sk r)) (fun r => nI (fk r)) mc mp mm mf md mv mder mkn thr) ((ob, .inl (cL, 1, .inr (.inl u9))) : Nat × va_E))
    refine va_calli (va_runV (As := [.int (xs (i + 1)), .int (xs (i + 2)), .int (xs (i + 3)), .int (xs (i + 4))]) (rest := []) ⟨hx, hb, hml, hown, hts⟩ (c5_value_2 l D cI cZ cO cL dt A b nC nR nL nF par wt (fun r => nI (sk r)) (fun r => nI (fk r)) mc mp mm mf md mv mder mkn thr (WD cI cO a FA nC nR nL nF par wt (fun r => nI (sk r)) (fun r => nI (fk r)) hd rea sig ++ (WF FA (fun k => mc k * 40 + mp k * 4 + mm k) mf md mv nx nF ++ [((ob, .inl (cL, 1, .inr (.inl u9))) : Nat × va_E)])) (xs (i + 1)) (xs (i + 2)) (xs (i + 3)) (xs (i + 4)) hF hC12 hcf hmd31 (kV_ask hC12 hL8 hvv) (by rw [hc9, hp9, hm9, hf9, hMC h1 h2 h3 (by omega) hp hm]; exact hj)) (cwV 4 hts gL_law_X5_value rfl rfl rfl (by decide +kernel) ⟨(Nat.le_of_ble_eq_true rfl), (Nat.le_of_ble_eq_true rfl)⟩) (gP.v (hg.on hS) hP 4 rfl 0 rfl ⟨hP, hD⟩) rfl rfl hl.1 rfl (lv_room (Nat.le_of_ble_eq_true rfl)) dL_law_704 ⟨by show cells + 4 + 0 ≤ 601024; omega, by show slots + 24 + 0 ≤ 7293034; omega⟩) hS (fun q _ h => h) (fun q h => h) (fun b9 u8 t8 H locs ht8 hvm8 hw8 hB8 hz8 hk8 hS => ?_)
    rw [ht8] at hB8
    obtain ⟨hP, hD⟩ := hB8
    have hP : va_P D vwCl (WM cI cZ b nC nR nL nF par wt (fun r => nI (sk r)) (fun r => nI (fk r)) mc mp mm mf md mv mder mkn 2 ++ (WD cI cO a FA nC nR nL nF par wt (fun r => nI (sk r)) (fun r => nI (fk r)) hd rea sig ++ (WF FA (fun k => mc k * 40 + mp k * 4 + mm k) mf md mv nx nF ++ [((ob, .inl (cL, 1, .inr (.inl u9))) : Nat × va_E)]))) H := hP
    have hD : va_D A (WM cI cZ b nC nR nL nF par wt (fun r => nI (sk r)) (fun r => nI (fk r)) mc mp mm mf md mv mder mkn 2 ++ (WD cI cO a FA nC nR nL nF par wt (fun r => nI (sk r)) (fun r => nI (fk r)) hd rea sig ++ (WF FA (fun k => mc k * 40 + mp k * 4 + mm k) mf md mv nx nF ++ [((ob, .inl (cL, 1, .inr (.inl u9))) : Nat × va_E)]))) := hD
    refine lv_istore (lv' := [(6, .int b9), (5, .int 2), (4, .int (nI i)), (3, .ref ob), (2, .ref (b 0)), (1, .ref (a 0)), (0, .ref b0)]) hx hb dL_law_707 hl (by decide) rfl (fun ls hl => ?_)
    refine lv_aload_n hx hb dL_law_709 rfl (lv_at hl 4 rfl) ?_
    refine g_csi (va_runV (As := []) (rest := []) ⟨hx, hb, hml, hown, hts⟩ (c5_thrown l D cI cZ cO cL dt A b nC nR nL nF par wt (fun r => nI (sk r)) (fun r => nI (fk r)) mc mp mm mf md mv mder mkn 2 (WD cI cO a FA nC nR nL nF par wt (fun r => nI (sk r)) (fun r => nI (fk r)) hd rea sig ++ (WF FA (fun k => mc k * 40 + mp k * 4 + mm k) mf md mv nx nF ++ [((ob, .inl (cL, 1, .inr (.inl u9))) : Nat × va_E)]))) (cwV 0 hts gL_law_X5_thrown rfl rfl rfl (by decide +kernel) ⟨(Nat.le_of_ble_eq_true rfl), (Nat.le_of_ble_eq_true rfl)⟩) (gP.v (hg.on hS) hP 4 rfl 0 rfl hP) rfl rfl hl.1 rfl (lv_room (Nat.le_of_ble_eq_true rfl)) dL_law_710 ⟨by show cells + 4 + 0 + 0 ≤ 601024; omega, by show slots + 24 + 0 + 0 ≤ 7293034; omega⟩) (fun t7 ht7 => ?_)
    obtain rfl : t7 = 2 := ht7
    have hP := va_P_perm hP (lperm (WD cI cO a FA nC nR nL nF par wt (fun r => nI (sk r)) (fun r => nI (fk r)) hd rea sig) (WF FA (fun k => mc k * 40 + mp k * 4 + mm k) mf md mv nx nF) (WM cI cZ b nC nR nL nF par wt (fun r => nI (sk r)) (fun r => nI (fk r)) mc mp mm mf md mv mder mkn 2) ((ob, .inl (cL, 1, .inr (.inl u9))) : Nat × va_E)).symm
    have hD := va_D_perm hD (lperm (WD cI cO a FA nC nR nL nF par wt (fun r => nI (sk r)) (fun r => nI (fk r)) hd rea sig) (WF FA (fun k => mc k * 40 + mp k * 4 + mm k) mf md mv nx nF) (WM cI cZ b nC nR nL nF par wt (fun r => nI (sk r)) (fun r => nI (fk r)) mc mp mm mf md mv mder mkn 2) ((ob, .inl (cL, 1, .inr (.inl u9))) : Nat × va_E)).symm
    refine lv_iload hx hb dL_law_713 (lv_at hl 1 rfl) ?_
    refine lv_icmp_eq (tgt := 720) hx hb dL_law_715 (by decide) (fun c_715 => ?_) (fun c_715 => ?_)
    · skip
      refine lv_iload hx hb dL_law_720 (lv_at hl 1 rfl) ?_
      refine lv_if_ne (tgt := 737) hx hb dL_law_722 (by decide) (fun c_722 => ?_) (fun c_722 => ?_)
      · skip
        refine lv_goto (tgt := 1413) hx hb dL_law_737 (by decide) ?_
        refine W.widen (k := cells + 4) (n := slots + 24) (by omega) (by omega) ?_
        exact kk _ _ _ ⟨FA, nC, nR, nL, nF, par, wt, sk, fk, hd, rea, sig, mc, mp, mm, mf, md, mv, nx, mder, mkn, 2, u9, L, hOk, hP, hD⟩ hS (lv_sub hl [2, 3, 4, 5, 6] rfl)
      · skip
        exact absurd c_722 (by decide)
    · skip
      exact absurd c_715 (by decide)
set_option maxHeartbeats 4000000 in
set_option maxRecDepth 100000 in
/-- the case of hang -/
theorem lw_hang (l : Launch) (hlt : l.stackTraces = false) {D : va_G} {cI cZ cO cL : ClassId} {dt : Nat} {A : Nat → Prop} {a b : Nat → Nat} {ob b0 i Ls cells slots : Nat} {xs : Nat → Int32} {p9 : Program} {e9 : Env} {s : State} {m9 : MethodId} {args : Array Value} {below : List Frame} {meth : Method} {c9 : Code} {H : Heap} {locs : List Loc} {ls : Array Slot} {Q : State → Prop}
    (hx : p9.tables.exec = Jvm.exec) (hb : c9.code = cL_law) (hml : c9.maxLocals = 7) (hown : s.vm.findClass RL = some m9.cls) (hts : ∀ w ∈ wsL_law, w.before args s = true) (hg : gG D cI cZ cO cL dt A s s.heap) (hX : va_X b0 Ls xs s s.heap) (hb0 : b0 < s.heap.size) (hbA : ¬ A b0) (hi : i + 6 ≤ Ls) (hLs : Ls ≤ 3072)
    (hI : lInv D cI cZ cO cL A a b ob H) (hS : va_S A s.heap H locs) (hl : lv_has ls 7 [(4, .int (nI i)), (3, .ref ob), (2, .ref (b 0)), (1, .ref (a 0)), (0, .ref b0)]) (hcc : cells + 4 ≤ 601024) (hss : slots + 24 ≤ 7293034)
    (kk : ∀ (H : Heap) (locs : List Loc) (ls : Array Slot), lInv D cI cZ cO cL A a b ob H → va_S A s.heap H locs → lv_has ls 7 [(4, .int (nI i)), (3, .ref ob), (2, .ref (b 0)), (1, .ref (a 0)), (0, .ref b0)] → W p9 l e9 room_1 s m9 args below meth c9 H locs (cells + 4) (slots + 24) Q (F0 m9 1413 ls [])) :
    W p9 l e9 room_1 s m9 args below meth c9 H locs cells slots Q (F0 m9 168 ls []) := by
  obtain ⟨FA, nC, nR, nL, nF, par, wt, sk, fk, hd, rea, sig, mc, mp, mm, mf, md, mv, nx, mder, mkn, thr, ov, L, hOk, hP, hD⟩ := hI
  obtain ⟨⟨hC12, hR5, hL8, hF⟩, ⟨hT, hwt⟩, ⟨hsk12, hfk12, hskC⟩, ⟨hCh, hH, hN, hfL⟩, h1, h2, h3, h4, hmd, hmv, h7⟩ := id hOk
  have hK := hg.1
  have hck : ∀ k, mc k * 40 + mp k * 4 + mm k < 480 := fun k => by have := h1 k; have := h2 k; have := h3 k; omega
  have hcf : ∀ k, mf k < 2 ^ 31 := fun k => by have := h4 k; omega
  have hmd31 : ∀ k, md k < 2 ^ 31 := fun k => by have := hmd k; omega
  have hP : va_P D vwCl (WD cI cO a FA nC nR nL nF par wt (fun r => nI (sk r)) (fun r => nI (fk r)) hd rea sig ++ (WF FA (fun k => mc k * 40 + mp k * 4 + mm k) mf md mv nx nF ++ ((ob, .inl (cL, 1, .inr (.inl ov))) : Nat × va_E) :: WM cI cZ b nC nR nL nF par wt (fun r => nI (sk r)) (fun r => nI (fk r)) mc mp mm mf md mv mder mkn thr)) H := hP
  have hD : va_D A (WD cI cO a FA nC nR nL nF par wt (fun r => nI (sk r)) (fun r => nI (fk r)) hd rea sig ++ (WF FA (fun k => mc k * 40 + mp k * 4 + mm k) mf md mv nx nF ++ ((ob, .inl (cL, 1, .inr (.inl ov))) : Nat × va_E) :: WM cI cZ b nC nR nL nF par wt (fun r => nI (sk r)) (fun r => nI (fk r)) mc mp mm mf md mv mder mkn thr)) := hD
  refine lv_aload_n hx hb dL_law_168 rfl (lv_at hl 3 rfl) ?_
  refine lv_aload_n hx hb dL_law_169 rfl (lv_at hl 4 rfl) ?_
  refine lv_iload hx hb dL_law_170 (lv_at hl 0 rfl) ?_
  refine lv_iconst (v := 1) hx hb dL_law_172 (by decide) ?_
  refine lv_iadd hx hb dL_law_173 ?_
  refine lv_topi (fun dv edv => ?_)
  obtain rfl : dv = nI (i + 1) := by rw [edv]; exact nI_add i 1
  refine va_sld hx hb hX hb0 hbA hS (vp_in_nI (n := (i + 1)) (by omega) (by omega)) dL_law_174 ?_
  rw [nI_clamp (by omega)]
  refine lv_aload_n hx hb dL_law_175 rfl (lv_at hl 4 rfl) ?_
  refine lv_iload hx hb dL_law_176 (lv_at hl 0 rfl) ?_
  refine lv_iconst (v := 2) hx hb dL_law_178 (by decide) ?_
  refine lv_iadd hx hb dL_law_179 ?_
  refine lv_topi (fun dv edv => ?_)
  obtain rfl : dv = nI (i + 2) := by rw [edv]; exact nI_add i 2
  refine va_sld hx hb hX hb0 hbA hS (vp_in_nI (n := (i + 2)) (by omega) (by omega)) dL_law_180 ?_
  rw [nI_clamp (by omega)]
  refine lv_aload_n hx hb dL_law_181 rfl (lv_at hl 4 rfl) ?_
  refine lv_iload hx hb dL_law_182 (lv_at hl 0 rfl) ?_
  refine lv_iconst (v := 3) hx hb dL_law_184 (by decide) ?_
  refine lv_iadd hx hb dL_law_185 ?_
  refine lv_topi (fun dv edv => ?_)
  obtain rfl : dv = nI (i + 3) := by rw [edv]; exact nI_add i 3
  refine va_sld hx hb hX hb0 hbA hS (vp_in_nI (n := (i + 3)) (by omega) (by omega)) dL_law_186 ?_
  rw [nI_clamp (by omega)]
  refine lv_if_eq (tgt := 194) hx hb dL_law_187 (by decide) (fun c_187 => ?_) (fun c_187 => ?_)
  · skip
    refine lv_iconst (v := 0) hx hb dL_law_194 (by decide) ?_
    refine lv_topi (fun ui eui => ?_)
    refine lv_aload_n hx hb dL_law_195 rfl (lv_at hl 1 rfl) ?_
    refine va_calli (vx_runSW (hh := [(0, 12, 15, 19), (0, 12, 19, 21)]) (As := [.ref (a 0), .int (xs (i + 1)), .int (xs (i + 2)), .int ui, .ref ob]) (rest := []) ⟨hx, hb, hml, hown, hts⟩ (kL_hang l D cI cZ cO cL dt A a FA nC nR nL nF par wt (fun r => nI (sk r)) (fun r => nI (fk r)) hd rea sig (fun k => mc k * 40 + mp k * 4 + mm k) mf md mv nx (WM cI cZ b nC nR nL nF par wt (fun r => nI (sk r)) (fun r => nI (fk r)) mc mp mm mf md mv mder mkn thr) ob ov L (xs (i + 1)) (xs (i + 2)) ui hlt hC12 hL8 hT) (vx_cwSW 5 hts gL_law_L_hang rfl rfl rfl (by decide +kernel) ⟨(Nat.le_of_ble_eq_true rfl), (Nat.le_of_ble_eq_true rfl)⟩) (gP.s (hg.on hS) ⟨hP, hD⟩) rfl rfl hl.1 rfl (lv_room (Nat.le_of_ble_eq_true rfl)) dL_law_196 ⟨by show cells + 3 ≤ 601024; omega, by show slots + 18 ≤ 7293034; omega⟩) hS (fun q _ h => h) (fun q h => h) (fun k9 u9 t9 H locs ht9 hvm9 hw9 hB9 hz9 hk9 hS => ?_)
    rw [ht9] at hB9
    obtain ⟨ov9, ux⟩ := u9
    rcases hw9 with ⟨rfl, r9, x, hx9, hu9, hpost⟩ | ⟨hx9, (⟨rfl, hR9⟩ | ⟨rfl, hR9⟩)⟩
    · skip
      obtain rfl : ux = some x := hx9
      have hu9 : ov9 0 = _ := hu9
      have hB9 : va_P D vwCl (WD cI cO a FA nC nR nL nF (upd par x.1 (nI x.2)) (upd wt x.1 (if ui = 0 then -1 else 1)) (fun r => nI (sk r)) (fun r => nI (fk r)) hd rea sig ++ (WF FA (fun k => mc k * 40 + mp k * 4 + mm k) mf md mv nx nF ++ ((ob, .inl (cL, 1, .inr (.inl ov9))) : Nat × va_E) :: WM cI cZ b nC nR nL nF par wt (fun r => nI (sk r)) (fun r => nI (fk r)) mc mp mm mf md mv mder mkn thr)) H ∧ va_D A (WD cI cO a FA nC nR nL nF (upd par x.1 (nI x.2)) (upd wt x.1 (if ui = 0 then -1 else 1)) (fun r => nI (sk r)) (fun r => nI (fk r)) hd rea sig ++ (WF FA (fun k => mc k * 40 + mp k * 4 + mm k) mf md mv nx nF ++ ((ob, .inl (cL, 1, .inr (.inl ov9))) : Nat × va_E) :: WM cI cZ b nC nR nL nF par wt (fun r => nI (sk r)) (fun r => nI (fk r)) mc mp mm mf md mv mder mkn thr)) := hB9
      obtain ⟨hP, hD⟩ := hB9
      obtain ⟨⟨hc9, hc⟩, ⟨hp9, hp⟩, ha, rfl⟩ := hpost
      obtain ⟨L9, hOk9⟩ := lOk_hang hOk hc hp ha ui
      refine lv_istore (lv' := [(5, .int 0), (4, .int (nI i)), (3, .ref ob), (2, .ref (b 0)), (1, .ref (a 0)), (0, .ref b0)]) hx hb dL_law_199 hl (by decide) rfl (fun ls hl => ?_)
      refine lv_aload_n hx hb dL_law_201 rfl (lv_at hl 3 rfl) ?_
      refine lv_aload_n hx hb dL_law_202 rfl (lv_at hl 5 rfl) ?_
      refine lv_iload hx hb dL_law_203 (lv_at hl 1 rfl) ?_
      refine lv_iconst (v := 1) hx hb dL_law_205 (by decide) ?_
      refine lv_iadd hx hb dL_law_206 ?_
      refine lv_topi (fun dv edv => ?_)
      obtain rfl : dv = nI (i + 1) := by rw [edv]; exact nI_add i 1
      refine va_sld hx hb hX hb0 hbA hS (vp_in_nI (n := (i + 1)) (by omega) (by omega)) dL_law_207 ?_
      rw [nI_clamp (by omega)]
      rw [hc9]
      refine lv_aload_n hx hb dL_law_208 rfl (lv_at hl 5 rfl) ?_
      refine lv_iload hx hb dL_law_209 (lv_at hl 1 rfl) ?_
      refine lv_iconst (v := 2) hx hb dL_law_211 (by decide) ?_
      refine lv_iadd hx hb dL_law_212 ?_
      refine lv_topi (fun dv edv => ?_)
      obtain rfl : dv = nI (i + 2) := by rw [edv]; exact nI_add i 2
      refine va_sld hx hb hX hb0 hbA hS (vp_in_nI (n := (i + 2)) (by omega) (by omega)) dL_law_213 ?_
      rw [nI_clamp (by omega)]
      rw [hp9]
      refine lv_aload_n hx hb dL_law_214 rfl (lv_at hl 5 rfl) ?_
      refine lv_iload hx hb dL_law_215 (lv_at hl 1 rfl) ?_
      refine lv_iconst (v := 3) hx hb dL_law_217 (by decide) ?_
      refine lv_iadd hx hb dL_law_218 ?_
      refine lv_topi (fun dv edv => ?_)
      obtain rfl : dv = nI (i + 3) := by rw [edv]; exact nI_add i 3
      refine va_sld hx hb hX hb0 hbA hS (vp_in_nI (n := (i + 3)) (by omega) (by omega)) dL_law_219 ?_
      rw [nI_clamp (by omega)]
      refine lv_if_eq (tgt := 227) hx hb dL_law_220 (by decide) (fun c_220 => ?_) (fun c_220 => ?_)
      · skip
        refine lv_iconst (v := 0) hx hb dL_law_227 (by decide) ?_
        refine lv_topi (fun ui2 eui2 => ?_)
        rw [eui2.trans eui.symm]
        have hP := va_P_perm hP (lperm (WD cI cO a FA nC nR nL nF (upd par x.1 (nI x.2)) (upd wt x.1 (if ui = 0 then -1 else 1)) (fun r => nI (sk r)) (fun r => nI (fk r)) hd rea sig) (WF FA (fun k => mc k * 40 + mp k * 4 + mm k) mf md mv nx nF) (WM cI cZ b nC nR nL nF par wt (fun r => nI (sk r)) (fun r => nI (fk r)) mc mp mm mf md mv mder mkn thr) ((ob, .inl (cL, 1, .inr (.inl ov9))) : Nat × va_E))
        have hD := va_D_perm hD (lperm (WD cI cO a FA nC nR nL nF (upd par x.1 (nI x.2)) (upd wt x.1 (if ui = 0 then -1 else 1)) (fun r => nI (sk r)) (fun r => nI (fk r)) hd rea sig) (WF FA (fun k => mc k * 40 + mp k * 4 + mm k) mf md mv nx nF) (WM cI cZ b nC nR nL nF par wt (fun r => nI (sk r)) (fun r => nI (fk r)) mc mp mm mf md mv mder mkn thr) ((ob, .inl (cL, 1, .inr (.inl ov9))) : Nat × va_E))
        refine va_calli (va_runV (As := [.int (nI x.1), .int (nI x.2), .int ui]) (rest := []) ⟨hx, hb, hml, hown, hts⟩ (c5_hang_0 l D cI cZ cO cL dt A b nC nR nL nF par wt (fun r => nI (sk r)) (fun r => nI (fk r)) mc mp mm mf md mv mder mkn thr (WD cI cO a FA nC nR nL nF (upd par x.1 (nI x.2)) (upd wt x.1 (if ui = 0 then -1 else 1)) (fun r => nI (sk r)) (fun r => nI (fk r)) hd rea sig ++ (WF FA (fun k => mc k * 40 + mp k * 4 + mm k) mf md mv nx nF ++ [((ob, .inl (cL, 1, .inr (.inl ov9))) : Nat × va_E)])) L x.1 x.2 ui hT hC12 hc hp ⟨((cOk_iff (n := nC) (by omega)).mpr ⟨x.1, rfl, hc⟩), ((cOk_iff (n := nC) (by omega)).mpr ⟨x.2, rfl, hp⟩)⟩ ha) (cwV 3 hts gL_law_X5_hang rfl rfl rfl (by decide +kernel) ⟨(Nat.le_of_ble_eq_true rfl), (Nat.le_of_ble_eq_true rfl)⟩) (gP.v (hg.on hS) hP 4 rfl 0 rfl ⟨hP, hD⟩) rfl rfl hl.1 rfl (lv_room (Nat.le_of_ble_eq_true rfl)) dL_law_228 ⟨by show cells + 3 + 0 ≤ 601024; omega, by show slots + 18 + 0 ≤ 7293034; omega⟩) hS (fun q _ h => h) (fun q h => h) (fun b9 u8 t8 H locs ht8 hvm8 hw8 hB8 hz8 hk8 hS => ?_)
        rw [ht8] at hB8
        obtain ⟨hP, hD⟩ := hB8
        have hP : va_P D vwCl (WM cI cZ b nC nR nL nF (upd par x.1 (nI x.2)) (upd wt x.1 (if ui = 0 then -1 else 1)) (fun r => nI (sk r)) (fun r => nI (fk r)) mc mp mm mf md mv mder mkn 0 ++ (WD cI cO a FA nC nR nL nF (upd par x.1 (nI x.2)) (upd wt x.1 (if ui = 0 then -1 else 1)) (fun r => nI (sk r)) (fun r => nI (fk r)) hd rea sig ++ (WF FA (fun k => mc k * 40 + mp k * 4 + mm k) mf md mv nx nF ++ [((ob, .inl (cL, 1, .inr (.inl ov9))) : Nat × va_E)]))) H := hP
        have hD : va_D A (WM cI cZ b nC nR nL nF (upd par x.1 (nI x.2)) (upd wt x.1 (if ui = 0 then -1 else 1)) (fun r => nI (sk r)) (fun r => nI (fk r)) mc mp mm mf md mv mder mkn 0 ++ (WD cI cO a FA nC nR nL nF (upd par x.1 (nI x.2)) (upd wt x.1 (if ui = 0 then -1 else 1)) (fun r => nI (sk r)) (fun r => nI (fk r)) hd rea sig ++ (WF FA (fun k => mc k * 40 + mp k * 4 + mm k) mf md mv nx nF ++ [((ob, .inl (cL, 1, .inr (.inl ov9))) : Nat × va_E)]))) := hD
        refine lv_istore (lv' := [(6, .int b9), (5, .int 0), (4, .int (nI i)), (3, .ref ob), (2, .ref (b 0)), (1, .ref (a 0)), (0, .ref b0)]) hx hb dL_law_231 hl (by decide) rfl (fun ls hl => ?_)
        refine lv_aload_n hx hb dL_law_233 rfl (lv_at hl 4 rfl) ?_
        refine g_csi (va_runV (As := []) (rest := []) ⟨hx, hb, hml, hown, hts⟩ (c5_thrown l D cI cZ cO cL dt A b nC nR nL nF (upd par x.1 (nI x.2)) (upd wt x.1 (if ui = 0 then -1 else 1)) (fun r => nI (sk r)) (fun r => nI (fk r)) mc mp mm mf md mv mder mkn 0 (WD cI cO a FA nC nR nL nF (upd par x.1 (nI x.2)) (upd wt x.1 (if ui = 0 then -1 else 1)) (fun r => nI (sk r)) (fun r => nI (fk r)) hd rea sig ++ (WF FA (fun k => mc k * 40 + mp k * 4 + mm k) mf md mv nx nF ++ [((ob, .inl (cL, 1, .inr (.inl ov9))) : Nat × va_E)]))) (cwV 0 hts gL_law_X5_thrown rfl rfl rfl (by decide +kernel) ⟨(Nat.le_of_ble_eq_true rfl), (Nat.le_of_ble_eq_true rfl)⟩) (gP.v (hg.on hS) hP 4 rfl 0 rfl hP) rfl rfl hl.1 rfl (lv_room (Nat.le_of_ble_eq_true rfl)) dL_law_234 ⟨by show cells + 3 + 0 + 0 ≤ 601024; omega, by show slots + 18 + 0 + 0 ≤ 7293034; omega⟩) (fun t7 ht7 => ?_)
        obtain rfl : t7 = 0 := ht7
        have hP := va_P_perm hP (lperm (WD cI cO a FA nC nR nL nF (upd par x.1 (nI x.2)) (upd wt x.1 (if ui = 0 then -1 else 1)) (fun r => nI (sk r)) (fun r => nI (fk r)) hd rea sig) (WF FA (fun k => mc k * 40 + mp k * 4 + mm k) mf md mv nx nF) (WM cI cZ b nC nR nL nF (upd par x.1 (nI x.2)) (upd wt x.1 (if ui = 0 then -1 else 1)) (fun r => nI (sk r)) (fun r => nI (fk r)) mc mp mm mf md mv mder mkn 0) ((ob, .inl (cL, 1, .inr (.inl ov9))) : Nat × va_E)).symm
        have hD := va_D_perm hD (lperm (WD cI cO a FA nC nR nL nF (upd par x.1 (nI x.2)) (upd wt x.1 (if ui = 0 then -1 else 1)) (fun r => nI (sk r)) (fun r => nI (fk r)) hd rea sig) (WF FA (fun k => mc k * 40 + mp k * 4 + mm k) mf md mv nx nF) (WM cI cZ b nC nR nL nF (upd par x.1 (nI x.2)) (upd wt x.1 (if ui = 0 then -1 else 1)) (fun r => nI (sk r)) (fun r => nI (fk r)) mc mp mm mf md mv mder mkn 0) ((ob, .inl (cL, 1, .inr (.inl ov9))) : Nat × va_E)).symm
        have hag : (par x.1).toInt64 = b9.toInt64 := by rw [hw8]
        refine lv_iload hx hb dL_law_237 (lv_at hl 1 rfl) ?_
        refine lv_icmp_eq (tgt := 244) hx hb dL_law_239 (by decide) (fun c_239 => ?_) (fun c_239 => ?_)
        · skip
          refine lv_iload hx hb dL_law_244 (lv_at hl 1 rfl) ?_
          refine lv_if_ne (tgt := 261) hx hb dL_law_246 (by decide) (fun c_246 => ?_) (fun c_246 => ?_)
          · skip
            exact absurd c_246 (by decide)
          · skip
            refine lv_aload_n hx hb dL_law_249 rfl (lv_at hl 3 rfl) ?_
            refine lv_iconst (v := 0) hx hb dL_law_250 (by decide) ?_
            refine va_lald hx hb hK hP (11 + nF) 3 (WDR_at) rfl e_in0 dL_law_251 ?_
            rw [e_z0, hu9, hag]
            refine lv_iload hx hb dL_law_252 (lv_at hl 0 rfl) ?_
            refine lv_i2l (v := (b9).toInt64) hx hb dL_law_254 rfl ?_
            refine W.lcmp hx hb dL_law_255 ?_
            rw [lg_self]
            refine lv_if_eq (tgt := 261) hx hb dL_law_256 (by decide) (fun c_256 => ?_) (fun c_256 => ?_)
            · skip
              refine lv_goto (tgt := 1413) hx hb dL_law_261 (by decide) ?_
              refine W.widen (k := cells + 4) (n := slots + 24) (by omega) (by omega) ?_
              exact kk _ _ _ ⟨FA, nC, nR, nL, nF, (upd par x.1 (nI x.2)), (upd wt x.1 (if ui = 0 then -1 else 1)), sk, fk, hd, rea, sig, mc, mp, mm, mf, md, mv, nx, mder, mkn, 0, ov9, L9, hOk9, hP, hD⟩ hS (lv_sub hl [2, 3, 4, 5, 6] rfl)
            · skip
              exact absurd c_256 (by decide)
        · skip
          exact absurd c_239 (by decide)
      · skip
        exact absurd c_187 c_220
    · skip
      obtain rfl : ux = none := hx9
      have hB9 : va_P D vwCl (WD cI cO a FA nC nR nL nF par wt (fun r => nI (sk r)) (fun r => nI (fk r)) hd rea sig ++ (WF FA (fun k => mc k * 40 + mp k * 4 + mm k) mf md mv nx nF ++ ((ob, .inl (cL, 1, .inr (.inl ov9))) : Nat × va_E) :: WM cI cZ b nC nR nL nF par wt (fun r => nI (sk r)) (fun r => nI (fk r)) mc mp mm mf md mv mder mkn thr)) H ∧ va_D A (WD cI cO a FA nC nR nL nF par wt (fun r => nI (sk r)) (fun r => nI (fk r)) hd rea sig ++ (WF FA (fun k => mc k * 40 + mp k * 4 + mm k) mf md mv nx nF ++ ((ob, .inl (cL, 1, .inr (.inl ov9))) : Nat × va_E) :: WM cI cZ b nC nR nL nF par wt (fun r => nI (sk r)) (fun r => nI (fk r)) mc mp mm mf md mv mder mkn thr)) := hB9
      obtain ⟨hP, hD⟩ := hB9
      refine lv_istore (lv' := [(5, .int 1), (4, .int (nI i)), (3, .ref ob), (2, .ref (b 0)), (1, .ref (a 0)), (0, .ref b0)]) hx hb dL_law_199 hl (by decide) rfl (fun ls hl => ?_)
      refine lv_aload_n hx hb dL_law_201 rfl (lv_at hl 3 rfl) ?_
      refine lv_aload_n hx hb dL_law_202 rfl (lv_at hl 5 rfl) ?_
      refine lv_iload hx hb dL_law_203 (lv_at hl 1 rfl) ?_
      refine lv_iconst (v := 1) hx hb dL_law_205 (by decide) ?_
      refine lv_iadd hx hb dL_law_206 ?_
      refine lv_topi (fun dv edv => ?_)
      obtain rfl : dv = nI (i + 1) := by rw [edv]; exact nI_add i 1
      refine va_sld hx hb hX hb0 hbA hS (vp_in_nI (n := (i + 1)) (by omega) (by omega)) dL_law_207 ?_
      rw [nI_clamp (by omega)]
      refine lv_aload_n hx hb dL_law_208 rfl (lv_at hl 5 rfl) ?_
      refine lv_iload hx hb dL_law_209 (lv_at hl 1 rfl) ?_
      refine lv_iconst (v := 2) hx hb dL_law_211 (by decide) ?_
      refine lv_iadd hx hb dL_law_212 ?_
      refine lv_topi (fun dv edv => ?_)
      obtain rfl : dv = nI (i + 2) := by rw [edv]; exact nI_add i 2
      refine va_sld hx hb hX hb0 hbA hS (vp_in_nI (n := (i + 2)) (by omega) (by omega)) dL_law_213 ?_
      rw [nI_clamp (by omega)]
      refine lv_aload_n hx hb dL_law_214 rfl (lv_at hl 5 rfl) ?_
      refine lv_iload hx hb dL_law_215 (lv_at hl 1 rfl) ?_
      refine lv_iconst (v := 3) hx hb dL_law_217 (by decide) ?_
      refine lv_iadd hx hb dL_law_218 ?_
      refine lv_topi (fun dv edv => ?_)
      obtain rfl : dv = nI (i + 3) := by rw [edv]; exact nI_add i 3
      refine va_sld hx hb hX hb0 hbA hS (vp_in_nI (n := (i + 3)) (by omega) (by omega)) dL_law_219 ?_
      rw [nI_clamp (by omega)]
      refine lv_if_eq (tgt := 227) hx hb dL_law_220 (by decide) (fun c_220 => ?_) (fun c_220 => ?_)
      · skip
        refine lv_iconst (v := 0) hx hb dL_law_227 (by decide) ?_
        refine lv_topi (fun ui2 eui2 => ?_)
        rw [eui2.trans eui.symm]
        have hP := va_P_perm hP (lperm (WD cI cO a FA nC nR nL nF par wt (fun r => nI (sk r)) (fun r => nI (fk r)) hd rea sig) (WF FA (fun k => mc k * 40 + mp k * 4 + mm k) mf md mv nx nF) (WM cI cZ b nC nR nL nF par wt (fun r => nI (sk r)) (fun r => nI (fk r)) mc mp mm mf md mv mder mkn thr) ((ob, .inl (cL, 1, .inr (.inl ov9))) : Nat × va_E))
        have hD := va_D_perm hD (lperm (WD cI cO a FA nC nR nL nF par wt (fun r => nI (sk r)) (fun r => nI (fk r)) hd rea sig) (WF FA (fun k => mc k * 40 + mp k * 4 + mm k) mf md mv nx nF) (WM cI cZ b nC nR nL nF par wt (fun r => nI (sk r)) (fun r => nI (fk r)) mc mp mm mf md mv mder mkn thr) ((ob, .inl (cL, 1, .inr (.inl ov9))) : Nat × va_E))
        refine va_calli (va_runV (As := [.int (xs (i + 1)), .int (xs (i + 2)), .int ui]) (rest := []) ⟨hx, hb, hml, hown, hts⟩ (c5_hang_1 l D cI cZ cO cL dt A b nC nR nL nF par wt (fun r => nI (sk r)) (fun r => nI (fk r)) mc mp mm mf md mv mder mkn thr (WD cI cO a FA nC nR nL nF par wt (fun r => nI (sk r)) (fun r => nI (fk r)) hd rea sig ++ (WF FA (fun k => mc k * 40 + mp k * 4 + mm k) mf md mv nx nF ++ [((ob, .inl (cL, 1, .inr (.inl ov9))) : Nat × va_E)])) (xs (i + 1)) (xs (i + 2)) ui (fun z => hR9 ⟨((cOk_iff (n := nC) (by omega)).mp z.1), ((cOk_iff (n := nC) (by omega)).mp z.2)⟩)) (cwV 3 hts gL_law_X5_hang rfl rfl rfl (by decide +kernel) ⟨(Nat.le_of_ble_eq_true rfl), (Nat.le_of_ble_eq_true rfl)⟩) (gP.v (hg.on hS) hP 4 rfl 0 rfl ⟨hP, hD⟩) rfl rfl hl.1 rfl (lv_room (Nat.le_of_ble_eq_true rfl)) dL_law_228 ⟨by show cells + 3 + 0 ≤ 601024; omega, by show slots + 18 + 0 ≤ 7293034; omega⟩) hS (fun q _ h => h) (fun q h => h) (fun b9 u8 t8 H locs ht8 hvm8 hw8 hB8 hz8 hk8 hS => ?_)
        rw [ht8] at hB8
        obtain ⟨hP, hD⟩ := hB8
        have hP : va_P D vwCl (WM cI cZ b nC nR nL nF par wt (fun r => nI (sk r)) (fun r => nI (fk r)) mc mp mm mf md mv mder mkn 1 ++ (WD cI cO a FA nC nR nL nF par wt (fun r => nI (sk r)) (fun r => nI (fk r)) hd rea sig ++ (WF FA (fun k => mc k * 40 + mp k * 4 + mm k) mf md mv nx nF ++ [((ob, .inl (cL, 1, .inr (.inl ov9))) : Nat × va_E)]))) H := hP
        have hD : va_D A (WM cI cZ b nC nR nL nF par wt (fun r => nI (sk r)) (fun r => nI (fk r)) mc mp mm mf md mv mder mkn 1 ++ (WD cI cO a FA nC nR nL nF par wt (fun r => nI (sk r)) (fun r => nI (fk r)) hd rea sig ++ (WF FA (fun k => mc k * 40 + mp k * 4 + mm k) mf md mv nx nF ++ [((ob, .inl (cL, 1, .inr (.inl ov9))) : Nat × va_E)]))) := hD
        refine lv_istore (lv' := [(6, .int b9), (5, .int 1), (4, .int (nI i)), (3, .ref ob), (2, .ref (b 0)), (1, .ref (a 0)), (0, .ref b0)]) hx hb dL_law_231 hl (by decide) rfl (fun ls hl => ?_)
        refine lv_aload_n hx hb dL_law_233 rfl (lv_at hl 4 rfl) ?_
        refine g_csi (va_runV (As := []) (rest := []) ⟨hx, hb, hml, hown, hts⟩ (c5_thrown l D cI cZ cO cL dt A b nC nR nL nF par wt (fun r => nI (sk r)) (fun r => nI (fk r)) mc mp mm mf md mv mder mkn 1 (WD cI cO a FA nC nR nL nF par wt (fun r => nI (sk r)) (fun r => nI (fk r)) hd rea sig ++ (WF FA (fun k => mc k * 40 + mp k * 4 + mm k) mf md mv nx nF ++ [((ob, .inl (cL, 1, .inr (.inl ov9))) : Nat × va_E)]))) (cwV 0 hts gL_law_X5_thrown rfl rfl rfl (by decide +kernel) ⟨(Nat.le_of_ble_eq_true rfl), (Nat.le_of_ble_eq_true rfl)⟩) (gP.v (hg.on hS) hP 4 rfl 0 rfl hP) rfl rfl hl.1 rfl (lv_room (Nat.le_of_ble_eq_true rfl)) dL_law_234 ⟨by show cells + 3 + 0 + 0 ≤ 601024; omega, by show slots + 18 + 0 + 0 ≤ 7293034; omega⟩) (fun t7 ht7 => ?_)
        obtain rfl : t7 = 1 := ht7
        have hP := va_P_perm hP (lperm (WD cI cO a FA nC nR nL nF par wt (fun r => nI (sk r)) (fun r => nI (fk r)) hd rea sig) (WF FA (fun k => mc k * 40 + mp k * 4 + mm k) mf md mv nx nF) (WM cI cZ b nC nR nL nF par wt (fun r => nI (sk r)) (fun r => nI (fk r)) mc mp mm mf md mv mder mkn 1) ((ob, .inl (cL, 1, .inr (.inl ov9))) : Nat × va_E)).symm
        have hD := va_D_perm hD (lperm (WD cI cO a FA nC nR nL nF par wt (fun r => nI (sk r)) (fun r => nI (fk r)) hd rea sig) (WF FA (fun k => mc k * 40 + mp k * 4 + mm k) mf md mv nx nF) (WM cI cZ b nC nR nL nF par wt (fun r => nI (sk r)) (fun r => nI (fk r)) mc mp mm mf md mv mder mkn 1) ((ob, .inl (cL, 1, .inr (.inl ov9))) : Nat × va_E)).symm
        refine lv_iload hx hb dL_law_237 (lv_at hl 1 rfl) ?_
        refine lv_icmp_eq (tgt := 244) hx hb dL_law_239 (by decide) (fun c_239 => ?_) (fun c_239 => ?_)
        · skip
          refine lv_iload hx hb dL_law_244 (lv_at hl 1 rfl) ?_
          refine lv_if_ne (tgt := 261) hx hb dL_law_246 (by decide) (fun c_246 => ?_) (fun c_246 => ?_)
          · skip
            refine lv_goto (tgt := 1413) hx hb dL_law_261 (by decide) ?_
            refine W.widen (k := cells + 4) (n := slots + 24) (by omega) (by omega) ?_
            exact kk _ _ _ ⟨FA, nC, nR, nL, nF, par, wt, sk, fk, hd, rea, sig, mc, mp, mm, mf, md, mv, nx, mder, mkn, 1, ov9, L, hOk, hP, hD⟩ hS (lv_sub hl [2, 3, 4, 5, 6] rfl)
          · skip
            exact absurd c_246 (by decide)
        · skip
          exact absurd c_239 (by decide)
      · skip
        exact absurd c_187 c_220
    · skip
      obtain rfl : ux = none := hx9
      have hB9 : va_P D vwCl (WD cI cO a FA nC nR nL nF par wt (fun r => nI (sk r)) (fun r => nI (fk r)) hd rea sig ++ (WF FA (fun k => mc k * 40 + mp k * 4 + mm k) mf md mv nx nF ++ ((ob, .inl (cL, 1, .inr (.inl ov9))) : Nat × va_E) :: WM cI cZ b nC nR nL nF par wt (fun r => nI (sk r)) (fun r => nI (fk r)) mc mp mm mf md mv mder mkn thr)) H ∧ va_D A (WD cI cO a FA nC nR nL nF par wt (fun r => nI (sk r)) (fun r => nI (fk r)) hd rea sig ++ (WF FA (fun k => mc k * 40 + mp k * 4 + mm k) mf md mv nx nF ++ ((ob, .inl (cL, 1, .inr (.inl ov9))) : Nat × va_E) :: WM cI cZ b nC nR nL nF par wt (fun r => nI (sk r)) (fun r => nI (fk r)) mc mp mm mf md mv mder mkn thr)) := hB9
      obtain ⟨hP, hD⟩ := hB9
      obtain ⟨c1, p1, ⟨hc9, hc⟩, ⟨hp9, hp⟩, ha⟩ := hR9
      refine lv_istore (lv' := [(5, .int 2), (4, .int (nI i)), (3, .ref ob), (2, .ref (b 0)), (1, .ref (a 0)), (0, .ref b0)]) hx hb dL_law_199 hl (by decide) rfl (fun ls hl => ?_)
      refine lv_aload_n hx hb dL_law_201 rfl (lv_at hl 3 rfl) ?_
      refine lv_aload_n hx hb dL_law_202 rfl (lv_at hl 5 rfl) ?_
      refine lv_iload hx hb dL_law_203 (lv_at hl 1 rfl) ?_
      refine lv_iconst (v := 1) hx hb dL_law_205 (by decide) ?_
      refine lv_iadd hx hb dL_law_206 ?_
      refine lv_topi (fun dv edv => ?_)
      obtain rfl : dv = nI (i + 1) := by rw [edv]; exact nI_add i 1
      refine va_sld hx hb hX hb0 hbA hS (vp_in_nI (n := (i + 1)) (by omega) (by omega)) dL_law_207 ?_
      rw [nI_clamp (by omega)]
      rw [hc9]
      refine lv_aload_n hx hb dL_law_208 rfl (lv_at hl 5 rfl) ?_
      refine lv_iload hx hb dL_law_209 (lv_at hl 1 rfl) ?_
      refine lv_iconst (v := 2) hx hb dL_law_211 (by decide) ?_
      refine lv_iadd hx hb dL_law_212 ?_
      refine lv_topi (fun dv edv => ?_)
      obtain rfl : dv = nI (i + 2) := by rw [edv]; exact nI_add i 2
      refine va_sld hx hb hX hb0 hbA hS (vp_in_nI (n := (i + 2)) (by omega) (by omega)) dL_law_213 ?_
      rw [nI_clamp (by omega)]
      rw [hp9]
      refine lv_aload_n hx hb dL_law_214 rfl (lv_at hl 5 rfl) ?_
      refine lv_iload hx hb dL_law_215 (lv_at hl 1 rfl) ?_
      refine lv_iconst (v := 3) hx hb dL_law_217 (by decide) ?_
      refine lv_iadd hx hb dL_law_218 ?_
      refine lv_topi (fun dv edv => ?_)
      obtain rfl : dv = nI (i + 3) := by rw [edv]; exact nI_add i 3
      refine va_sld hx hb hX hb0 hbA hS (vp_in_nI (n := (i + 3)) (by omega) (by omega)) dL_law_219 ?_
      rw [nI_clamp (by omega)]
      refine lv_if_eq (tgt := 227) hx hb dL_law_220 (by decide) (fun c_220 => ?_) (fun c_220 => ?_)
      · skip
        refine lv_iconst (v := 0) hx hb dL_law_227 (by decide) ?_
        refine lv_topi (fun ui2 eui2 => ?_)
        rw [eui2.trans eui.symm]
        have hP := va_P_perm hP (lperm (WD cI cO a FA nC nR nL nF par wt (fun r => nI (sk r)) (fun r => nI (fk r)) hd rea sig) (WF FA (fun k => mc k * 40 + mp k * 4 + mm k) mf md mv nx nF) (WM cI cZ b nC nR nL nF par wt (fun r => nI (sk r)) (fun r => nI (fk r)) mc mp mm mf md mv mder mkn thr) ((ob, .inl (cL, 1, .inr (.inl ov9))) : Nat × va_E))
        have hD := va_D_perm hD (lperm (WD cI cO a FA nC nR nL nF par wt (fun r => nI (sk r)) (fun r => nI (fk r)) hd rea sig) (WF FA (fun k => mc k * 40 + mp k * 4 + mm k) mf md mv nx nF) (WM cI cZ b nC nR nL nF par wt (fun r => nI (sk r)) (fun r => nI (fk r)) mc mp mm mf md mv mder mkn thr) ((ob, .inl (cL, 1, .inr (.inl ov9))) : Nat × va_E))
        refine va_calli (va_runV (As := [.int (nI c1), .int (nI p1), .int ui]) (rest := []) ⟨hx, hb, hml, hown, hts⟩ (c5_hang_2 l D cI cZ cO cL dt A b nC nR nL nF par wt (fun r => nI (sk r)) (fun r => nI (fk r)) mc mp mm mf md mv mder mkn thr (WD cI cO a FA nC nR nL nF par wt (fun r => nI (sk r)) (fun r => nI (fk r)) hd rea sig ++ (WF FA (fun k => mc k * 40 + mp k * 4 + mm k) mf md mv nx nF ++ [((ob, .inl (cL, 1, .inr (.inl ov9))) : Nat × va_E)])) L c1 p1 ui hT hC12 hc hp ⟨((cOk_iff (n := nC) (by omega)).mpr ⟨c1, rfl, hc⟩), ((cOk_iff (n := nC) (by omega)).mpr ⟨p1, rfl, hp⟩)⟩ ha) (cwV 3 hts gL_law_X5_hang rfl rfl rfl (by decide +kernel) ⟨(Nat.le_of_ble_eq_true rfl), (Nat.le_of_ble_eq_true rfl)⟩) (gP.v (hg.on hS) hP 4 rfl 0 rfl ⟨hP, hD⟩) rfl rfl hl.1 rfl (lv_room (Nat.le_of_ble_eq_true rfl)) dL_law_228 ⟨by show cells + 3 + 0 ≤ 601024; omega, by show slots + 18 + 0 ≤ 7293034; omega⟩) hS (fun q _ h => h) (fun q h => h) (fun b9 u8 t8 H locs ht8 hvm8 hw8 hB8 hz8 hk8 hS => ?_)
        rw [ht8] at hB8
        obtain ⟨hP, hD⟩ := hB8
        have hP : va_P D vwCl (WM cI cZ b nC nR nL nF par wt (fun r => nI (sk r)) (fun r => nI (fk r)) mc mp mm mf md mv mder mkn 2 ++ (WD cI cO a FA nC nR nL nF par wt (fun r => nI (sk r)) (fun r => nI (fk r)) hd rea sig ++ (WF FA (fun k => mc k * 40 + mp k * 4 + mm k) mf md mv nx nF ++ [((ob, .inl (cL, 1, .inr (.inl ov9))) : Nat × va_E)]))) H := hP
        have hD : va_D A (WM cI cZ b nC nR nL nF par wt (fun r => nI (sk r)) (fun r => nI (fk r)) mc mp mm mf md mv mder mkn 2 ++ (WD cI cO a FA nC nR nL nF par wt (fun r => nI (sk r)) (fun r => nI (fk r)) hd rea sig ++ (WF FA (fun k => mc k * 40 + mp k * 4 + mm k) mf md mv nx nF ++ [((ob, .inl (cL, 1, .inr (.inl ov9))) : Nat × va_E)]))) := hD
        refine lv_istore (lv' := [(6, .int b9), (5, .int 2), (4, .int (nI i)), (3, .ref ob), (2, .ref (b 0)), (1, .ref (a 0)), (0, .ref b0)]) hx hb dL_law_231 hl (by decide) rfl (fun ls hl => ?_)
        refine lv_aload_n hx hb dL_law_233 rfl (lv_at hl 4 rfl) ?_
        refine g_csi (va_runV (As := []) (rest := []) ⟨hx, hb, hml, hown, hts⟩ (c5_thrown l D cI cZ cO cL dt A b nC nR nL nF par wt (fun r => nI (sk r)) (fun r => nI (fk r)) mc mp mm mf md mv mder mkn 2 (WD cI cO a FA nC nR nL nF par wt (fun r => nI (sk r)) (fun r => nI (fk r)) hd rea sig ++ (WF FA (fun k => mc k * 40 + mp k * 4 + mm k) mf md mv nx nF ++ [((ob, .inl (cL, 1, .inr (.inl ov9))) : Nat × va_E)]))) (cwV 0 hts gL_law_X5_thrown rfl rfl rfl (by decide +kernel) ⟨(Nat.le_of_ble_eq_true rfl), (Nat.le_of_ble_eq_true rfl)⟩) (gP.v (hg.on hS) hP 4 rfl 0 rfl hP) rfl rfl hl.1 rfl (lv_room (Nat.le_of_ble_eq_true rfl)) dL_law_234 ⟨by show cells + 3 + 0 + 0 ≤ 601024; omega, by show slots + 18 + 0 + 0 ≤ 7293034; omega⟩) (fun t7 ht7 => ?_)
        obtain rfl : t7 = 2 := ht7
        have hP := va_P_perm hP (lperm (WD cI cO a FA nC nR nL nF par wt (fun r => nI (sk r)) (fun r => nI (fk r)) hd rea sig) (WF FA (fun k => mc k * 40 + mp k * 4 + mm k) mf md mv nx nF) (WM cI cZ b nC nR nL nF par wt (fun r => nI (sk r)) (fun r => nI (fk r)) mc mp mm mf md mv mder mkn 2) ((ob, .inl (cL, 1, .inr (.inl ov9))) : Nat × va_E)).symm
        have hD := va_D_perm hD (lperm (WD cI cO a FA nC nR nL nF par wt (fun r => nI (sk r)) (fun r => nI (fk r)) hd rea sig) (WF FA (fun k => mc k * 40 + mp k * 4 + mm k) mf md mv nx nF) (WM cI cZ b nC nR nL nF par wt (fun r => nI (sk r)) (fun r => nI (fk r)) mc mp mm mf md mv mder mkn 2) ((ob, .inl (cL, 1, .inr (.inl ov9))) : Nat × va_E)).symm
        refine lv_iload hx hb dL_law_237 (lv_at hl 1 rfl) ?_
        refine lv_icmp_eq (tgt := 244) hx hb dL_law_239 (by decide) (fun c_239 => ?_) (fun c_239 => ?_)
        · skip
          refine lv_iload hx hb dL_law_244 (lv_at hl 1 rfl) ?_
          refine lv_if_ne (tgt := 261) hx hb dL_law_246 (by decide) (fun c_246 => ?_) (fun c_246 => ?_)
          · skip
            refine lv_goto (tgt := 1413) hx hb dL_law_261 (by decide) ?_
            refine W.widen (k := cells + 4) (n := slots + 24) (by omega) (by omega) ?_
            exact kk _ _ _ ⟨FA, nC, nR, nL, nF, par, wt, sk, fk, hd, rea, sig, mc, mp, mm, mf, md, mv, nx, mder, mkn, 2, ov9, L, hOk, hP, hD⟩ hS (lv_sub hl [2, 3, 4, 5, 6] rfl)
          · skip
            exact absurd c_246 (by decide)
        · skip
          exact absurd c_239 (by decide)
      · skip
        exact absurd c_187 c_220
  · skip
    refine lv_iconst (v := 1) hx hb dL_law_190 (by decide) ?_
    refine lv_goto (tgt := 195) hx hb dL_law_191 (by decide) ?_
    refine lv_topi (fun ui eui => ?_)
    refine lv_aload_n hx hb dL_law_195 rfl (lv_at hl 1 rfl) ?_
    refine va_calli (vx_runSW (hh := [(0, 12, 15, 19), (0, 12, 19, 21)]) (As := [.ref (a 0), .int (xs (i + 1)), .int (xs (i + 2)), .int ui, .ref ob]) (rest := []) ⟨hx, hb, hml, hown, hts⟩ (kL_hang l D cI cZ cO cL dt A a FA nC nR nL nF par wt (fun r => nI (sk r)) (fun r => nI (fk r)) hd rea sig (fun k => mc k * 40 + mp k * 4 + mm k) mf md mv nx (WM cI cZ b nC nR nL nF par wt (fun r => nI (sk r)) (fun r => nI (fk r)) mc mp mm mf md mv mder mkn thr) ob ov L (xs (i + 1)) (xs (i + 2)) ui hlt hC12 hL8 hT) (vx_cwSW 5 hts gL_law_L_hang rfl rfl rfl (by decide +kernel) ⟨(Nat.le_of_ble_eq_true rfl), (Nat.le_of_ble_eq_true rfl)⟩) (gP.s (hg.on hS) ⟨hP, hD⟩) rfl rfl hl.1 rfl (lv_room (Nat.le_of_ble_eq_true rfl)) dL_law_196 ⟨by show cells + 3 ≤ 601024; omega, by show slots + 18 ≤ 7293034; omega⟩) hS (fun q _ h => h) (fun q h => h) (fun k9 u9 t9 H locs ht9 hvm9 hw9 hB9 hz9 hk9 hS => ?_)
    rw [ht9] at hB9
    obtain ⟨ov9, ux⟩ := u9
    rcases hw9 with ⟨rfl, r9, x, hx9, hu9, hpost⟩ | ⟨hx9, (⟨rfl, hR9⟩ | ⟨rfl, hR9⟩)⟩
    · skip
      obtain rfl : ux = some x := hx9
      have hu9 : ov9 0 = _ := hu9
      have hB9 : va_P D vwCl (WD cI cO a FA nC nR nL nF (upd par x.1 (nI x.2)) (upd wt x.1 (if ui = 0 then -1 else 1)) (fun r => nI (sk r)) (fun r => nI (fk r)) hd rea sig ++ (WF FA (fun k => mc k * 40 + mp k * 4 + mm k) mf md mv nx nF ++ ((ob, .inl (cL, 1, .inr (.inl ov9))) : Nat × va_E) :: WM cI cZ b nC nR nL nF par wt (fun r => nI (sk r)) (fun r => nI (fk r)) mc mp mm mf md mv mder mkn thr)) H ∧ va_D A (WD cI cO a FA nC nR nL nF (upd par x.1 (nI x.2)) (upd wt x.1 (if ui = 0 then -1 else 1)) (fun r => nI (sk r)) (fun r => nI (fk r)) hd rea sig ++ (WF FA (fun k => mc k * 40 + mp k * 4 + mm k) mf md mv nx nF ++ ((ob, .inl (cL, 1, .inr (.inl ov9))) : Nat × va_E) :: WM cI cZ b nC nR nL nF par wt (fun r => nI (sk r)) (fun r => nI (fk r)) mc mp mm mf md mv mder mkn thr)) := hB9
      obtain ⟨hP, hD⟩ := hB9
      obtain ⟨⟨hc9, hc⟩, ⟨hp9, hp⟩, ha, rfl⟩ := hpost
      obtain ⟨L9, hOk9⟩ := lOk_hang hOk hc hp ha ui
      refine lv_istore (lv' := [(5, .int 0), (4, .int (nI i)), (3, .ref ob), (2, .ref (b 0)), (1, .ref (a 0)), (0, .ref b0)]) hx hb dL_law_199 hl (by decide) rfl (fun ls hl => ?_)
      refine lv_aload_n hx hb dL_law_201 rfl (lv_at hl 3 rfl) ?_
      refine lv_aload_n hx hb dL_law_202 rfl (lv_at hl 5 rfl) ?_
      refine lv_iload hx hb dL_law_203 (lv_at hl 1 rfl) ?_
      refine lv_iconst (v := 1) hx hb dL_law_205 (by decide) ?_
      refine lv_iadd hx hb dL_law_206 ?_
      refine lv_topi (fun dv edv => ?_)
      obtain rfl : dv = nI (i + 1) := by rw [edv]; exact nI_add i 1
      refine va_sld hx hb hX hb0 hbA hS (vp_in_nI (n := (i + 1)) (by omega) (by omega)) dL_law_207 ?_
      rw [nI_clamp (by omega)]
      rw [hc9]
      refine lv_aload_n hx hb dL_law_208 rfl (lv_at hl 5 rfl) ?_
      refine lv_iload hx hb dL_law_209 (lv_at hl 1 rfl) ?_
      refine lv_iconst (v := 2) hx hb dL_law_211 (by decide) ?_
      refine lv_iadd hx hb dL_law_212 ?_
      refine lv_topi (fun dv edv => ?_)
      obtain rfl : dv = nI (i + 2) := by rw [edv]; exact nI_add i 2
      refine va_sld hx hb hX hb0 hbA hS (vp_in_nI (n := (i + 2)) (by omega) (by omega)) dL_law_213 ?_
      rw [nI_clamp (by omega)]
      rw [hp9]
      refine lv_aload_n hx hb dL_law_214 rfl (lv_at hl 5 rfl) ?_
      refine lv_iload hx hb dL_law_215 (lv_at hl 1 rfl) ?_
      refine lv_iconst (v := 3) hx hb dL_law_217 (by decide) ?_
      refine lv_iadd hx hb dL_law_218 ?_
      refine lv_topi (fun dv edv => ?_)
      obtain rfl : dv = nI (i + 3) := by rw [edv]; exact nI_add i 3
      refine va_sld hx hb hX hb0 hbA hS (vp_in_nI (n := (i + 3)) (by omega) (by omega)) dL_law_219 ?_
      rw [nI_clamp (by omega)]
      refine lv_if_eq (tgt := 227) hx hb dL_law_220 (by decide) (fun c_220 => ?_) (fun c_220 => ?_)
      · skip
        exact absurd c_220 c_187
      · skip
        refine lv_iconst (v := 1) hx hb dL_law_223 (by decide) ?_
        refine lv_goto (tgt := 228) hx hb dL_law_224 (by decide) ?_
        refine lv_topi (fun ui2 eui2 => ?_)
        rw [eui2.trans eui.symm]
        have hP := va_P_perm hP (lperm (WD cI cO a FA nC nR nL nF (upd par x.1 (nI x.2)) (upd wt x.1 (if ui = 0 then -1 else 1)) (fun r => nI (sk r)) (fun r => nI (fk r)) hd rea sig) (WF FA (fun k => mc k * 40 + mp k * 4 + mm k) mf md mv nx nF) (WM cI cZ b nC nR nL nF par wt (fun r => nI (sk r)) (fun r => nI (fk r)) mc mp mm mf md mv mder mkn thr) ((ob, .inl (cL, 1, .inr (.inl ov9))) : Nat × va_E))
        have hD := va_D_perm hD (lperm (WD cI cO a FA nC nR nL nF (upd par x.1 (nI x.2)) (upd wt x.1 (if ui = 0 then -1 else 1)) (fun r => nI (sk r)) (fun r => nI (fk r)) hd rea sig) (WF FA (fun k => mc k * 40 + mp k * 4 + mm k) mf md mv nx nF) (WM cI cZ b nC nR nL nF par wt (fun r => nI (sk r)) (fun r => nI (fk r)) mc mp mm mf md mv mder mkn thr) ((ob, .inl (cL, 1, .inr (.inl ov9))) : Nat × va_E))
        refine va_calli (va_runV (As := [.int (nI x.1), .int (nI x.2), .int ui]) (rest := []) ⟨hx, hb, hml, hown, hts⟩ (c5_hang_0 l D cI cZ cO cL dt A b nC nR nL nF par wt (fun r => nI (sk r)) (fun r => nI (fk r)) mc mp mm mf md mv mder mkn thr (WD cI cO a FA nC nR nL nF (upd par x.1 (nI x.2)) (upd wt x.1 (if ui = 0 then -1 else 1)) (fun r => nI (sk r)) (fun r => nI (fk r)) hd rea sig ++ (WF FA (fun k => mc k * 40 + mp k * 4 + mm k) mf md mv nx nF ++ [((ob, .inl (cL, 1, .inr (.inl ov9))) : Nat × va_E)])) L x.1 x.2 ui hT hC12 hc hp ⟨((cOk_iff (n := nC) (by omega)).mpr ⟨x.1, rfl, hc⟩), ((cOk_iff (n := nC) (by omega)).mpr ⟨x.2, rfl, hp⟩)⟩ ha) (cwV 3 hts gL_law_X5_hang rfl rfl rfl (by decide +kernel) ⟨(Nat.le_of_ble_eq_true rfl), (Nat.le_of_ble_eq_true rfl)⟩) (gP.v (hg.on hS) hP 4 rfl 0 rfl ⟨hP, hD⟩) rfl rfl hl.1 rfl (lv_room (Nat.le_of_ble_eq_true rfl)) dL_law_228 ⟨by show cells + 3 + 0 ≤ 601024; omega, by show slots + 18 + 0 ≤ 7293034; omega⟩) hS (fun q _ h => h) (fun q h => h) (fun b9 u8 t8 H locs ht8 hvm8 hw8 hB8 hz8 hk8 hS => ?_)
        rw [ht8] at hB8
        obtain ⟨hP, hD⟩ := hB8
        have hP : va_P D vwCl (WM cI cZ b nC nR nL nF (upd par x.1 (nI x.2)) (upd wt x.1 (if ui = 0 then -1 else 1)) (fun r => nI (sk r)) (fun r => nI (fk r)) mc mp mm mf md mv mder mkn 0 ++ (WD cI cO a FA nC nR nL nF (upd par x.1 (nI x.2)) (upd wt x.1 (if ui = 0 then -1 else 1)) (fun r => nI (sk r)) (fun r => nI (fk r)) hd rea sig ++ (WF FA (fun k => mc k * 40 + mp k * 4 + mm k) mf md mv nx nF ++ [((ob, .inl (cL, 1, .inr (.inl ov9))) : Nat × va_E)]))) H := hP
        have hD : va_D A (WM cI cZ b nC nR nL nF (upd par x.1 (nI x.2)) (upd wt x.1 (if ui = 0 then -1 else 1)) (fun r => nI (sk r)) (fun r => nI (fk r)) mc mp mm mf md mv mder mkn 0 ++ (WD cI cO a FA nC nR nL nF (upd par x.1 (nI x.2)) (upd wt x.1 (if ui = 0 then -1 else 1)) (fun r => nI (sk r)) (fun r => nI (fk r)) hd rea sig ++ (WF FA (fun k => mc k * 40 + mp k * 4 + mm k) mf md mv nx nF ++ [((ob, .inl (cL, 1, .inr (.inl ov9))) : Nat × va_E)]))) := hD
        refine lv_istore (lv' := [(6, .int b9), (5, .int 0), (4, .int (nI i)), (3, .ref ob), (2, .ref (b 0)), (1, .ref (a 0)), (0, .ref b0)]) hx hb dL_law_231 hl (by decide) rfl (fun ls hl => ?_)
        refine lv_aload_n hx hb dL_law_233 rfl (lv_at hl 4 rfl) ?_
        refine g_csi (va_runV (As := []) (rest := []) ⟨hx, hb, hml, hown, hts⟩ (c5_thrown l D cI cZ cO cL dt A b nC nR nL nF (upd par x.1 (nI x.2)) (upd wt x.1 (if ui = 0 then -1 else 1)) (fun r => nI (sk r)) (fun r => nI (fk r)) mc mp mm mf md mv mder mkn 0 (WD cI cO a FA nC nR nL nF (upd par x.1 (nI x.2)) (upd wt x.1 (if ui = 0 then -1 else 1)) (fun r => nI (sk r)) (fun r => nI (fk r)) hd rea sig ++ (WF FA (fun k => mc k * 40 + mp k * 4 + mm k) mf md mv nx nF ++ [((ob, .inl (cL, 1, .inr (.inl ov9))) : Nat × va_E)]))) (cwV 0 hts gL_law_X5_thrown rfl rfl rfl (by decide +kernel) ⟨(Nat.le_of_ble_eq_true rfl), (Nat.le_of_ble_eq_true rfl)⟩) (gP.v (hg.on hS) hP 4 rfl 0 rfl hP) rfl rfl hl.1 rfl (lv_room (Nat.le_of_ble_eq_true rfl)) dL_law_234 ⟨by show cells + 3 + 0 + 0 ≤ 601024; omega, by show slots + 18 + 0 + 0 ≤ 7293034; omega⟩) (fun t7 ht7 => ?_)
        obtain rfl : t7 = 0 := ht7
        have hP := va_P_perm hP (lperm (WD cI cO a FA nC nR nL nF (upd par x.1 (nI x.2)) (upd wt x.1 (if ui = 0 then -1 else 1)) (fun r => nI (sk r)) (fun r => nI (fk r)) hd rea sig) (WF FA (fun k => mc k * 40 + mp k * 4 + mm k) mf md mv nx nF) (WM cI cZ b nC nR nL nF (upd par x.1 (nI x.2)) (upd wt x.1 (if ui = 0 then -1 else 1)) (fun r => nI (sk r)) (fun r => nI (fk r)) mc mp mm mf md mv mder mkn 0) ((ob, .inl (cL, 1, .inr (.inl ov9))) : Nat × va_E)).symm
        have hD := va_D_perm hD (lperm (WD cI cO a FA nC nR nL nF (upd par x.1 (nI x.2)) (upd wt x.1 (if ui = 0 then -1 else 1)) (fun r => nI (sk r)) (fun r => nI (fk r)) hd rea sig) (WF FA (fun k => mc k * 40 + mp k * 4 + mm k) mf md mv nx nF) (WM cI cZ b nC nR nL nF (upd par x.1 (nI x.2)) (upd wt x.1 (if ui = 0 then -1 else 1)) (fun r => nI (sk r)) (fun r => nI (fk r)) mc mp mm mf md mv mder mkn 0) ((ob, .inl (cL, 1, .inr (.inl ov9))) : Nat × va_E)).symm
        have hag : (par x.1).toInt64 = b9.toInt64 := by rw [hw8]
        refine lv_iload hx hb dL_law_237 (lv_at hl 1 rfl) ?_
        refine lv_icmp_eq (tgt := 244) hx hb dL_law_239 (by decide) (fun c_239 => ?_) (fun c_239 => ?_)
        · skip
          refine lv_iload hx hb dL_law_244 (lv_at hl 1 rfl) ?_
          refine lv_if_ne (tgt := 261) hx hb dL_law_246 (by decide) (fun c_246 => ?_) (fun c_246 => ?_)
          · skip
            exact absurd c_246 (by decide)
          · skip
            refine lv_aload_n hx hb dL_law_249 rfl (lv_at hl 3 rfl) ?_
            refine lv_iconst (v := 0) hx hb dL_law_250 (by decide) ?_
            refine va_lald hx hb hK hP (11 + nF) 3 (WDR_at) rfl e_in0 dL_law_251 ?_
            rw [e_z0, hu9, hag]
            refine lv_iload hx hb dL_law_252 (lv_at hl 0 rfl) ?_
            refine lv_i2l (v := (b9).toInt64) hx hb dL_law_254 rfl ?_
            refine W.lcmp hx hb dL_law_255 ?_
            rw [lg_self]
            refine lv_if_eq (tgt := 261) hx hb dL_law_256 (by decide) (fun c_256 => ?_) (fun c_256 => ?_)
            · skip
              refine lv_goto (tgt := 1413) hx hb dL_law_261 (by decide) ?_
              refine W.widen (k := cells + 4) (n := slots + 24) (by omega) (by omega) ?_
              exact kk _ _ _ ⟨FA, nC, nR, nL, nF, (upd par x.1 (nI x.2)), (upd wt x.1 (if ui = 0 then -1 else 1)), sk, fk, hd, rea, sig, mc, mp, mm, mf, md, mv, nx, mder, mkn, 0, ov9, L9, hOk9, hP, hD⟩ hS (lv_sub hl [2, 3, 4, 5, 6] rfl)
            · skip
              exact absurd c_256 (by decide)
        · skip
          exact absurd c_239 (by decide)
    · skip
      obtain rfl : ux = none := hx9
      have hB9 : va_P D vwCl (WD cI cO a FA nC nR nL nF par wt (fun r => nI (sk r)) (fun r => nI (fk r)) hd rea sig ++ (WF FA (fun k => mc k * 40 + mp k * 4 + mm k) mf md mv nx nF ++ ((ob, .inl (cL, 1, .inr (.inl ov9))) : Nat × va_E) :: WM cI cZ b nC nR nL nF par wt (fun r => nI (sk r)) (fun r => nI (fk r)) mc mp mm mf md mv mder mkn thr)) H ∧ va_D A (WD cI cO a FA nC nR nL nF par wt (fun r => nI (sk r)) (fun r => nI (fk r)) hd rea sig ++ (WF FA (fun k => mc k * 40 + mp k * 4 + mm k) mf md mv nx nF ++ ((ob, .inl (cL, 1, .inr (.inl ov9))) : Nat × va_E) :: WM cI cZ b nC nR nL nF par wt (fun r => nI (sk r)) (fun r => nI (fk r)) mc mp mm mf md mv mder mkn thr)) := hB9
      obtain ⟨hP, hD⟩ := hB9
      refine lv_istore (lv' := [(5, .int 1), (4, .int (nI i)), (3, .ref ob), (2, .ref (b 0)), (1, .ref (a 0)), (0, .ref b0)]) hx hb dL_law_199 hl (by decide) rfl (fun ls hl => ?_)
      refine lv_aload_n hx hb dL_law_201 rfl (lv_at hl 3 rfl) ?_
      refine lv_aload_n hx hb dL_law_202 rfl (lv_at hl 5 rfl) ?_
      refine lv_iload hx hb dL_law_203 (lv_at hl 1 rfl) ?_
      refine lv_iconst (v := 1) hx hb dL_law_205 (by decide) ?_
      refine lv_iadd hx hb dL_law_206 ?_
      refine lv_topi (fun dv edv => ?_)
      obtain rfl : dv = nI (i + 1) := by rw [edv]; exact nI_add i 1
      refine va_sld hx hb hX hb0 hbA hS (vp_in_nI (n := (i + 1)) (by omega) (by omega)) dL_law_207 ?_
      rw [nI_clamp (by omega)]
      refine lv_aload_n hx hb dL_law_208 rfl (lv_at hl 5 rfl) ?_
      refine lv_iload hx hb dL_law_209 (lv_at hl 1 rfl) ?_
      refine lv_iconst (v := 2) hx hb dL_law_211 (by decide) ?_
      refine lv_iadd hx hb dL_law_212 ?_
      refine lv_topi (fun dv edv => ?_)
      obtain rfl : dv = nI (i + 2) := by rw [edv]; exact nI_add i 2
      refine va_sld hx hb hX hb0 hbA hS (vp_in_nI (n := (i + 2)) (by omega) (by omega)) dL_law_213 ?_
      rw [nI_clamp (by omega)]
      refine lv_aload_n hx hb dL_law_214 rfl (lv_at hl 5 rfl) ?_
      refine lv_iload hx hb dL_law_215 (lv_at hl 1 rfl) ?_
      refine lv_iconst (v := 3) hx hb dL_law_217 (by decide) ?_
      refine lv_iadd hx hb dL_law_218 ?_
      refine lv_topi (fun dv edv => ?_)
      obtain rfl : dv = nI (i + 3) := by rw [edv]; exact nI_add i 3
      refine va_sld hx hb hX hb0 hbA hS (vp_in_nI (n := (i + 3)) (by omega) (by omega)) dL_law_219 ?_
      rw [nI_clamp (by omega)]
      refine lv_if_eq (tgt := 227) hx hb dL_law_220 (by decide) (fun c_220 => ?_) (fun c_220 => ?_)
      · skip
        exact absurd c_220 c_187
      · skip
        refine lv_iconst (v := 1) hx hb dL_law_223 (by decide) ?_
        refine lv_goto (tgt := 228) hx hb dL_law_224 (by decide) ?_
        refine lv_topi (fun ui2 eui2 => ?_)
        rw [eui2.trans eui.symm]
        have hP := va_P_perm hP (lperm (WD cI cO a FA nC nR nL nF par wt (fun r => nI (sk r)) (fun r => nI (fk r)) hd rea sig) (WF FA (fun k => mc k * 40 + mp k * 4 + mm k) mf md mv nx nF) (WM cI cZ b nC nR nL nF par wt (fun r => nI (sk r)) (fun r => nI (fk r)) mc mp mm mf md mv mder mkn thr) ((ob, .inl (cL, 1, .inr (.inl ov9))) : Nat × va_E))
        have hD := va_D_perm hD (lperm (WD cI cO a FA nC nR nL nF par wt (fun r => nI (sk r)) (fun r => nI (fk r)) hd rea sig) (WF FA (fun k => mc k * 40 + mp k * 4 + mm k) mf md mv nx nF) (WM cI cZ b nC nR nL nF par wt (fun r => nI (sk r)) (fun r => nI (fk r)) mc mp mm mf md mv mder mkn thr) ((ob, .inl (cL, 1, .inr (.inl ov9))) : Nat × va_E))
        refine va_calli (va_runV (As := [.int (xs (i + 1)), .int (xs (i + 2)), .int ui]) (rest := []) ⟨hx, hb, hml, hown, hts⟩ (c5_hang_1 l D cI cZ cO cL dt A b nC nR nL nF par wt (fun r => nI (sk r)) (fun r => nI (fk r)) mc mp mm mf md mv mder mkn thr (WD cI cO a FA nC nR nL nF par wt (fun r => nI (sk r)) (fun r => nI (fk r)) hd rea sig ++ (WF FA (fun k => mc k * 40 + mp k * 4 + mm k) mf md mv nx nF ++ [((ob, .inl (cL, 1, .inr (.inl ov9))) : Nat × va_E)])) (xs (i + 1)) (xs (i + 2)) ui (fun z => hR9 ⟨((cOk_iff (n := nC) (by omega)).mp z.1), ((cOk_iff (n := nC) (by omega)).mp z.2)⟩)) (cwV 3 hts gL_law_X5_hang rfl rfl rfl (by decide +kernel) ⟨(Nat.le_of_ble_eq_true rfl), (Nat.le_of_ble_eq_true rfl)⟩) (gP.v (hg.on hS) hP 4 rfl 0 rfl ⟨hP, hD⟩) rfl rfl hl.1 rfl (lv_room (Nat.le_of_ble_eq_true rfl)) dL_law_228 ⟨by show cells + 3 + 0 ≤ 601024; omega, by show slots + 18 + 0 ≤ 7293034; omega⟩) hS (fun q _ h => h) (fun q h => h) (fun b9 u8 t8 H locs ht8 hvm8 hw8 hB8 hz8 hk8 hS => ?_)
        rw [ht8] at hB8
        obtain ⟨hP, hD⟩ := hB8
        have hP : va_P D vwCl (WM cI cZ b nC nR nL nF par wt (fun r => nI (sk r)) (fun r => nI (fk r)) mc mp mm mf md mv mder mkn 1 ++ (WD cI cO a FA nC nR nL nF par wt (fun r => nI (sk r)) (fun r => nI (fk r)) hd rea sig ++ (WF FA (fun k => mc k * 40 + mp k * 4 + mm k) mf md mv nx nF ++ [((ob, .inl (cL, 1, .inr (.inl ov9))) : Nat × va_E)]))) H := hP
        have hD : va_D A (WM cI cZ b nC nR nL nF par wt (fun r => nI (sk r)) (fun r => nI (fk r)) mc mp mm mf md mv mder mkn 1 ++ (WD cI cO a FA nC nR nL nF par wt (fun r => nI (sk r)) (fun r => nI (fk r)) hd rea sig ++ (WF FA (fun k => mc k * 40 + mp k * 4 + mm k) mf md mv nx nF ++ [((ob, .inl (cL, 1, .inr (.inl ov9))) : Nat × va_E)]))) := hD
        refine lv_istore (lv' := [(6, .int b9), (5, .int 1), (4, .int (nI i)), (3, .ref ob), (2, .ref (b 0)), (1, .ref (a 0)), (0, .ref b0)]) hx hb dL_law_231 hl (by decide) rfl (fun ls hl => ?_)
        refine lv_aload_n hx hb dL_law_233 rfl (lv_at hl 4 rfl) ?_
        refine g_csi (va_runV (As := []) (rest := []) ⟨hx, hb, hml, hown, hts⟩ (c5_thrown l D cI cZ cO cL dt A b nC nR nL nF par wt (fun r => nI (sk r)) (fun r => nI (fk r)) mc mp mm mf md mv mder mkn 1 (WD cI cO a FA nC nR nL nF par wt (fun r => nI (sk r)) (fun r => nI (fk r)) hd rea sig ++ (WF FA (fun k => mc k * 40 + mp k * 4 + mm k) mf md mv nx nF ++ [((ob, .inl (cL, 1, .inr (.inl ov9))) : Nat × va_E)]))) (cwV 0 hts gL_law_X5_thrown rfl rfl rfl (by decide +kernel) ⟨(Nat.le_of_ble_eq_true rfl), (Nat.le_of_ble_eq_true rfl)⟩) (gP.v (hg.on hS) hP 4 rfl 0 rfl hP) rfl rfl hl.1 rfl (lv_room (Nat.le_of_ble_eq_true rfl)) dL_law_234 ⟨by show cells + 3 + 0 + 0 ≤ 601024; omega, by show slots + 18 + 0 + 0 ≤ 7293034; omega⟩) (fun t7 ht7 => ?_)
        obtain rfl : t7 = 1 := ht7
        have hP := va_P_perm hP (lperm (WD cI cO a FA nC nR nL nF par wt (fun r => nI (sk r)) (fun r => nI (fk r)) hd rea sig) (WF FA (fun k => mc k * 40 + mp k * 4 + mm k) mf md mv nx nF) (WM cI cZ b nC nR nL nF par wt (fun r => nI (sk r)) (fun r => nI (fk r)) mc mp mm mf md mv mder mkn 1) ((ob, .inl (cL, 1, .inr (.inl ov9))) : Nat × va_E)).symm
        have hD := va_D_perm hD (lperm (WD cI cO a FA nC nR nL nF par wt (fun r => nI (sk r)) (fun r => nI (fk r)) hd rea sig) (WF FA (fun k => mc k * 40 + mp k * 4 + mm k) mf md mv nx nF) (WM cI cZ b nC nR nL nF par wt (fun r => nI (sk r)) (fun r => nI (fk r)) mc mp mm mf md mv mder mkn 1) ((ob, .inl (cL, 1, .inr (.inl ov9))) : Nat × va_E)).symm
        refine lv_iload hx hb dL_law_237 (lv_at hl 1 rfl) ?_
        refine lv_icmp_eq (tgt := 244) hx hb dL_law_239 (by decide) (fun c_239 => ?_) (fun c_239 => ?_)
        · skip
          refine lv_iload hx hb dL_law_244 (lv_at hl 1 rfl) ?_
          refine lv_if_ne (tgt := 261) hx hb dL_law_246 (by decide) (fun c_246 => ?_) (fun c_246 => ?_)
          · skip
            refine lv_goto (tgt := 1413) hx hb dL_law_261 (by decide) ?_
            refine W.widen (k := cells + 4) (n := slots + 24) (by omega) (by omega) ?_
            exact kk _ _ _ ⟨FA, nC, nR, nL, nF, par, wt, sk, fk, hd, rea, sig, mc, mp, mm, mf, md, mv, nx, mder, mkn, 1, ov9, L, hOk, hP, hD⟩ hS (lv_sub hl [2, 3, 4, 5, 6] rfl)
          · skip
            exact absurd c_246 (by decide)
        · skip
          exact absurd c_239 (by decide)
    · skip
      obtain rfl : ux = none := hx9
      have hB9 : va_P D vwCl (WD cI cO a FA nC nR nL nF par wt (fun r => nI (sk r)) (fun r => nI (fk r)) hd rea sig ++ (WF FA (fun k => mc k * 40 + mp k * 4 + mm k) mf md mv nx nF ++ ((ob, .inl (cL, 1, .inr (.inl ov9))) : Nat × va_E) :: WM cI cZ b nC nR nL nF par wt (fun r => nI (sk r)) (fun r => nI (fk r)) mc mp mm mf md mv mder mkn thr)) H ∧ va_D A (WD cI cO a FA nC nR nL nF par wt (fun r => nI (sk r)) (fun r => nI (fk r)) hd rea sig ++ (WF FA (fun k => mc k * 40 + mp k * 4 + mm k) mf md mv nx nF ++ ((ob, .inl (cL, 1, .inr (.inl ov9))) : Nat × va_E) :: WM cI cZ b nC nR nL nF par wt (fun r => nI (sk r)) (fun r => nI (fk r)) mc mp mm mf md mv mder mkn thr)) := hB9
      obtain ⟨hP, hD⟩ := hB9
      obtain ⟨c1, p1, ⟨hc9, hc⟩, ⟨hp9, hp⟩, ha⟩ := hR9
      refine lv_istore (lv' := [(5, .int 2), (4, .int (nI i)), (3, .ref ob), (2, .ref (b 0)), (1, .ref (a 0)), (0, .ref b0)]) hx hb dL_law_199 hl (by decide) rfl (fun ls hl => ?_)
      refine lv_aload_n hx hb dL_law_201 rfl (lv_at hl 3 rfl) ?_
      refine lv_aload_n hx hb dL_law_202 rfl (lv_at hl 5 rfl) ?_
      refine lv_iload hx hb dL_law_203 (lv_at hl 1 rfl) ?_
      refine lv_iconst (v := 1) hx hb dL_law_205 (by decide) ?_
      refine lv_iadd hx hb dL_law_206 ?_
      refine lv_topi (fun dv edv => ?_)
      obtain rfl : dv = nI (i + 1) := by rw [edv]; exact nI_add i 1
      refine va_sld hx hb hX hb0 hbA hS (vp_in_nI (n := (i + 1)) (by omega) (by omega)) dL_law_207 ?_
      rw [nI_clamp (by omega)]
      rw [hc9]
      refine lv_aload_n hx hb dL_law_208 rfl (lv_at hl 5 rfl) ?_
      refine lv_iload hx hb dL_law_209 (lv_at hl 1 rfl) ?_
      refine lv_iconst (v := 2) hx hb dL_law_211 (by decide) ?_
      refine lv_iadd hx hb dL_law_212 ?_
      refine lv_topi (fun dv edv => ?_)
      obtain rfl : dv = nI (i + 2) := by rw [edv]; exact nI_add i 2
      refine va_sld hx hb hX hb0 hbA hS (vp_in_nI (n := (i + 2)) (by omega) (by omega)) dL_law_213 ?_
      rw [nI_clamp (by omega)]
      rw [hp9]
      refine lv_aload_n hx hb dL_law_214 rfl (lv_at hl 5 rfl) ?_
      refine lv_iload hx hb dL_law_215 (lv_at hl 1 rfl) ?_
      refine lv_iconst (v := 3) hx hb dL_law_217 (by decide) ?_
      refine lv_iadd hx hb dL_law_218 ?_
      refine lv_topi (fun dv edv => ?_)
      obtain rfl : dv = nI (i + 3) := by rw [edv]; exact nI_add i 3
      refine va_sld hx hb hX hb0 hbA hS (vp_in_nI (n := (i + 3)) (by omega) (by omega)) dL_law_219 ?_
      rw [nI_clamp (by omega)]
      refine lv_if_eq (tgt := 227) hx hb dL_law_220 (by decide) (fun c_220 => ?_) (fun c_220 => ?_)
      · skip
        exact absurd c_220 c_187
      · skip
        refine lv_iconst (v := 1) hx hb dL_law_223 (by decide) ?_
        refine lv_goto (tgt := 228) hx hb dL_law_224 (by decide) ?_
        refine lv_topi (fun ui2 eui2 => ?_)
        rw [eui2.trans eui.symm]
        have hP := va_P_perm hP (lperm (WD cI cO a FA nC nR nL nF par wt (fun r => nI (sk r)) (fun r => nI (fk r)) hd rea sig) (WF FA (fun k => mc k * 40 + mp k * 4 + mm k) mf md mv nx nF) (WM cI cZ b nC nR nL nF par wt (fun r => nI (sk r)) (fun r => nI (fk r)) mc mp mm mf md mv mder mkn thr) ((ob, .inl (cL, 1, .inr (.inl ov9))) : Nat × va_E))
        have hD := va_D_perm hD (lperm (WD cI cO a FA nC nR nL nF par wt (fun r => nI (sk r)) (fun r => nI (fk r)) hd rea sig) (WF FA (fun k => mc k * 40 + mp k * 4 + mm k) mf md mv nx nF) (WM cI cZ b nC nR nL nF par wt (fun r => nI (sk r)) (fun r => nI (fk r)) mc mp mm mf md mv mder mkn thr) ((ob, .inl (cL, 1, .inr (.inl ov9))) : Nat × va_E))
        refine va_calli (va_runV (As := [.int (nI c1), .int (nI p1), .int ui]) (rest := []) ⟨hx, hb, hml, hown, hts⟩ (c5_hang_2 l D cI cZ cO cL dt A b nC nR nL nF par wt (fun r => nI (sk r)) (fun r => nI (fk r)) mc mp mm mf md mv mder mkn thr (WD cI cO a FA nC nR nL nF par wt (fun r => nI (sk r)) (fun r => nI (fk r)) hd rea sig ++ (WF FA (fun k => mc k * 40 + mp k * 4 + mm k) mf md mv nx nF ++ [((ob, .inl (cL, 1, .inr (.inl ov9))) : Nat × va_E)])) L c1 p1 ui hT hC12 hc hp ⟨((cOk_iff (n := nC) (by omega)).mpr ⟨c1, rfl, hc⟩), ((cOk_iff (n := nC) (by omega)).mpr ⟨p1, rfl, hp⟩)⟩ ha) (cwV 3 hts gL_law_X5_hang rfl rfl rfl (by decide +kernel) ⟨(Nat.le_of_ble_eq_true rfl), (Nat.le_of_ble_eq_true rfl)⟩) (gP.v (hg.on hS) hP 4 rfl 0 rfl ⟨hP, hD⟩) rfl rfl hl.1 rfl (lv_room (Nat.le_of_ble_eq_true rfl)) dL_law_228 ⟨by show cells + 3 + 0 ≤ 601024; omega, by show slots + 18 + 0 ≤ 7293034; omega⟩) hS (fun q _ h => h) (fun q h => h) (fun b9 u8 t8 H locs ht8 hvm8 hw8 hB8 hz8 hk8 hS => ?_)
        rw [ht8] at hB8
        obtain ⟨hP, hD⟩ := hB8
        have hP : va_P D vwCl (WM cI cZ b nC nR nL nF par wt (fun r => nI (sk r)) (fun r => nI (fk r)) mc mp mm mf md mv mder mkn 2 ++ (WD cI cO a FA nC nR nL nF par wt (fun r => nI (sk r)) (fun r => nI (fk r)) hd rea sig ++ (WF FA (fun k => mc k * 40 + mp k * 4 + mm k) mf md mv nx nF ++ [((ob, .inl (cL, 1, .inr (.inl ov9))) : Nat × va_E)]))) H := hP
        have hD : va_D A (WM cI cZ b nC nR nL nF par wt (fun r => nI (sk r)) (fun r => nI (fk r)) mc mp mm mf md mv mder mkn 2 ++ (WD cI cO a FA nC nR nL nF par wt (fun r => nI (sk r)) (fun r => nI (fk r)) hd rea sig ++ (WF FA (fun k => mc k * 40 + mp k * 4 + mm k) mf md mv nx nF ++ [((ob, .inl (cL, 1, .inr (.inl ov9))) : Nat × va_E)]))) := hD
        refine lv_istore (lv' := [(6, .int b9), (5, .int 2), (4, .int (nI i)), (3, .ref ob), (2, .ref (b 0)), (1, .ref (a 0)), (0, .ref b0)]) hx hb dL_law_231 hl (by decide) rfl (fun ls hl => ?_)
        refine lv_aload_n hx hb dL_law_233 rfl (lv_at hl 4 rfl) ?_
        refine g_csi (va_runV (As := []) (rest := []) ⟨hx, hb, hml, hown, hts⟩ (c5_thrown l D cI cZ cO cL dt A b nC nR nL nF par wt (fun r => nI (sk r)) (fun r => nI (fk r)) mc mp mm mf md mv mder mkn 2 (WD cI cO a FA nC nR nL nF par wt (fun r => nI (sk r)) (fun r => nI (fk r)) hd rea sig ++ (WF FA (fun k => mc k * 40 + mp k * 4 + mm k) mf md mv nx nF ++ [((ob, .inl (cL, 1, .inr (.inl ov9))) : Nat × va_E)]))) (cwV 0 hts gL_law_X5_thrown rfl rfl rfl (by decide +kernel) ⟨(Nat.le_of_ble_eq_true rfl), (Nat.le_of_ble_eq_true rfl)⟩) (gP.v (hg.on hS) hP 4 rfl 0 rfl hP) rfl rfl hl.1 rfl (lv_room (Nat.le_of_ble_eq_true rfl)) dL_law_234 ⟨by show cells + 3 + 0 + 0 ≤ 601024; omega, by show slots + 18 + 0 + 0 ≤ 7293034; omega⟩) (fun t7 ht7 => ?_)
        obtain rfl : t7 = 2 := ht7
        have hP := va_P_perm hP (lperm (WD cI cO a FA nC nR nL nF par wt (fun r => nI (sk r)) (fun r => nI (fk r)) hd rea sig) (WF FA (fun k => mc k * 40 + mp k * 4 + mm k) mf md mv nx nF) (WM cI cZ b nC nR nL nF par wt (fun r => nI (sk r)) (fun r => nI (fk r)) mc mp mm mf md mv mder mkn 2) ((ob, .inl (cL, 1, .inr (.inl ov9))) : Nat × va_E)).symm
        have hD := va_D_perm hD (lperm (WD cI cO a FA nC nR nL nF par wt (fun r => nI (sk r)) (fun r => nI (fk r)) hd rea sig) (WF FA (fun k => mc k * 40 + mp k * 4 + mm k) mf md mv nx nF) (WM cI cZ b nC nR nL nF par wt (fun r => nI (sk r)) (fun r => nI (fk r)) mc mp mm mf md mv mder mkn 2) ((ob, .inl (cL, 1, .inr (.inl ov9))) : Nat × va_E)).symm
        refine lv_iload hx hb dL_law_237 (lv_at hl 1 rfl) ?_
        refine lv_icmp_eq (tgt := 244) hx hb dL_law_239 (by decide) (fun c_239 => ?_) (fun c_239 => ?_)
        · skip
          refine lv_iload hx hb dL_law_244 (lv_at hl 1 rfl) ?_
          refine lv_if_ne (tgt := 261) hx hb dL_law_246 (by decide) (fun c_246 => ?_) (fun c_246 => ?_)
          · skip
            refine lv_goto (tgt := 1413) hx hb dL_law_261 (by decide) ?_
            refine W.widen (k := cells + 4) (n := slots + 24) (by omega) (by omega) ?_
            exact kk _ _ _ ⟨FA, nC, nR, nL, nF, par, wt, sk, fk, hd, rea, sig, mc, mp, mm, mf, md, mv, nx, mder, mkn, 2, ov9, L, hOk, hP, hD⟩ hS (lv_sub hl [2, 3, 4, 5, 6] rfl)
          · skip
            exact absurd c_246 (by decide)
        · skip
          exact absurd c_239 (by decide)
set_option maxHeartbeats 4000000 in
set_option maxRecDepth 100000 in
/-- the case of unhang -/
theorem lw_unhang (l : Launch) (hlt : l.stackTraces = false) {D : va_G} {cI cZ cO cL : ClassId} {dt : Nat} {A : Nat → Prop} {a b : Nat → Nat} {ob b0 i Ls cells slots : Nat} {xs : Nat → Int32} {p9 : Program} {e9 : Env} {s : State} {m9 : MethodId} {args : Array Value} {below : List Frame} {meth : Method} {c9 : Code} {H : Heap} {locs : List Loc} {ls : Array Slot} {Q : State → Prop}
    (hx : p9.tables.exec = Jvm.exec) (hb : c9.code = cL_law) (hml : c9.maxLocals = 7) (hown : s.vm.findClass RL = some m9.cls) (hts : ∀ w ∈ wsL_law, w.before args s = true) (hg : gG D cI cZ cO cL dt A s s.heap) (hX : va_X b0 Ls xs s s.heap) (hb0 : b0 < s.heap.size) (hbA : ¬ A b0) (hi : i + 6 ≤ Ls) (hLs : Ls ≤ 3072)
    (hI : lInv D cI cZ cO cL A a b ob H) (hS : va_S A s.heap H locs) (hl : lv_has ls 7 [(4, .int (nI i)), (3, .ref ob), (2, .ref (b 0)), (1, .ref (a 0)), (0, .ref b0)]) (hcc : cells + 4 ≤ 601024) (hss : slots + 24 ≤ 7293034)
    (kk : ∀ (H : Heap) (locs : List Loc) (ls : Array Slot), lInv D cI cZ cO cL A a b ob H → va_S A s.heap H locs → lv_has ls 7 [(4, .int (nI i)), (3, .ref ob), (2, .ref (b 0)), (1, .ref (a 0)), (0, .ref b0)] → W p9 l e9 room_1 s m9 args below meth c9 H locs (cells + 4) (slots + 24) Q (F0 m9 1413 ls [])) :
    W p9 l e9 room_1 s m9 args below meth c9 H locs cells slots Q (F0 m9 264 ls []) := by
  obtain ⟨FA, nC, nR, nL, nF, par, wt, sk, fk, hd, rea, sig, mc, mp, mm, mf, md, mv, nx, mder, mkn, thr, ov, L, hOk, hP, hD⟩ := hI
  obtain ⟨⟨hC12, hR5, hL8, hF⟩, ⟨hT, hwt⟩, ⟨hsk12, hfk12, hskC⟩, ⟨hCh, hH, hN, hfL⟩, h1, h2, h3, h4, hmd, hmv, h7⟩ := id hOk
  have hK := hg.1
  have hck : ∀ k, mc k * 40 + mp k * 4 + mm k < 480 := fun k => by have := h1 k; have := h2 k; have := h3 k; omega
  have hcf : ∀ k, mf k < 2 ^ 31 := fun k => by have := h4 k; omega
  have hmd31 : ∀ k, md k < 2 ^ 31 := fun k => by have := hmd k; omega
  have hP : va_P D vwCl (WD cI cO a FA nC nR nL nF par wt (fun r => nI (sk r)) (fun r => nI (fk r)) hd rea sig ++ (WF FA (fun k => mc k * 40 + mp k * 4 + mm k) mf md mv nx nF ++ ((ob, .inl (cL, 1, .inr (.inl ov))) : Nat × va_E) :: WM cI cZ b nC nR nL nF par wt (fun r => nI (sk r)) (fun r => nI (fk r)) mc mp mm mf md mv mder mkn thr)) H := hP
  have hD : va_D A (WD cI cO a FA nC nR nL nF par wt (fun r => nI (sk r)) (fun r => nI (fk r)) hd rea sig ++ (WF FA (fun k => mc k * 40 + mp k * 4 + mm k) mf md mv nx nF ++ ((ob, .inl (cL, 1, .inr (.inl ov))) : Nat × va_E) :: WM cI cZ b nC nR nL nF par wt (fun r => nI (sk r)) (fun r => nI (fk r)) mc mp mm mf md mv mder mkn thr)) := hD
  refine lv_aload_n hx hb dL_law_264 rfl (lv_at hl 3 rfl) ?_
  refine lv_aload_n hx hb dL_law_265 rfl (lv_at hl 4 rfl) ?_
  refine lv_iload hx hb dL_law_266 (lv_at hl 0 rfl) ?_
  refine lv_iconst (v := 1) hx hb dL_law_268 (by decide) ?_
  refine lv_iadd hx hb dL_law_269 ?_
  refine lv_topi (fun dv edv => ?_)
  obtain rfl : dv = nI (i + 1) := by rw [edv]; exact nI_add i 1
  refine va_sld hx hb hX hb0 hbA hS (vp_in_nI (n := (i + 1)) (by omega) (by omega)) dL_law_270 ?_
  rw [nI_clamp (by omega)]
  refine lv_aload_n hx hb dL_law_271 rfl (lv_at hl 1 rfl) ?_
  refine va_calli (vx_runSW (hh := [(0, 9, 12, 19)]) (As := [.ref (a 0), .int (xs (i + 1)), .ref ob]) (rest := []) ⟨hx, hb, hml, hown, hts⟩ (kL_unhang l D cI cZ cO cL dt A a FA nC nR nL nF par wt (fun r => nI (sk r)) (fun r => nI (fk r)) hd rea sig (fun k => mc k * 40 + mp k * 4 + mm k) mf md mv nx (WM cI cZ b nC nR nL nF par wt (fun r => nI (sk r)) (fun r => nI (fk r)) mc mp mm mf md mv mder mkn thr) ob ov (xs (i + 1)) hlt hC12 hL8) (vx_cwSW 3 hts gL_law_L_unhang rfl rfl rfl (by decide +kernel) ⟨(Nat.le_of_ble_eq_true rfl), (Nat.le_of_ble_eq_true rfl)⟩) (gP.s (hg.on hS) ⟨hP, hD⟩) rfl rfl hl.1 rfl (lv_room (Nat.le_of_ble_eq_true rfl)) dL_law_272 ⟨by show cells + 1 ≤ 601024; omega, by show slots + 6 ≤ 7293034; omega⟩) hS (fun q _ h => h) (fun q h => h) (fun k9 u9 t9 H locs ht9 hvm9 hw9 hB9 hz9 hk9 hS => ?_)
  rw [ht9] at hB9
  obtain ⟨ov9, ux⟩ := u9
  rcases hw9 with ⟨rfl, r9, x, hx9, hu9, hpost⟩ | ⟨hx9, ⟨rfl, hR9⟩⟩
  · skip
    obtain rfl : ux = some x := hx9
    have hu9 : ov9 0 = _ := hu9
    have hB9 : va_P D vwCl (WD cI cO a FA nC nR nL nF (upd par x (-1)) wt (fun r => nI (sk r)) (fun r => nI (fk r)) hd rea sig ++ (WF FA (fun k => mc k * 40 + mp k * 4 + mm k) mf md mv nx nF ++ ((ob, .inl (cL, 1, .inr (.inl ov9))) : Nat × va_E) :: WM cI cZ b nC nR nL nF par wt (fun r => nI (sk r)) (fun r => nI (fk r)) mc mp mm mf md mv mder mkn thr)) H ∧ va_D A (WD cI cO a FA nC nR nL nF (upd par x (-1)) wt (fun r => nI (sk r)) (fun r => nI (fk r)) hd rea sig ++ (WF FA (fun k => mc k * 40 + mp k * 4 + mm k) mf md mv nx nF ++ ((ob, .inl (cL, 1, .inr (.inl ov9))) : Nat × va_E) :: WM cI cZ b nC nR nL nF par wt (fun r => nI (sk r)) (fun r => nI (fk r)) mc mp mm mf md mv mder mkn thr)) := hB9
    obtain ⟨hP, hD⟩ := hB9
    obtain ⟨⟨hc9, hc⟩, rfl⟩ := hpost
    refine lv_istore (lv' := [(5, .int 0), (4, .int (nI i)), (3, .ref ob), (2, .ref (b 0)), (1, .ref (a 0)), (0, .ref b0)]) hx hb dL_law_275 hl (by decide) rfl (fun ls hl => ?_)
    refine lv_aload_n hx hb dL_law_277 rfl (lv_at hl 3 rfl) ?_
    refine lv_aload_n hx hb dL_law_278 rfl (lv_at hl 5 rfl) ?_
    refine lv_iload hx hb dL_law_279 (lv_at hl 1 rfl) ?_
    refine lv_iconst (v := 1) hx hb dL_law_281 (by decide) ?_
    refine lv_iadd hx hb dL_law_282 ?_
    refine lv_topi (fun dv edv => ?_)
    obtain rfl : dv = nI (i + 1) := by rw [edv]; exact nI_add i 1
    refine va_sld hx hb hX hb0 hbA hS (vp_in_nI (n := (i + 1)) (by omega) (by omega)) dL_law_283 ?_
    rw [nI_clamp (by omega)]
    rw [hc9]
    have hP := va_P_perm hP (lperm (WD cI cO a FA nC nR nL nF (upd par x (-1)) wt (fun r => nI (sk r)) (fun r => nI (fk r)) hd rea sig) (WF FA (fun k => mc k * 40 + mp k * 4 + mm k) mf md mv nx nF) (WM cI cZ b nC nR nL nF par wt (fun r => nI (sk r)) (fun r => nI (fk r)) mc mp mm mf md mv mder mkn thr) ((ob, .inl (cL, 1, .inr (.inl ov9))) : Nat × va_E))
    have hD := va_D_perm hD (lperm (WD cI cO a FA nC nR nL nF (upd par x (-1)) wt (fun r => nI (sk r)) (fun r => nI (fk r)) hd rea sig) (WF FA (fun k => mc k * 40 + mp k * 4 + mm k) mf md mv nx nF) (WM cI cZ b nC nR nL nF par wt (fun r => nI (sk r)) (fun r => nI (fk r)) mc mp mm mf md mv mder mkn thr) ((ob, .inl (cL, 1, .inr (.inl ov9))) : Nat × va_E))
    refine va_calli (va_runV (As := [.int (nI x)]) (rest := []) ⟨hx, hb, hml, hown, hts⟩ (c5_unhang_0 l D cI cZ cO cL dt A b nC nR nL nF par wt (fun r => nI (sk r)) (fun r => nI (fk r)) mc mp mm mf md mv mder mkn thr (WD cI cO a FA nC nR nL nF (upd par x (-1)) wt (fun r => nI (sk r)) (fun r => nI (fk r)) hd rea sig ++ (WF FA (fun k => mc k * 40 + mp k * 4 + mm k) mf md mv nx nF ++ [((ob, .inl (cL, 1, .inr (.inl ov9))) : Nat × va_E)])) x (by omega) ((cOk_iff (n := nC) (by omega)).mpr ⟨x, rfl, hc⟩)) (cwV 1 hts gL_law_X5_unhang rfl rfl rfl (by decide +kernel) ⟨(Nat.le_of_ble_eq_true rfl), (Nat.le_of_ble_eq_true rfl)⟩) (gP.v (hg.on hS) hP 4 rfl 0 rfl ⟨hP, hD⟩) rfl rfl hl.1 rfl (lv_room (Nat.le_of_ble_eq_true rfl)) dL_law_284 ⟨by show cells + 1 + 0 ≤ 601024; omega, by show slots + 6 + 0 ≤ 7293034; omega⟩) hS (fun q _ h => h) (fun q h => h) (fun b9 u8 t8 H locs ht8 hvm8 hw8 hB8 hz8 hk8 hS => ?_)
    rw [ht8] at hB8
    obtain ⟨hP, hD⟩ := hB8
    have hP : va_P D vwCl (WM cI cZ b nC nR nL nF (upd par x (-1)) wt (fun r => nI (sk r)) (fun r => nI (fk r)) mc mp mm mf md mv mder mkn 0 ++ (WD cI cO a FA nC nR nL nF (upd par x (-1)) wt (fun r => nI (sk r)) (fun r => nI (fk r)) hd rea sig ++ (WF FA (fun k => mc k * 40 + mp k * 4 + mm k) mf md mv nx nF ++ [((ob, .inl (cL, 1, .inr (.inl ov9))) : Nat × va_E)]))) H := hP
    have hD : va_D A (WM cI cZ b nC nR nL nF (upd par x (-1)) wt (fun r => nI (sk r)) (fun r => nI (fk r)) mc mp mm mf md mv mder mkn 0 ++ (WD cI cO a FA nC nR nL nF (upd par x (-1)) wt (fun r => nI (sk r)) (fun r => nI (fk r)) hd rea sig ++ (WF FA (fun k => mc k * 40 + mp k * 4 + mm k) mf md mv nx nF ++ [((ob, .inl (cL, 1, .inr (.inl ov9))) : Nat × va_E)]))) := hD
    refine lv_istore (lv' := [(6, .int b9), (5, .int 0), (4, .int (nI i)), (3, .ref ob), (2, .ref (b 0)), (1, .ref (a 0)), (0, .ref b0)]) hx hb dL_law_287 hl (by decide) rfl (fun ls hl => ?_)
    refine lv_aload_n hx hb dL_law_289 rfl (lv_at hl 4 rfl) ?_
    refine g_csi (va_runV (As := []) (rest := []) ⟨hx, hb, hml, hown, hts⟩ (c5_thrown l D cI cZ cO cL dt A b nC nR nL nF (upd par x (-1)) wt (fun r => nI (sk r)) (fun r => nI (fk r)) mc mp mm mf md mv mder mkn 0 (WD cI cO a FA nC nR nL nF (upd par x (-1)) wt (fun r => nI (sk r)) (fun r => nI (fk r)) hd rea sig ++ (WF FA (fun k => mc k * 40 + mp k * 4 + mm k) mf md mv nx nF ++ [((ob, .inl (cL, 1, .inr (.inl ov9))) : Nat × va_E)]))) (cwV 0 hts gL_law_X5_thrown rfl rfl rfl (by decide +kernel) ⟨(Nat.le_of_ble_eq_true rfl), (Nat.le_of_ble_eq_true rfl)⟩) (gP.v (hg.on hS) hP 4 rfl 0 rfl hP) rfl rfl hl.1 rfl (lv_room (Nat.le_of_ble_eq_true rfl)) dL_law_290 ⟨by show cells + 1 + 0 + 0 ≤ 601024; omega, by show slots + 6 + 0 + 0 ≤ 7293034; omega⟩) (fun t7 ht7 => ?_)
    obtain rfl : t7 = 0 := ht7
    have hP := va_P_perm hP (lperm (WD cI cO a FA nC nR nL nF (upd par x (-1)) wt (fun r => nI (sk r)) (fun r => nI (fk r)) hd rea sig) (WF FA (fun k => mc k * 40 + mp k * 4 + mm k) mf md mv nx nF) (WM cI cZ b nC nR nL nF (upd par x (-1)) wt (fun r => nI (sk r)) (fun r => nI (fk r)) mc mp mm mf md mv mder mkn 0) ((ob, .inl (cL, 1, .inr (.inl ov9))) : Nat × va_E)).symm
    have hD := va_D_perm hD (lperm (WD cI cO a FA nC nR nL nF (upd par x (-1)) wt (fun r => nI (sk r)) (fun r => nI (fk r)) hd rea sig) (WF FA (fun k => mc k * 40 + mp k * 4 + mm k) mf md mv nx nF) (WM cI cZ b nC nR nL nF (upd par x (-1)) wt (fun r => nI (sk r)) (fun r => nI (fk r)) mc mp mm mf md mv mder mkn 0) ((ob, .inl (cL, 1, .inr (.inl ov9))) : Nat × va_E)).symm
    have hag : (par x).toInt64 = b9.toInt64 := by rw [hw8]
    refine lv_iload hx hb dL_law_293 (lv_at hl 1 rfl) ?_
    refine lv_icmp_eq (tgt := 300) hx hb dL_law_295 (by decide) (fun c_295 => ?_) (fun c_295 => ?_)
    · skip
      refine lv_iload hx hb dL_law_300 (lv_at hl 1 rfl) ?_
      refine lv_if_ne (tgt := 317) hx hb dL_law_302 (by decide) (fun c_302 => ?_) (fun c_302 => ?_)
      · skip
        exact absurd c_302 (by decide)
      · skip
        refine lv_aload_n hx hb dL_law_305 rfl (lv_at hl 3 rfl) ?_
        refine lv_iconst (v := 0) hx hb dL_law_306 (by decide) ?_
        refine va_lald hx hb hK hP (11 + nF) 3 (WDR_at) rfl e_in0 dL_law_307 ?_
        rw [e_z0, hu9, hag]
        refine lv_iload hx hb dL_law_308 (lv_at hl 0 rfl) ?_
        refine lv_i2l (v := (b9).toInt64) hx hb dL_law_310 rfl ?_
        refine W.lcmp hx hb dL_law_311 ?_
        rw [lg_self]
        refine lv_if_eq (tgt := 317) hx hb dL_law_312 (by decide) (fun c_312 => ?_) (fun c_312 => ?_)
        · skip
          refine lv_goto (tgt := 1413) hx hb dL_law_317 (by decide) ?_
          refine W.widen (k := cells + 4) (n := slots + 24) (by omega) (by omega) ?_
          exact kk _ _ _ ⟨FA, nC, nR, nL, nF, (upd par x (-1)), wt, sk, fk, hd, rea, sig, mc, mp, mm, mf, md, mv, nx, mder, mkn, 0, ov9, L, lOk_unhang hOk x, hP, hD⟩ hS (lv_sub hl [2, 3, 4, 5, 6] rfl)
        · skip
          exact absurd c_312 (by decide)
    · skip
      exact absurd c_295 (by decide)
  · skip
    obtain rfl : ux = none := hx9
    have hB9 : va_P D vwCl (WD cI cO a FA nC nR nL nF par wt (fun r => nI (sk r)) (fun r => nI (fk r)) hd rea sig ++ (WF FA (fun k => mc k * 40 + mp k * 4 + mm k) mf md mv nx nF ++ ((ob, .inl (cL, 1, .inr (.inl ov9))) : Nat × va_E) :: WM cI cZ b nC nR nL nF par wt (fun r => nI (sk r)) (fun r => nI (fk r)) mc mp mm mf md mv mder mkn thr)) H ∧ va_D A (WD cI cO a FA nC nR nL nF par wt (fun r => nI (sk r)) (fun r => nI (fk r)) hd rea sig ++ (WF FA (fun k => mc k * 40 + mp k * 4 + mm k) mf md mv nx nF ++ ((ob, .inl (cL, 1, .inr (.inl ov9))) : Nat × va_E) :: WM cI cZ b nC nR nL nF par wt (fun r => nI (sk r)) (fun r => nI (fk r)) mc mp mm mf md mv mder mkn thr)) := hB9
    obtain ⟨hP, hD⟩ := hB9
    refine lv_istore (lv' := [(5, .int 1), (4, .int (nI i)), (3, .ref ob), (2, .ref (b 0)), (1, .ref (a 0)), (0, .ref b0)]) hx hb dL_law_275 hl (by decide) rfl (fun ls hl => ?_)
    refine lv_aload_n hx hb dL_law_277 rfl (lv_at hl 3 rfl) ?_
    refine lv_aload_n hx hb dL_law_278 rfl (lv_at hl 5 rfl) ?_
    refine lv_iload hx hb dL_law_279 (lv_at hl 1 rfl) ?_
    refine lv_iconst (v := 1) hx hb dL_law_281 (by decide) ?_
    refine lv_iadd hx hb dL_law_282 ?_
    refine lv_topi (fun dv edv => ?_)
    obtain rfl : dv = nI (i + 1) := by rw [edv]; exact nI_add i 1
    refine va_sld hx hb hX hb0 hbA hS (vp_in_nI (n := (i + 1)) (by omega) (by omega)) dL_law_283 ?_
    rw [nI_clamp (by omega)]
    have hP := va_P_perm hP (lperm (WD cI cO a FA nC nR nL nF par wt (fun r => nI (sk r)) (fun r => nI (fk r)) hd rea sig) (WF FA (fun k => mc k * 40 + mp k * 4 + mm k) mf md mv nx nF) (WM cI cZ b nC nR nL nF par wt (fun r => nI (sk r)) (fun r => nI (fk r)) mc mp mm mf md mv mder mkn thr) ((ob, .inl (cL, 1, .inr (.inl ov9))) : Nat × va_E))
    have hD := va_D_perm hD (lperm (WD cI cO a FA nC nR nL nF par wt (fun r => nI (sk r)) (fun r => nI (fk r)) hd rea sig) (WF FA (fun k => mc k * 40 + mp k * 4 + mm k) mf md mv nx nF) (WM cI cZ b nC nR nL nF par wt (fun r => nI (sk r)) (fun r => nI (fk r)) mc mp mm mf md mv mder mkn thr) ((ob, .inl (cL, 1, .inr (.inl ov9))) : Nat × va_E))
    refine va_calli (va_runV (As := [.int (xs (i + 1))]) (rest := []) ⟨hx, hb, hml, hown, hts⟩ (c5_unhang_1 l D cI cZ cO cL dt A b nC nR nL nF par wt (fun r => nI (sk r)) (fun r => nI (fk r)) mc mp mm mf md mv mder mkn thr (WD cI cO a FA nC nR nL nF par wt (fun r => nI (sk r)) (fun r => nI (fk r)) hd rea sig ++ (WF FA (fun k => mc k * 40 + mp k * 4 + mm k) mf md mv nx nF ++ [((ob, .inl (cL, 1, .inr (.inl ov9))) : Nat × va_E)])) (xs (i + 1)) (fun z => hR9 ((cOk_iff (n := nC) (by omega)).mp z))) (cwV 1 hts gL_law_X5_unhang rfl rfl rfl (by decide +kernel) ⟨(Nat.le_of_ble_eq_true rfl), (Nat.le_of_ble_eq_true rfl)⟩) (gP.v (hg.on hS) hP 4 rfl 0 rfl ⟨hP, hD⟩) rfl rfl hl.1 rfl (lv_room (Nat.le_of_ble_eq_true rfl)) dL_law_284 ⟨by show cells + 1 + 0 ≤ 601024; omega, by show slots + 6 + 0 ≤ 7293034; omega⟩) hS (fun q _ h => h) (fun q h => h) (fun b9 u8 t8 H locs ht8 hvm8 hw8 hB8 hz8 hk8 hS => ?_)
    rw [ht8] at hB8
    obtain ⟨hP, hD⟩ := hB8
    have hP : va_P D vwCl (WM cI cZ b nC nR nL nF par wt (fun r => nI (sk r)) (fun r => nI (fk r)) mc mp mm mf md mv mder mkn 1 ++ (WD cI cO a FA nC nR nL nF par wt (fun r => nI (sk r)) (fun r => nI (fk r)) hd rea sig ++ (WF FA (fun k => mc k * 40 + mp k * 4 + mm k) mf md mv nx nF ++ [((ob, .inl (cL, 1, .inr (.inl ov9))) : Nat × va_E)]))) H := hP
    have hD : va_D A (WM cI cZ b nC nR nL nF par wt (fun r => nI (sk r)) (fun r => nI (fk r)) mc mp mm mf md mv mder mkn 1 ++ (WD cI cO a FA nC nR nL nF par wt (fun r => nI (sk r)) (fun r => nI (fk r)) hd rea sig ++ (WF FA (fun k => mc k * 40 + mp k * 4 + mm k) mf md mv nx nF ++ [((ob, .inl (cL, 1, .inr (.inl ov9))) : Nat × va_E)]))) := hD
    refine lv_istore (lv' := [(6, .int b9), (5, .int 1), (4, .int (nI i)), (3, .ref ob), (2, .ref (b 0)), (1, .ref (a 0)), (0, .ref b0)]) hx hb dL_law_287 hl (by decide) rfl (fun ls hl => ?_)
    refine lv_aload_n hx hb dL_law_289 rfl (lv_at hl 4 rfl) ?_
    refine g_csi (va_runV (As := []) (rest := []) ⟨hx, hb, hml, hown, hts⟩ (c5_thrown l D cI cZ cO cL dt A b nC nR nL nF par wt (fun r => nI (sk r)) (fun r => nI (fk r)) mc mp mm mf md mv mder mkn 1 (WD cI cO a FA nC nR nL nF par wt (fun r => nI (sk r)) (fun r => nI (fk r)) hd rea sig ++ (WF FA (fun k => mc k * 40 + mp k * 4 + mm k) mf md mv nx nF ++ [((ob, .inl (cL, 1, .inr (.inl ov9))) : Nat × va_E)]))) (cwV 0 hts gL_law_X5_thrown rfl rfl rfl (by decide +kernel) ⟨(Nat.le_of_ble_eq_true rfl), (Nat.le_of_ble_eq_true rfl)⟩) (gP.v (hg.on hS) hP 4 rfl 0 rfl hP) rfl rfl hl.1 rfl (lv_room (Nat.le_of_ble_eq_true rfl)) dL_law_290 ⟨by show cells + 1 + 0 + 0 ≤ 601024; omega, by show slots + 6 + 0 + 0 ≤ 7293034; omega⟩) (fun t7 ht7 => ?_)
    obtain rfl : t7 = 1 := ht7
    have hP := va_P_perm hP (lperm (WD cI cO a FA nC nR nL nF par wt (fun r => nI (sk r)) (fun r => nI (fk r)) hd rea sig) (WF FA (fun k => mc k * 40 + mp k * 4 + mm k) mf md mv nx nF) (WM cI cZ b nC nR nL nF par wt (fun r => nI (sk r)) (fun r => nI (fk r)) mc mp mm mf md mv mder mkn 1) ((ob, .inl (cL, 1, .inr (.inl ov9))) : Nat × va_E)).symm
    have hD := va_D_perm hD (lperm (WD cI cO a FA nC nR nL nF par wt (fun r => nI (sk r)) (fun r => nI (fk r)) hd rea sig) (WF FA (fun k => mc k * 40 + mp k * 4 + mm k) mf md mv nx nF) (WM cI cZ b nC nR nL nF par wt (fun r => nI (sk r)) (fun r => nI (fk r)) mc mp mm mf md mv mder mkn 1) ((ob, .inl (cL, 1, .inr (.inl ov9))) : Nat × va_E)).symm
    refine lv_iload hx hb dL_law_293 (lv_at hl 1 rfl) ?_
    refine lv_icmp_eq (tgt := 300) hx hb dL_law_295 (by decide) (fun c_295 => ?_) (fun c_295 => ?_)
    · skip
      refine lv_iload hx hb dL_law_300 (lv_at hl 1 rfl) ?_
      refine lv_if_ne (tgt := 317) hx hb dL_law_302 (by decide) (fun c_302 => ?_) (fun c_302 => ?_)
      · skip
        refine lv_goto (tgt := 1413) hx hb dL_law_317 (by decide) ?_
        refine W.widen (k := cells + 4) (n := slots + 24) (by omega) (by omega) ?_
        exact kk _ _ _ ⟨FA, nC, nR, nL, nF, par, wt, sk, fk, hd, rea, sig, mc, mp, mm, mf, md, mv, nx, mder, mkn, 1, ov9, L, hOk, hP, hD⟩ hS (lv_sub hl [2, 3, 4, 5, 6] rfl)
      · skip
        exact absurd c_302 (by decide)
    · skip
      exact absurd c_295 (by decide)
set_option maxHeartbeats 4000000 in
set_option maxRecDepth 100000 in
/-- the case of addRoll -/
theorem lw_addRoll (l : Launch) (hlt : l.stackTraces = false) {D : va_G} {cI cZ cO cL : ClassId} {dt : Nat} {A : Nat → Prop} {a b : Nat → Nat} {ob b0 i Ls cells slots : Nat} {xs : Nat → Int32} {p9 : Program} {e9 : Env} {s : State} {m9 : MethodId} {args : Array Value} {below : List Frame} {meth : Method} {c9 : Code} {H : Heap} {locs : List Loc} {ls : Array Slot} {Q : State → Prop}
    (hx : p9.tables.exec = Jvm.exec) (hb : c9.code = cL_law) (hml : c9.maxLocals = 7) (hown : s.vm.findClass RL = some m9.cls) (hts : ∀ w ∈ wsL_law, w.before args s = true) (hg : gG D cI cZ cO cL dt A s s.heap) (hX : va_X b0 Ls xs s s.heap) (hb0 : b0 < s.heap.size) (hbA : ¬ A b0) (hi : i + 6 ≤ Ls) (hLs : Ls ≤ 3072)
    (hI : lInv D cI cZ cO cL A a b ob H) (hS : va_S A s.heap H locs) (hl : lv_has ls 7 [(4, .int (nI i)), (3, .ref ob), (2, .ref (b 0)), (1, .ref (a 0)), (0, .ref b0)]) (hcc : cells + 4 ≤ 601024) (hss : slots + 24 ≤ 7293034)
    (kk : ∀ (H : Heap) (locs : List Loc) (ls : Array Slot), lInv D cI cZ cO cL A a b ob H → va_S A s.heap H locs → lv_has ls 7 [(4, .int (nI i)), (3, .ref ob), (2, .ref (b 0)), (1, .ref (a 0)), (0, .ref b0)] → W p9 l e9 room_1 s m9 args below meth c9 H locs (cells + 4) (slots + 24) Q (F0 m9 1413 ls [])) :
    W p9 l e9 room_1 s m9 args below meth c9 H locs cells slots Q (F0 m9 320 ls []) := by
  obtain ⟨FA, nC, nR, nL, nF, par, wt, sk, fk, hd, rea, sig, mc, mp, mm, mf, md, mv, nx, mder, mkn, thr, ov, L, hOk, hP, hD⟩ := hI
  obtain ⟨⟨hC12, hR5, hL8, hF⟩, ⟨hT, hwt⟩, ⟨hsk12, hfk12, hskC⟩, ⟨hCh, hH, hN, hfL⟩, h1, h2, h3, h4, hmd, hmv, h7⟩ := id hOk
  have hK := hg.1
  have hck : ∀ k, mc k * 40 + mp k * 4 + mm k < 480 := fun k => by have := h1 k; have := h2 k; have := h3 k; omega
  have hcf : ∀ k, mf k < 2 ^ 31 := fun k => by have := h4 k; omega
  have hmd31 : ∀ k, md k < 2 ^ 31 := fun k => by have := hmd k; omega
  have hP : va_P D vwCl (WD cI cO a FA nC nR nL nF par wt (fun r => nI (sk r)) (fun r => nI (fk r)) hd rea sig ++ (WF FA (fun k => mc k * 40 + mp k * 4 + mm k) mf md mv nx nF ++ ((ob, .inl (cL, 1, .inr (.inl ov))) : Nat × va_E) :: WM cI cZ b nC nR nL nF par wt (fun r => nI (sk r)) (fun r => nI (fk r)) mc mp mm mf md mv mder mkn thr)) H := hP
  have hD : va_D A (WD cI cO a FA nC nR nL nF par wt (fun r => nI (sk r)) (fun r => nI (fk r)) hd rea sig ++ (WF FA (fun k => mc k * 40 + mp k * 4 + mm k) mf md mv nx nF ++ ((ob, .inl (cL, 1, .inr (.inl ov))) : Nat × va_E) :: WM cI cZ b nC nR nL nF par wt (fun r => nI (sk r)) (fun r => nI (fk r)) mc mp mm mf md mv mder mkn thr)) := hD
  refine lv_aload_n hx hb dL_law_320 rfl (lv_at hl 3 rfl) ?_
  refine lv_aload_n hx hb dL_law_321 rfl (lv_at hl 4 rfl) ?_
  refine lv_iload hx hb dL_law_322 (lv_at hl 0 rfl) ?_
  refine lv_iconst (v := 1) hx hb dL_law_324 (by decide) ?_
  refine lv_iadd hx hb dL_law_325 ?_
  refine lv_topi (fun dv edv => ?_)
  obtain rfl : dv = nI (i + 1) := by rw [edv]; exact nI_add i 1
  refine va_sld hx hb hX hb0 hbA hS (vp_in_nI (n := (i + 1)) (by omega) (by omega)) dL_law_326 ?_
  rw [nI_clamp (by omega)]
  refine lv_aload_n hx hb dL_law_327 rfl (lv_at hl 4 rfl) ?_
  refine lv_iload hx hb dL_law_328 (lv_at hl 0 rfl) ?_
  refine lv_iconst (v := 2) hx hb dL_law_330 (by decide) ?_
  refine lv_iadd hx hb dL_law_331 ?_
  refine lv_topi (fun dv edv => ?_)
  obtain rfl : dv = nI (i + 2) := by rw [edv]; exact nI_add i 2
  refine va_sld hx hb hX hb0 hbA hS (vp_in_nI (n := (i + 2)) (by omega) (by omega)) dL_law_332 ?_
  rw [nI_clamp (by omega)]
  refine lv_aload_n hx hb dL_law_333 rfl (lv_at hl 1 rfl) ?_
  refine va_calli (vx_runSW (hh := [(0, 10, 13, 19), (0, 10, 17, 21), (0, 10, 21, 13)]) (As := [.ref (a 0), .int (xs (i + 1)), .int (xs (i + 2)), .ref ob]) (rest := []) ⟨hx, hb, hml, hown, hts⟩ (kL_addRoll l D cI cZ cO cL dt A a FA nC nR nL nF par wt (fun r => nI (sk r)) (fun r => nI (fk r)) hd rea sig (fun k => mc k * 40 + mp k * 4 + mm k) mf md mv nx (WM cI cZ b nC nR nL nF par wt (fun r => nI (sk r)) (fun r => nI (fk r)) mc mp mm mf md mv mder mkn thr) ob ov (xs (i + 1)) (xs (i + 2)) hlt hC12 hL8 hR5) (vx_cwSW 4 hts gL_law_L_addRoll rfl rfl rfl (by decide +kernel) ⟨(Nat.le_of_ble_eq_true rfl), (Nat.le_of_ble_eq_true rfl)⟩) (gP.s (hg.on hS) ⟨hP, hD⟩) rfl rfl hl.1 rfl (lv_room (Nat.le_of_ble_eq_true rfl)) dL_law_334 ⟨by show cells + 3 ≤ 601024; omega, by show slots + 18 ≤ 7293034; omega⟩) hS (fun q _ h => h) (fun q h => h) (fun k9 u9 t9 H locs ht9 hvm9 hw9 hB9 hz9 hk9 hS => ?_)
  rw [ht9] at hB9
  obtain ⟨ov9, ux⟩ := u9
  rcases hw9 with ⟨rfl, r9, x, hx9, hu9, hpost⟩ | ⟨hx9, (⟨rfl, hR9⟩ | ⟨rfl, hR9⟩ | ⟨rfl, hR9⟩)⟩
  · skip
    obtain rfl : ux = some x := hx9
    have hu9 : ov9 0 = _ := hu9
    have hB9 : va_P D vwCl (WD cI cO a FA nC (nR + 1) nL nF par wt (upd (fun r => nI (sk r)) nR (nI x.1)) (upd (fun r => nI (fk r)) nR (nI x.2)) hd rea sig ++ (WF FA (fun k => mc k * 40 + mp k * 4 + mm k) mf md mv nx nF ++ ((ob, .inl (cL, 1, .inr (.inl ov9))) : Nat × va_E) :: WM cI cZ b nC nR nL nF par wt (fun r => nI (sk r)) (fun r => nI (fk r)) mc mp mm mf md mv mder mkn thr)) H ∧ va_D A (WD cI cO a FA nC (nR + 1) nL nF par wt (upd (fun r => nI (sk r)) nR (nI x.1)) (upd (fun r => nI (fk r)) nR (nI x.2)) hd rea sig ++ (WF FA (fun k => mc k * 40 + mp k * 4 + mm k) mf md mv nx nF ++ ((ob, .inl (cL, 1, .inr (.inl ov9))) : Nat × va_E) :: WM cI cZ b nC nR nL nF par wt (fun r => nI (sk r)) (fun r => nI (fk r)) mc mp mm mf md mv mder mkn thr)) := hB9
    obtain ⟨hP, hD⟩ := hB9
    obtain ⟨⟨hc9, hc⟩, ⟨hp9, hp⟩, hne, h5, rfl⟩ := hpost
    refine lv_istore (lv' := [(5, .int 0), (4, .int (nI i)), (3, .ref ob), (2, .ref (b 0)), (1, .ref (a 0)), (0, .ref b0)]) hx hb dL_law_337 hl (by decide) rfl (fun ls hl => ?_)
    refine lv_aload_n hx hb dL_law_339 rfl (lv_at hl 3 rfl) ?_
    refine lv_aload_n hx hb dL_law_340 rfl (lv_at hl 5 rfl) ?_
    refine lv_iload hx hb dL_law_341 (lv_at hl 1 rfl) ?_
    refine lv_iconst (v := 1) hx hb dL_law_343 (by decide) ?_
    refine lv_iadd hx hb dL_law_344 ?_
    refine lv_topi (fun dv edv => ?_)
    obtain rfl : dv = nI (i + 1) := by rw [edv]; exact nI_add i 1
    refine va_sld hx hb hX hb0 hbA hS (vp_in_nI (n := (i + 1)) (by omega) (by omega)) dL_law_345 ?_
    rw [nI_clamp (by omega)]
    refine lv_aload_n hx hb dL_law_346 rfl (lv_at hl 5 rfl) ?_
    refine lv_iload hx hb dL_law_347 (lv_at hl 1 rfl) ?_
    refine lv_iconst (v := 2) hx hb dL_law_349 (by decide) ?_
    refine lv_iadd hx hb dL_law_350 ?_
    refine lv_topi (fun dv edv => ?_)
    obtain rfl : dv = nI (i + 2) := by rw [edv]; exact nI_add i 2
    refine va_sld hx hb hX hb0 hbA hS (vp_in_nI (n := (i + 2)) (by omega) (by omega)) dL_law_351 ?_
    rw [nI_clamp (by omega)]
    have hP := va_P_perm hP (lperm (WD cI cO a FA nC (nR + 1) nL nF par wt (upd (fun r => nI (sk r)) nR (nI x.1)) (upd (fun r => nI (fk r)) nR (nI x.2)) hd rea sig) (WF FA (fun k => mc k * 40 + mp k * 4 + mm k) mf md mv nx nF) (WM cI cZ b nC nR nL nF par wt (fun r => nI (sk r)) (fun r => nI (fk r)) mc mp mm mf md mv mder mkn thr) ((ob, .inl (cL, 1, .inr (.inl ov9))) : Nat × va_E))
    have hD := va_D_perm hD (lperm (WD cI cO a FA nC (nR + 1) nL nF par wt (upd (fun r => nI (sk r)) nR (nI x.1)) (upd (fun r => nI (fk r)) nR (nI x.2)) hd rea sig) (WF FA (fun k => mc k * 40 + mp k * 4 + mm k) mf md mv nx nF) (WM cI cZ b nC nR nL nF par wt (fun r => nI (sk r)) (fun r => nI (fk r)) mc mp mm mf md mv mder mkn thr) ((ob, .inl (cL, 1, .inr (.inl ov9))) : Nat × va_E))
    refine va_calli (va_runV (As := [.int (xs (i + 1)), .int (xs (i + 2))]) (rest := []) ⟨hx, hb, hml, hown, hts⟩ (c5_addRoll_0 l D cI cZ cO cL dt A b nC nR nL nF par wt (fun r => nI (sk r)) (fun r => nI (fk r)) mc mp mm mf md mv mder mkn thr (WD cI cO a FA nC (nR + 1) nL nF par wt (upd (fun r => nI (sk r)) nR (nI x.1)) (upd (fun r => nI (fk r)) nR (nI x.2)) hd rea sig ++ (WF FA (fun k => mc k * 40 + mp k * 4 + mm k) mf md mv nx nF ++ [((ob, .inl (cL, 1, .inr (.inl ov9))) : Nat × va_E)])) (xs (i + 1)) (xs (i + 2)) ((cOk_iff (n := nC) (by omega)).mpr ⟨x.1, hc9, hc⟩) ((cOk_iff (n := nC) (by omega)).mpr ⟨x.2, hp9, hp⟩) hne h5) (cwV 2 hts gL_law_X5_addRoll rfl rfl rfl (by decide +kernel) ⟨(Nat.le_of_ble_eq_true rfl), (Nat.le_of_ble_eq_true rfl)⟩) (gP.v (hg.on hS) hP 4 rfl 0 rfl ⟨hP, hD⟩) rfl rfl hl.1 rfl (lv_room (Nat.le_of_ble_eq_true rfl)) dL_law_352 ⟨by show cells + 3 + 0 ≤ 601024; omega, by show slots + 18 + 0 ≤ 7293034; omega⟩) hS (fun q _ h => h) (fun q h => h) (fun b9 u8 t8 H locs ht8 hvm8 hw8 hB8 hz8 hk8 hS => ?_)
    rw [ht8] at hB8
    obtain ⟨hP, hD⟩ := hB8
    have hP : va_P D vwCl (WM cI cZ b nC (nR + 1) nL nF par wt (upd (fun r => nI (sk r)) nR (xs (i + 1))) (upd (fun r => nI (fk r)) nR (xs (i + 2))) mc mp mm mf md mv mder mkn 0 ++ (WD cI cO a FA nC (nR + 1) nL nF par wt (upd (fun r => nI (sk r)) nR (nI x.1)) (upd (fun r => nI (fk r)) nR (nI x.2)) hd rea sig ++ (WF FA (fun k => mc k * 40 + mp k * 4 + mm k) mf md mv nx nF ++ [((ob, .inl (cL, 1, .inr (.inl ov9))) : Nat × va_E)]))) H := hP
    have hD : va_D A (WM cI cZ b nC (nR + 1) nL nF par wt (upd (fun r => nI (sk r)) nR (xs (i + 1))) (upd (fun r => nI (fk r)) nR (xs (i + 2))) mc mp mm mf md mv mder mkn 0 ++ (WD cI cO a FA nC (nR + 1) nL nF par wt (upd (fun r => nI (sk r)) nR (nI x.1)) (upd (fun r => nI (fk r)) nR (nI x.2)) hd rea sig ++ (WF FA (fun k => mc k * 40 + mp k * 4 + mm k) mf md mv nx nF ++ [((ob, .inl (cL, 1, .inr (.inl ov9))) : Nat × va_E)]))) := hD
    refine lv_istore (lv' := [(6, .int b9), (5, .int 0), (4, .int (nI i)), (3, .ref ob), (2, .ref (b 0)), (1, .ref (a 0)), (0, .ref b0)]) hx hb dL_law_355 hl (by decide) rfl (fun ls hl => ?_)
    refine lv_aload_n hx hb dL_law_357 rfl (lv_at hl 4 rfl) ?_
    refine g_csi (va_runV (As := []) (rest := []) ⟨hx, hb, hml, hown, hts⟩ (c5_thrown l D cI cZ cO cL dt A b nC (nR + 1) nL nF par wt (upd (fun r => nI (sk r)) nR (xs (i + 1))) (upd (fun r => nI (fk r)) nR (xs (i + 2))) mc mp mm mf md mv mder mkn 0 (WD cI cO a FA nC (nR + 1) nL nF par wt (upd (fun r => nI (sk r)) nR (nI x.1)) (upd (fun r => nI (fk r)) nR (nI x.2)) hd rea sig ++ (WF FA (fun k => mc k * 40 + mp k * 4 + mm k) mf md mv nx nF ++ [((ob, .inl (cL, 1, .inr (.inl ov9))) : Nat × va_E)]))) (cwV 0 hts gL_law_X5_thrown rfl rfl rfl (by decide +kernel) ⟨(Nat.le_of_ble_eq_true rfl), (Nat.le_of_ble_eq_true rfl)⟩) (gP.v (hg.on hS) hP 4 rfl 0 rfl hP) rfl rfl hl.1 rfl (lv_room (Nat.le_of_ble_eq_true rfl)) dL_law_358 ⟨by show cells + 3 + 0 + 0 ≤ 601024; omega, by show slots + 18 + 0 + 0 ≤ 7293034; omega⟩) (fun t7 ht7 => ?_)
    obtain rfl : t7 = 0 := ht7
    have hP := va_P_perm hP (lperm (WD cI cO a FA nC (nR + 1) nL nF par wt (upd (fun r => nI (sk r)) nR (nI x.1)) (upd (fun r => nI (fk r)) nR (nI x.2)) hd rea sig) (WF FA (fun k => mc k * 40 + mp k * 4 + mm k) mf md mv nx nF) (WM cI cZ b nC (nR + 1) nL nF par wt (upd (fun r => nI (sk r)) nR (xs (i + 1))) (upd (fun r => nI (fk r)) nR (xs (i + 2))) mc mp mm mf md mv mder mkn 0) ((ob, .inl (cL, 1, .inr (.inl ov9))) : Nat × va_E)).symm
    have hD := va_D_perm hD (lperm (WD cI cO a FA nC (nR + 1) nL nF par wt (upd (fun r => nI (sk r)) nR (nI x.1)) (upd (fun r => nI (fk r)) nR (nI x.2)) hd rea sig) (WF FA (fun k => mc k * 40 + mp k * 4 + mm k) mf md mv nx nF) (WM cI cZ b nC (nR + 1) nL nF par wt (upd (fun r => nI (sk r)) nR (xs (i + 1))) (upd (fun r => nI (fk r)) nR (xs (i + 2))) mc mp mm mf md mv mder mkn 0) ((ob, .inl (cL, 1, .inr (.inl ov9))) : Nat × va_E)).symm
    have hag : (nI nR).toInt64 = b9.toInt64 := by rw [hw8]
    refine lv_iload hx hb dL_law_361 (lv_at hl 1 rfl) ?_
    refine lv_icmp_eq (tgt := 368) hx hb dL_law_363 (by decide) (fun c_363 => ?_) (fun c_363 => ?_)
    · skip
      refine lv_iload hx hb dL_law_368 (lv_at hl 1 rfl) ?_
      refine lv_if_ne (tgt := 385) hx hb dL_law_370 (by decide) (fun c_370 => ?_) (fun c_370 => ?_)
      · skip
        exact absurd c_370 (by decide)
      · skip
        refine lv_aload_n hx hb dL_law_373 rfl (lv_at hl 3 rfl) ?_
        refine lv_iconst (v := 0) hx hb dL_law_374 (by decide) ?_
        refine va_lald hx hb hK hP (11 + nF) 3 (WDR_at) rfl e_in0 dL_law_375 ?_
        rw [e_z0, hu9, hag]
        refine lv_iload hx hb dL_law_376 (lv_at hl 0 rfl) ?_
        refine lv_i2l (v := (b9).toInt64) hx hb dL_law_378 rfl ?_
        refine W.lcmp hx hb dL_law_379 ?_
        rw [lg_self]
        refine lv_if_eq (tgt := 385) hx hb dL_law_380 (by decide) (fun c_380 => ?_) (fun c_380 => ?_)
        · skip
          refine lv_goto (tgt := 1413) hx hb dL_law_385 (by decide) ?_
          rw [hc9, hp9, upd_nI sk nR x.1, upd_nI fk nR x.2] at hP hD
          refine W.widen (k := cells + 4) (n := slots + 24) (by omega) (by omega) ?_
          exact kk _ _ _ ⟨FA, nC, (nR + 1), nL, nF, par, wt, va_up sk nR x.1, va_up fk nR x.2, hd, rea, sig, mc, mp, mm, mf, md, mv, nx, mder, mkn, 0, ov9, L, lOk_roll hOk hc hp h5, hP, hD⟩ hS (lv_sub hl [2, 3, 4, 5, 6] rfl)
        · skip
          exact absurd c_380 (by decide)
    · skip
      exact absurd c_363 (by decide)
  · skip
    obtain rfl : ux = none := hx9
    by_cases hsp : cOk nC (xs (i + 1))
    · skip
      have hB9 : va_P D vwCl (WD cI cO a FA nC nR nL nF par wt (fun r => nI (sk r)) (fun r => nI (fk r)) hd rea sig ++ (WF FA (fun k => mc k * 40 + mp k * 4 + mm k) mf md mv nx nF ++ ((ob, .inl (cL, 1, .inr (.inl ov9))) : Nat × va_E) :: WM cI cZ b nC nR nL nF par wt (fun r => nI (sk r)) (fun r => nI (fk r)) mc mp mm mf md mv mder mkn thr)) H ∧ va_D A (WD cI cO a FA nC nR nL nF par wt (fun r => nI (sk r)) (fun r => nI (fk r)) hd rea sig ++ (WF FA (fun k => mc k * 40 + mp k * 4 + mm k) mf md mv nx nF ++ ((ob, .inl (cL, 1, .inr (.inl ov9))) : Nat × va_E) :: WM cI cZ b nC nR nL nF par wt (fun r => nI (sk r)) (fun r => nI (fk r)) mc mp mm mf md mv mder mkn thr)) := hB9
      obtain ⟨hP, hD⟩ := hB9
      refine lv_istore (lv' := [(5, .int 1), (4, .int (nI i)), (3, .ref ob), (2, .ref (b 0)), (1, .ref (a 0)), (0, .ref b0)]) hx hb dL_law_337 hl (by decide) rfl (fun ls hl => ?_)
      refine lv_aload_n hx hb dL_law_339 rfl (lv_at hl 3 rfl) ?_
      refine lv_aload_n hx hb dL_law_340 rfl (lv_at hl 5 rfl) ?_
      refine lv_iload hx hb dL_law_341 (lv_at hl 1 rfl) ?_
      refine lv_iconst (v := 1) hx hb dL_law_343 (by decide) ?_
      refine lv_iadd hx hb dL_law_344 ?_
      refine lv_topi (fun dv edv => ?_)
      obtain rfl : dv = nI (i + 1) := by rw [edv]; exact nI_add i 1
      refine va_sld hx hb hX hb0 hbA hS (vp_in_nI (n := (i + 1)) (by omega) (by omega)) dL_law_345 ?_
      rw [nI_clamp (by omega)]
      refine lv_aload_n hx hb dL_law_346 rfl (lv_at hl 5 rfl) ?_
      refine lv_iload hx hb dL_law_347 (lv_at hl 1 rfl) ?_
      refine lv_iconst (v := 2) hx hb dL_law_349 (by decide) ?_
      refine lv_iadd hx hb dL_law_350 ?_
      refine lv_topi (fun dv edv => ?_)
      obtain rfl : dv = nI (i + 2) := by rw [edv]; exact nI_add i 2
      refine va_sld hx hb hX hb0 hbA hS (vp_in_nI (n := (i + 2)) (by omega) (by omega)) dL_law_351 ?_
      rw [nI_clamp (by omega)]
      have hP := va_P_perm hP (lperm (WD cI cO a FA nC nR nL nF par wt (fun r => nI (sk r)) (fun r => nI (fk r)) hd rea sig) (WF FA (fun k => mc k * 40 + mp k * 4 + mm k) mf md mv nx nF) (WM cI cZ b nC nR nL nF par wt (fun r => nI (sk r)) (fun r => nI (fk r)) mc mp mm mf md mv mder mkn thr) ((ob, .inl (cL, 1, .inr (.inl ov9))) : Nat × va_E))
      have hD := va_D_perm hD (lperm (WD cI cO a FA nC nR nL nF par wt (fun r => nI (sk r)) (fun r => nI (fk r)) hd rea sig) (WF FA (fun k => mc k * 40 + mp k * 4 + mm k) mf md mv nx nF) (WM cI cZ b nC nR nL nF par wt (fun r => nI (sk r)) (fun r => nI (fk r)) mc mp mm mf md mv mder mkn thr) ((ob, .inl (cL, 1, .inr (.inl ov9))) : Nat × va_E))
      refine va_calli (va_runV (As := [.int (xs (i + 1)), .int (xs (i + 2))]) (rest := []) ⟨hx, hb, hml, hown, hts⟩ (c5_addRoll_1b l D cI cZ cO cL dt A b nC nR nL nF par wt (fun r => nI (sk r)) (fun r => nI (fk r)) mc mp mm mf md mv mder mkn thr (WD cI cO a FA nC nR nL nF par wt (fun r => nI (sk r)) (fun r => nI (fk r)) hd rea sig ++ (WF FA (fun k => mc k * 40 + mp k * 4 + mm k) mf md mv nx nF ++ [((ob, .inl (cL, 1, .inr (.inl ov9))) : Nat × va_E)])) (xs (i + 1)) (xs (i + 2)) ((cOk_iff (n := nC) (by omega)).mpr hsp) (fun z => hR9 ⟨hsp, ((cOk_iff (n := nC) (by omega)).mp z)⟩)) (cwV 2 hts gL_law_X5_addRoll rfl rfl rfl (by decide +kernel) ⟨(Nat.le_of_ble_eq_true rfl), (Nat.le_of_ble_eq_true rfl)⟩) (gP.v (hg.on hS) hP 4 rfl 0 rfl ⟨hP, hD⟩) rfl rfl hl.1 rfl (lv_room (Nat.le_of_ble_eq_true rfl)) dL_law_352 ⟨by show cells + 3 + 0 ≤ 601024; omega, by show slots + 18 + 0 ≤ 7293034; omega⟩) hS (fun q _ h => h) (fun q h => h) (fun b9 u8 t8 H locs ht8 hvm8 hw8 hB8 hz8 hk8 hS => ?_)
      rw [ht8] at hB8
      obtain ⟨hP, hD⟩ := hB8
      have hP : va_P D vwCl (WM cI cZ b nC nR nL nF par wt (fun r => nI (sk r)) (fun r => nI (fk r)) mc mp mm mf md mv mder mkn 1 ++ (WD cI cO a FA nC nR nL nF par wt (fun r => nI (sk r)) (fun r => nI (fk r)) hd rea sig ++ (WF FA (fun k => mc k * 40 + mp k * 4 + mm k) mf md mv nx nF ++ [((ob, .inl (cL, 1, .inr (.inl ov9))) : Nat × va_E)]))) H := hP
      have hD : va_D A (WM cI cZ b nC nR nL nF par wt (fun r => nI (sk r)) (fun r => nI (fk r)) mc mp mm mf md mv mder mkn 1 ++ (WD cI cO a FA nC nR nL nF par wt (fun r => nI (sk r)) (fun r => nI (fk r)) hd rea sig ++ (WF FA (fun k => mc k * 40 + mp k * 4 + mm k) mf md mv nx nF ++ [((ob, .inl (cL, 1, .inr (.inl ov9))) : Nat × va_E)]))) := hD
      refine lv_istore (lv' := [(6, .int b9), (5, .int 1), (4, .int (nI i)), (3, .ref ob), (2, .ref (b 0)), (1, .ref (a 0)), (0, .ref b0)]) hx hb dL_law_355 hl (by decide) rfl (fun ls hl => ?_)
      refine lv_aload_n hx hb dL_law_357 rfl (lv_at hl 4 rfl) ?_
      refine g_csi (va_runV (As := []) (rest := []) ⟨hx, hb, hml, hown, hts⟩ (c5_thrown l D cI cZ cO cL dt A b nC nR nL nF par wt (fun r => nI (sk r)) (fun r => nI (fk r)) mc mp mm mf md mv mder mkn 1 (WD cI cO a FA nC nR nL nF par wt (fun r => nI (sk r)) (fun r => nI (fk r)) hd rea sig ++ (WF FA (fun k => mc k * 40 + mp k * 4 + mm k) mf md mv nx nF ++ [((ob, .inl (cL, 1, .inr (.inl ov9))) : Nat × va_E)]))) (cwV 0 hts gL_law_X5_thrown rfl rfl rfl (by decide +kernel) ⟨(Nat.le_of_ble_eq_true rfl), (Nat.le_of_ble_eq_true rfl)⟩) (gP.v (hg.on hS) hP 4 rfl 0 rfl hP) rfl rfl hl.1 rfl (lv_room (Nat.le_of_ble_eq_true rfl)) dL_law_358 ⟨by show cells + 3 + 0 + 0 ≤ 601024; omega, by show slots + 18 + 0 + 0 ≤ 7293034; omega⟩) (fun t7 ht7 => ?_)
      obtain rfl : t7 = 1 := ht7
      have hP := va_P_perm hP (lperm (WD cI cO a FA nC nR nL nF par wt (fun r => nI (sk r)) (fun r => nI (fk r)) hd rea sig) (WF FA (fun k => mc k * 40 + mp k * 4 + mm k) mf md mv nx nF) (WM cI cZ b nC nR nL nF par wt (fun r => nI (sk r)) (fun r => nI (fk r)) mc mp mm mf md mv mder mkn 1) ((ob, .inl (cL, 1, .inr (.inl ov9))) : Nat × va_E)).symm
      have hD := va_D_perm hD (lperm (WD cI cO a FA nC nR nL nF par wt (fun r => nI (sk r)) (fun r => nI (fk r)) hd rea sig) (WF FA (fun k => mc k * 40 + mp k * 4 + mm k) mf md mv nx nF) (WM cI cZ b nC nR nL nF par wt (fun r => nI (sk r)) (fun r => nI (fk r)) mc mp mm mf md mv mder mkn 1) ((ob, .inl (cL, 1, .inr (.inl ov9))) : Nat × va_E)).symm
      refine lv_iload hx hb dL_law_361 (lv_at hl 1 rfl) ?_
      refine lv_icmp_eq (tgt := 368) hx hb dL_law_363 (by decide) (fun c_363 => ?_) (fun c_363 => ?_)
      · skip
        refine lv_iload hx hb dL_law_368 (lv_at hl 1 rfl) ?_
        refine lv_if_ne (tgt := 385) hx hb dL_law_370 (by decide) (fun c_370 => ?_) (fun c_370 => ?_)
        · skip
          refine lv_goto (tgt := 1413) hx hb dL_law_385 (by decide) ?_
          refine W.widen (k := cells + 4) (n := slots + 24) (by omega) (by omega) ?_
          exact kk _ _ _ ⟨FA, nC, nR, nL, nF, par, wt, sk, fk, hd, rea, sig, mc, mp, mm, mf, md, mv, nx, mder, mkn, 1, ov9, L, hOk, hP, hD⟩ hS (lv_sub hl [2, 3, 4, 5, 6] rfl)
        · skip
          exact absurd c_370 (by decide)
      · skip
        exact absurd c_363 (by decide)
    · skip
      have hB9 : va_P D vwCl (WD cI cO a FA nC nR nL nF par wt (fun r => nI (sk r)) (fun r => nI (fk r)) hd rea sig ++ (WF FA (fun k => mc k * 40 + mp k * 4 + mm k) mf md mv nx nF ++ ((ob, .inl (cL, 1, .inr (.inl ov9))) : Nat × va_E) :: WM cI cZ b nC nR nL nF par wt (fun r => nI (sk r)) (fun r => nI (fk r)) mc mp mm mf md mv mder mkn thr)) H ∧ va_D A (WD cI cO a FA nC nR nL nF par wt (fun r => nI (sk r)) (fun r => nI (fk r)) hd rea sig ++ (WF FA (fun k => mc k * 40 + mp k * 4 + mm k) mf md mv nx nF ++ ((ob, .inl (cL, 1, .inr (.inl ov9))) : Nat × va_E) :: WM cI cZ b nC nR nL nF par wt (fun r => nI (sk r)) (fun r => nI (fk r)) mc mp mm mf md mv mder mkn thr)) := hB9
      obtain ⟨hP, hD⟩ := hB9
      refine lv_istore (lv' := [(5, .int 1), (4, .int (nI i)), (3, .ref ob), (2, .ref (b 0)), (1, .ref (a 0)), (0, .ref b0)]) hx hb dL_law_337 hl (by decide) rfl (fun ls hl => ?_)
      refine lv_aload_n hx hb dL_law_339 rfl (lv_at hl 3 rfl) ?_
      refine lv_aload_n hx hb dL_law_340 rfl (lv_at hl 5 rfl) ?_
      refine lv_iload hx hb dL_law_341 (lv_at hl 1 rfl) ?_
      refine lv_iconst (v := 1) hx hb dL_law_343 (by decide) ?_
      refine lv_iadd hx hb dL_law_344 ?_
      refine lv_topi (fun dv edv => ?_)
      obtain rfl : dv = nI (i + 1) := by rw [edv]; exact nI_add i 1
      refine va_sld hx hb hX hb0 hbA hS (vp_in_nI (n := (i + 1)) (by omega) (by omega)) dL_law_345 ?_
      rw [nI_clamp (by omega)]
      refine lv_aload_n hx hb dL_law_346 rfl (lv_at hl 5 rfl) ?_
      refine lv_iload hx hb dL_law_347 (lv_at hl 1 rfl) ?_
      refine lv_iconst (v := 2) hx hb dL_law_349 (by decide) ?_
      refine lv_iadd hx hb dL_law_350 ?_
      refine lv_topi (fun dv edv => ?_)
      obtain rfl : dv = nI (i + 2) := by rw [edv]; exact nI_add i 2
      refine va_sld hx hb hX hb0 hbA hS (vp_in_nI (n := (i + 2)) (by omega) (by omega)) dL_law_351 ?_
      rw [nI_clamp (by omega)]
      have hP := va_P_perm hP (lperm (WD cI cO a FA nC nR nL nF par wt (fun r => nI (sk r)) (fun r => nI (fk r)) hd rea sig) (WF FA (fun k => mc k * 40 + mp k * 4 + mm k) mf md mv nx nF) (WM cI cZ b nC nR nL nF par wt (fun r => nI (sk r)) (fun r => nI (fk r)) mc mp mm mf md mv mder mkn thr) ((ob, .inl (cL, 1, .inr (.inl ov9))) : Nat × va_E))
      have hD := va_D_perm hD (lperm (WD cI cO a FA nC nR nL nF par wt (fun r => nI (sk r)) (fun r => nI (fk r)) hd rea sig) (WF FA (fun k => mc k * 40 + mp k * 4 + mm k) mf md mv nx nF) (WM cI cZ b nC nR nL nF par wt (fun r => nI (sk r)) (fun r => nI (fk r)) mc mp mm mf md mv mder mkn thr) ((ob, .inl (cL, 1, .inr (.inl ov9))) : Nat × va_E))
      refine va_calli (va_runV (As := [.int (xs (i + 1)), .int (xs (i + 2))]) (rest := []) ⟨hx, hb, hml, hown, hts⟩ (c5_addRoll_1a l D cI cZ cO cL dt A b nC nR nL nF par wt (fun r => nI (sk r)) (fun r => nI (fk r)) mc mp mm mf md mv mder mkn thr (WD cI cO a FA nC nR nL nF par wt (fun r => nI (sk r)) (fun r => nI (fk r)) hd rea sig ++ (WF FA (fun k => mc k * 40 + mp k * 4 + mm k) mf md mv nx nF ++ [((ob, .inl (cL, 1, .inr (.inl ov9))) : Nat × va_E)])) (xs (i + 1)) (xs (i + 2)) (fun z => hsp ((cOk_iff (n := nC) (by omega)).mp z))) (cwV 2 hts gL_law_X5_addRoll rfl rfl rfl (by decide +kernel) ⟨(Nat.le_of_ble_eq_true rfl), (Nat.le_of_ble_eq_true rfl)⟩) (gP.v (hg.on hS) hP 4 rfl 0 rfl ⟨hP, hD⟩) rfl rfl hl.1 rfl (lv_room (Nat.le_of_ble_eq_true rfl)) dL_law_352 ⟨by show cells + 3 + 0 ≤ 601024; omega, by show slots + 18 + 0 ≤ 7293034; omega⟩) hS (fun q _ h => h) (fun q h => h) (fun b9 u8 t8 H locs ht8 hvm8 hw8 hB8 hz8 hk8 hS => ?_)
      rw [ht8] at hB8
      obtain ⟨hP, hD⟩ := hB8
      have hP : va_P D vwCl (WM cI cZ b nC nR nL nF par wt (fun r => nI (sk r)) (fun r => nI (fk r)) mc mp mm mf md mv mder mkn 1 ++ (WD cI cO a FA nC nR nL nF par wt (fun r => nI (sk r)) (fun r => nI (fk r)) hd rea sig ++ (WF FA (fun k => mc k * 40 + mp k * 4 + mm k) mf md mv nx nF ++ [((ob, .inl (cL, 1, .inr (.inl ov9))) : Nat × va_E)]))) H := hP
      have hD : va_D A (WM cI cZ b nC nR nL nF par wt (fun r => nI (sk r)) (fun r => nI (fk r)) mc mp mm mf md mv mder mkn 1 ++ (WD cI cO a FA nC nR nL nF par wt (fun r => nI (sk r)) (fun r => nI (fk r)) hd rea sig ++ (WF FA (fun k => mc k * 40 + mp k * 4 + mm k) mf md mv nx nF ++ [((ob, .inl (cL, 1, .inr (.inl ov9))) : Nat × va_E)]))) := hD
      refine lv_istore (lv' := [(6, .int b9), (5, .int 1), (4, .int (nI i)), (3, .ref ob), (2, .ref (b 0)), (1, .ref (a 0)), (0, .ref b0)]) hx hb dL_law_355 hl (by decide) rfl (fun ls hl => ?_)
      refine lv_aload_n hx hb dL_law_357 rfl (lv_at hl 4 rfl) ?_
      refine g_csi (va_runV (As := []) (rest := []) ⟨hx, hb, hml, hown, hts⟩ (c5_thrown l D cI cZ cO cL dt A b nC nR nL nF par wt (fun r => nI (sk r)) (fun r => nI (fk r)) mc mp mm mf md mv mder mkn 1 (WD cI cO a FA nC nR nL nF par wt (fun r => nI (sk r)) (fun r => nI (fk r)) hd rea sig ++ (WF FA (fun k => mc k * 40 + mp k * 4 + mm k) mf md mv nx nF ++ [((ob, .inl (cL, 1, .inr (.inl ov9))) : Nat × va_E)]))) (cwV 0 hts gL_law_X5_thrown rfl rfl rfl (by decide +kernel) ⟨(Nat.le_of_ble_eq_true rfl), (Nat.le_of_ble_eq_true rfl)⟩) (gP.v (hg.on hS) hP 4 rfl 0 rfl hP) rfl rfl hl.1 rfl (lv_room (Nat.le_of_ble_eq_true rfl)) dL_law_358 ⟨by show cells + 3 + 0 + 0 ≤ 601024; omega, by show slots + 18 + 0 + 0 ≤ 7293034; omega⟩) (fun t7 ht7 => ?_)
      obtain rfl : t7 = 1 := ht7
      have hP := va_P_perm hP (lperm (WD cI cO a FA nC nR nL nF par wt (fun r => nI (sk r)) (fun r => nI (fk r)) hd rea sig) (WF FA (fun k => mc k * 40 + mp k * 4 + mm k) mf md mv nx nF) (WM cI cZ b nC nR nL nF par wt (fun r => nI (sk r)) (fun r => nI (fk r)) mc mp mm mf md mv mder mkn 1) ((ob, .inl (cL, 1, .inr (.inl ov9))) : Nat × va_E)).symm
      have hD := va_D_perm hD (lperm (WD cI cO a FA nC nR nL nF par wt (fun r => nI (sk r)) (fun r => nI (fk r)) hd rea sig) (WF FA (fun k => mc k * 40 + mp k * 4 + mm k) mf md mv nx nF) (WM cI cZ b nC nR nL nF par wt (fun r => nI (sk r)) (fun r => nI (fk r)) mc mp mm mf md mv mder mkn 1) ((ob, .inl (cL, 1, .inr (.inl ov9))) : Nat × va_E)).symm
      refine lv_iload hx hb dL_law_361 (lv_at hl 1 rfl) ?_
      refine lv_icmp_eq (tgt := 368) hx hb dL_law_363 (by decide) (fun c_363 => ?_) (fun c_363 => ?_)
      · skip
        refine lv_iload hx hb dL_law_368 (lv_at hl 1 rfl) ?_
        refine lv_if_ne (tgt := 385) hx hb dL_law_370 (by decide) (fun c_370 => ?_) (fun c_370 => ?_)
        · skip
          refine lv_goto (tgt := 1413) hx hb dL_law_385 (by decide) ?_
          refine W.widen (k := cells + 4) (n := slots + 24) (by omega) (by omega) ?_
          exact kk _ _ _ ⟨FA, nC, nR, nL, nF, par, wt, sk, fk, hd, rea, sig, mc, mp, mm, mf, md, mv, nx, mder, mkn, 1, ov9, L, hOk, hP, hD⟩ hS (lv_sub hl [2, 3, 4, 5, 6] rfl)
        · skip
          exact absurd c_370 (by decide)
      · skip
        exact absurd c_363 (by decide)
  · skip
    obtain rfl : ux = none := hx9
    have hB9 : va_P D vwCl (WD cI cO a FA nC nR nL nF par wt (fun r => nI (sk r)) (fun r => nI (fk r)) hd rea sig ++ (WF FA (fun k => mc k * 40 + mp k * 4 + mm k) mf md mv nx nF ++ ((ob, .inl (cL, 1, .inr (.inl ov9))) : Nat × va_E) :: WM cI cZ b nC nR nL nF par wt (fun r => nI (sk r)) (fun r => nI (fk r)) mc mp mm mf md mv mder mkn thr)) H ∧ va_D A (WD cI cO a FA nC nR nL nF par wt (fun r => nI (sk r)) (fun r => nI (fk r)) hd rea sig ++ (WF FA (fun k => mc k * 40 + mp k * 4 + mm k) mf md mv nx nF ++ ((ob, .inl (cL, 1, .inr (.inl ov9))) : Nat × va_E) :: WM cI cZ b nC nR nL nF par wt (fun r => nI (sk r)) (fun r => nI (fk r)) mc mp mm mf md mv mder mkn thr)) := hB9
    obtain ⟨hP, hD⟩ := hB9
    refine lv_istore (lv' := [(5, .int 2), (4, .int (nI i)), (3, .ref ob), (2, .ref (b 0)), (1, .ref (a 0)), (0, .ref b0)]) hx hb dL_law_337 hl (by decide) rfl (fun ls hl => ?_)
    refine lv_aload_n hx hb dL_law_339 rfl (lv_at hl 3 rfl) ?_
    refine lv_aload_n hx hb dL_law_340 rfl (lv_at hl 5 rfl) ?_
    refine lv_iload hx hb dL_law_341 (lv_at hl 1 rfl) ?_
    refine lv_iconst (v := 1) hx hb dL_law_343 (by decide) ?_
    refine lv_iadd hx hb dL_law_344 ?_
    refine lv_topi (fun dv edv => ?_)
    obtain rfl : dv = nI (i + 1) := by rw [edv]; exact nI_add i 1
    refine va_sld hx hb hX hb0 hbA hS (vp_in_nI (n := (i + 1)) (by omega) (by omega)) dL_law_345 ?_
    rw [nI_clamp (by omega)]
    refine lv_aload_n hx hb dL_law_346 rfl (lv_at hl 5 rfl) ?_
    refine lv_iload hx hb dL_law_347 (lv_at hl 1 rfl) ?_
    refine lv_iconst (v := 2) hx hb dL_law_349 (by decide) ?_
    refine lv_iadd hx hb dL_law_350 ?_
    refine lv_topi (fun dv edv => ?_)
    obtain rfl : dv = nI (i + 2) := by rw [edv]; exact nI_add i 2
    refine va_sld hx hb hX hb0 hbA hS (vp_in_nI (n := (i + 2)) (by omega) (by omega)) dL_law_351 ?_
    rw [nI_clamp (by omega)]
    have hP := va_P_perm hP (lperm (WD cI cO a FA nC nR nL nF par wt (fun r => nI (sk r)) (fun r => nI (fk r)) hd rea sig) (WF FA (fun k => mc k * 40 + mp k * 4 + mm k) mf md mv nx nF) (WM cI cZ b nC nR nL nF par wt (fun r => nI (sk r)) (fun r => nI (fk r)) mc mp mm mf md mv mder mkn thr) ((ob, .inl (cL, 1, .inr (.inl ov9))) : Nat × va_E))
    have hD := va_D_perm hD (lperm (WD cI cO a FA nC nR nL nF par wt (fun r => nI (sk r)) (fun r => nI (fk r)) hd rea sig) (WF FA (fun k => mc k * 40 + mp k * 4 + mm k) mf md mv nx nF) (WM cI cZ b nC nR nL nF par wt (fun r => nI (sk r)) (fun r => nI (fk r)) mc mp mm mf md mv mder mkn thr) ((ob, .inl (cL, 1, .inr (.inl ov9))) : Nat × va_E))
    refine va_calli (va_runV (As := [.int (xs (i + 1)), .int (xs (i + 2))]) (rest := []) ⟨hx, hb, hml, hown, hts⟩ (c5_addRoll_2 l D cI cZ cO cL dt A b nC nR nL nF par wt (fun r => nI (sk r)) (fun r => nI (fk r)) mc mp mm mf md mv mder mkn thr (WD cI cO a FA nC nR nL nF par wt (fun r => nI (sk r)) (fun r => nI (fk r)) hd rea sig ++ (WF FA (fun k => mc k * 40 + mp k * 4 + mm k) mf md mv nx nF ++ [((ob, .inl (cL, 1, .inr (.inl ov9))) : Nat × va_E)])) (xs (i + 1)) (xs (i + 2)) ((cOk_iff (n := nC) (by omega)).mpr hR9.1.1) ((cOk_iff (n := nC) (by omega)).mpr hR9.1.2) hR9.2) (cwV 2 hts gL_law_X5_addRoll rfl rfl rfl (by decide +kernel) ⟨(Nat.le_of_ble_eq_true rfl), (Nat.le_of_ble_eq_true rfl)⟩) (gP.v (hg.on hS) hP 4 rfl 0 rfl ⟨hP, hD⟩) rfl rfl hl.1 rfl (lv_room (Nat.le_of_ble_eq_true rfl)) dL_law_352 ⟨by show cells + 3 + 0 ≤ 601024; omega, by show slots + 18 + 0 ≤ 7293034; omega⟩) hS (fun q _ h => h) (fun q h => h) (fun b9 u8 t8 H locs ht8 hvm8 hw8 hB8 hz8 hk8 hS => ?_)
    rw [ht8] at hB8
    obtain ⟨hP, hD⟩ := hB8
    have hP : va_P D vwCl (WM cI cZ b nC nR nL nF par wt (fun r => nI (sk r)) (fun r => nI (fk r)) mc mp mm mf md mv mder mkn 2 ++ (WD cI cO a FA nC nR nL nF par wt (fun r => nI (sk r)) (fun r => nI (fk r)) hd rea sig ++ (WF FA (fun k => mc k * 40 + mp k * 4 + mm k) mf md mv nx nF ++ [((ob, .inl (cL, 1, .inr (.inl ov9))) : Nat × va_E)]))) H := hP
    have hD : va_D A (WM cI cZ b nC nR nL nF par wt (fun r => nI (sk r)) (fun r => nI (fk r)) mc mp mm mf md mv mder mkn 2 ++ (WD cI cO a FA nC nR nL nF par wt (fun r => nI (sk r)) (fun r => nI (fk r)) hd rea sig ++ (WF FA (fun k => mc k * 40 + mp k * 4 + mm k) mf md mv nx nF ++ [((ob, .inl (cL, 1, .inr (.inl ov9))) : Nat × va_E)]))) := hD
    refine lv_istore (lv' := [(6, .int b9), (5, .int 2), (4, .int (nI i)), (3, .ref ob), (2, .ref (b 0)), (1, .ref (a 0)), (0, .ref b0)]) hx hb dL_law_355 hl (by decide) rfl (fun ls hl => ?_)
    refine lv_aload_n hx hb dL_law_357 rfl (lv_at hl 4 rfl) ?_
    refine g_csi (va_runV (As := []) (rest := []) ⟨hx, hb, hml, hown, hts⟩ (c5_thrown l D cI cZ cO cL dt A b nC nR nL nF par wt (fun r => nI (sk r)) (fun r => nI (fk r)) mc mp mm mf md mv mder mkn 2 (WD cI cO a FA nC nR nL nF par wt (fun r => nI (sk r)) (fun r => nI (fk r)) hd rea sig ++ (WF FA (fun k => mc k * 40 + mp k * 4 + mm k) mf md mv nx nF ++ [((ob, .inl (cL, 1, .inr (.inl ov9))) : Nat × va_E)]))) (cwV 0 hts gL_law_X5_thrown rfl rfl rfl (by decide +kernel) ⟨(Nat.le_of_ble_eq_true rfl), (Nat.le_of_ble_eq_true rfl)⟩) (gP.v (hg.on hS) hP 4 rfl 0 rfl hP) rfl rfl hl.1 rfl (lv_room (Nat.le_of_ble_eq_true rfl)) dL_law_358 ⟨by show cells + 3 + 0 + 0 ≤ 601024; omega, by show slots + 18 + 0 + 0 ≤ 7293034; omega⟩) (fun t7 ht7 => ?_)
    obtain rfl : t7 = 2 := ht7
    have hP := va_P_perm hP (lperm (WD cI cO a FA nC nR nL nF par wt (fun r => nI (sk r)) (fun r => nI (fk r)) hd rea sig) (WF FA (fun k => mc k * 40 + mp k * 4 + mm k) mf md mv nx nF) (WM cI cZ b nC nR nL nF par wt (fun r => nI (sk r)) (fun r => nI (fk r)) mc mp mm mf md mv mder mkn 2) ((ob, .inl (cL, 1, .inr (.inl ov9))) : Nat × va_E)).symm
    have hD := va_D_perm hD (lperm (WD cI cO a FA nC nR nL nF par wt (fun r => nI (sk r)) (fun r => nI (fk r)) hd rea sig) (WF FA (fun k => mc k * 40 + mp k * 4 + mm k) mf md mv nx nF) (WM cI cZ b nC nR nL nF par wt (fun r => nI (sk r)) (fun r => nI (fk r)) mc mp mm mf md mv mder mkn 2) ((ob, .inl (cL, 1, .inr (.inl ov9))) : Nat × va_E)).symm
    refine lv_iload hx hb dL_law_361 (lv_at hl 1 rfl) ?_
    refine lv_icmp_eq (tgt := 368) hx hb dL_law_363 (by decide) (fun c_363 => ?_) (fun c_363 => ?_)
    · skip
      refine lv_iload hx hb dL_law_368 (lv_at hl 1 rfl) ?_
      refine lv_if_ne (tgt := 385) hx hb dL_law_370 (by decide) (fun c_370 => ?_) (fun c_370 => ?_)
      · skip
        refine lv_goto (tgt := 1413) hx hb dL_law_385 (by decide) ?_
        refine W.widen (k := cells + 4) (n := slots + 24) (by omega) (by omega) ?_
        exact kk _ _ _ ⟨FA, nC, nR, nL, nF, par, wt, sk, fk, hd, rea, sig, mc, mp, mm, mf, md, mv, nx, mder, mkn, 2, ov9, L, hOk, hP, hD⟩ hS (lv_sub hl [2, 3, 4, 5, 6] rfl)
      · skip
        exact absurd c_370 (by decide)
    · skip
      exact absurd c_363 (by decide)
  · skip
    obtain rfl : ux = none := hx9
    have hB9 : va_P D vwCl (WD cI cO a FA nC nR nL nF par wt (fun r => nI (sk r)) (fun r => nI (fk r)) hd rea sig ++ (WF FA (fun k => mc k * 40 + mp k * 4 + mm k) mf md mv nx nF ++ ((ob, .inl (cL, 1, .inr (.inl ov9))) : Nat × va_E) :: WM cI cZ b nC nR nL nF par wt (fun r => nI (sk r)) (fun r => nI (fk r)) mc mp mm mf md mv mder mkn thr)) H ∧ va_D A (WD cI cO a FA nC nR nL nF par wt (fun r => nI (sk r)) (fun r => nI (fk r)) hd rea sig ++ (WF FA (fun k => mc k * 40 + mp k * 4 + mm k) mf md mv nx nF ++ ((ob, .inl (cL, 1, .inr (.inl ov9))) : Nat × va_E) :: WM cI cZ b nC nR nL nF par wt (fun r => nI (sk r)) (fun r => nI (fk r)) mc mp mm mf md mv mder mkn thr)) := hB9
    obtain ⟨hP, hD⟩ := hB9
    have h59 := hR9.2.2
    refine lv_istore (lv' := [(5, .int 3), (4, .int (nI i)), (3, .ref ob), (2, .ref (b 0)), (1, .ref (a 0)), (0, .ref b0)]) hx hb dL_law_337 hl (by decide) rfl (fun ls hl => ?_)
    refine lv_aload_n hx hb dL_law_339 rfl (lv_at hl 3 rfl) ?_
    refine lv_aload_n hx hb dL_law_340 rfl (lv_at hl 5 rfl) ?_
    refine lv_iload hx hb dL_law_341 (lv_at hl 1 rfl) ?_
    refine lv_iconst (v := 1) hx hb dL_law_343 (by decide) ?_
    refine lv_iadd hx hb dL_law_344 ?_
    refine lv_topi (fun dv edv => ?_)
    obtain rfl : dv = nI (i + 1) := by rw [edv]; exact nI_add i 1
    refine va_sld hx hb hX hb0 hbA hS (vp_in_nI (n := (i + 1)) (by omega) (by omega)) dL_law_345 ?_
    rw [nI_clamp (by omega)]
    refine lv_aload_n hx hb dL_law_346 rfl (lv_at hl 5 rfl) ?_
    refine lv_iload hx hb dL_law_347 (lv_at hl 1 rfl) ?_
    refine lv_iconst (v := 2) hx hb dL_law_349 (by decide) ?_
    refine lv_iadd hx hb dL_law_350 ?_
    refine lv_topi (fun dv edv => ?_)
    obtain rfl : dv = nI (i + 2) := by rw [edv]; exact nI_add i 2
    refine va_sld hx hb hX hb0 hbA hS (vp_in_nI (n := (i + 2)) (by omega) (by omega)) dL_law_351 ?_
    rw [nI_clamp (by omega)]
    have hP := va_P_perm hP (lperm (WD cI cO a FA nC nR nL nF par wt (fun r => nI (sk r)) (fun r => nI (fk r)) hd rea sig) (WF FA (fun k => mc k * 40 + mp k * 4 + mm k) mf md mv nx nF) (WM cI cZ b nC nR nL nF par wt (fun r => nI (sk r)) (fun r => nI (fk r)) mc mp mm mf md mv mder mkn thr) ((ob, .inl (cL, 1, .inr (.inl ov9))) : Nat × va_E))
    have hD := va_D_perm hD (lperm (WD cI cO a FA nC nR nL nF par wt (fun r => nI (sk r)) (fun r => nI (fk r)) hd rea sig) (WF FA (fun k => mc k * 40 + mp k * 4 + mm k) mf md mv nx nF) (WM cI cZ b nC nR nL nF par wt (fun r => nI (sk r)) (fun r => nI (fk r)) mc mp mm mf md mv mder mkn thr) ((ob, .inl (cL, 1, .inr (.inl ov9))) : Nat × va_E))
    refine va_calli (va_runV (As := [.int (xs (i + 1)), .int (xs (i + 2))]) (rest := []) ⟨hx, hb, hml, hown, hts⟩ (c5_addRoll_3 l D cI cZ cO cL dt A b nC nR nL nF par wt (fun r => nI (sk r)) (fun r => nI (fk r)) mc mp mm mf md mv mder mkn thr (WD cI cO a FA nC nR nL nF par wt (fun r => nI (sk r)) (fun r => nI (fk r)) hd rea sig ++ (WF FA (fun k => mc k * 40 + mp k * 4 + mm k) mf md mv nx nF ++ [((ob, .inl (cL, 1, .inr (.inl ov9))) : Nat × va_E)])) (xs (i + 1)) (xs (i + 2)) ((cOk_iff (n := nC) (by omega)).mpr hR9.1.1) ((cOk_iff (n := nC) (by omega)).mpr hR9.1.2) hR9.2.1 (by omega)) (cwV 2 hts gL_law_X5_addRoll rfl rfl rfl (by decide +kernel) ⟨(Nat.le_of_ble_eq_true rfl), (Nat.le_of_ble_eq_true rfl)⟩) (gP.v (hg.on hS) hP 4 rfl 0 rfl ⟨hP, hD⟩) rfl rfl hl.1 rfl (lv_room (Nat.le_of_ble_eq_true rfl)) dL_law_352 ⟨by show cells + 3 + 0 ≤ 601024; omega, by show slots + 18 + 0 ≤ 7293034; omega⟩) hS (fun q _ h => h) (fun q h => h) (fun b9 u8 t8 H locs ht8 hvm8 hw8 hB8 hz8 hk8 hS => ?_)
    rw [ht8] at hB8
    obtain ⟨hP, hD⟩ := hB8
    have hP : va_P D vwCl (WM cI cZ b nC nR nL nF par wt (fun r => nI (sk r)) (fun r => nI (fk r)) mc mp mm mf md mv mder mkn 3 ++ (WD cI cO a FA nC nR nL nF par wt (fun r => nI (sk r)) (fun r => nI (fk r)) hd rea sig ++ (WF FA (fun k => mc k * 40 + mp k * 4 + mm k) mf md mv nx nF ++ [((ob, .inl (cL, 1, .inr (.inl ov9))) : Nat × va_E)]))) H := hP
    have hD : va_D A (WM cI cZ b nC nR nL nF par wt (fun r => nI (sk r)) (fun r => nI (fk r)) mc mp mm mf md mv mder mkn 3 ++ (WD cI cO a FA nC nR nL nF par wt (fun r => nI (sk r)) (fun r => nI (fk r)) hd rea sig ++ (WF FA (fun k => mc k * 40 + mp k * 4 + mm k) mf md mv nx nF ++ [((ob, .inl (cL, 1, .inr (.inl ov9))) : Nat × va_E)]))) := hD
    refine lv_istore (lv' := [(6, .int b9), (5, .int 3), (4, .int (nI i)), (3, .ref ob), (2, .ref (b 0)), (1, .ref (a 0)), (0, .ref b0)]) hx hb dL_law_355 hl (by decide) rfl (fun ls hl => ?_)
    refine lv_aload_n hx hb dL_law_357 rfl (lv_at hl 4 rfl) ?_
    refine g_csi (va_runV (As := []) (rest := []) ⟨hx, hb, hml, hown, hts⟩ (c5_thrown l D cI cZ cO cL dt A b nC nR nL nF par wt (fun r => nI (sk r)) (fun r => nI (fk r)) mc mp mm mf md mv mder mkn 3 (WD cI cO a FA nC nR nL nF par wt (fun r => nI (sk r)) (fun r => nI (fk r)) hd rea sig ++ (WF FA (fun k => mc k * 40 + mp k * 4 + mm k) mf md mv nx nF ++ [((ob, .inl (cL, 1, .inr (.inl ov9))) : Nat × va_E)]))) (cwV 0 hts gL_law_X5_thrown rfl rfl rfl (by decide +kernel) ⟨(Nat.le_of_ble_eq_true rfl), (Nat.le_of_ble_eq_true rfl)⟩) (gP.v (hg.on hS) hP 4 rfl 0 rfl hP) rfl rfl hl.1 rfl (lv_room (Nat.le_of_ble_eq_true rfl)) dL_law_358 ⟨by show cells + 3 + 0 + 0 ≤ 601024; omega, by show slots + 18 + 0 + 0 ≤ 7293034; omega⟩) (fun t7 ht7 => ?_)
    obtain rfl : t7 = 3 := ht7
    have hP := va_P_perm hP (lperm (WD cI cO a FA nC nR nL nF par wt (fun r => nI (sk r)) (fun r => nI (fk r)) hd rea sig) (WF FA (fun k => mc k * 40 + mp k * 4 + mm k) mf md mv nx nF) (WM cI cZ b nC nR nL nF par wt (fun r => nI (sk r)) (fun r => nI (fk r)) mc mp mm mf md mv mder mkn 3) ((ob, .inl (cL, 1, .inr (.inl ov9))) : Nat × va_E)).symm
    have hD := va_D_perm hD (lperm (WD cI cO a FA nC nR nL nF par wt (fun r => nI (sk r)) (fun r => nI (fk r)) hd rea sig) (WF FA (fun k => mc k * 40 + mp k * 4 + mm k) mf md mv nx nF) (WM cI cZ b nC nR nL nF par wt (fun r => nI (sk r)) (fun r => nI (fk r)) mc mp mm mf md mv mder mkn 3) ((ob, .inl (cL, 1, .inr (.inl ov9))) : Nat × va_E)).symm
    refine lv_iload hx hb dL_law_361 (lv_at hl 1 rfl) ?_
    refine lv_icmp_eq (tgt := 368) hx hb dL_law_363 (by decide) (fun c_363 => ?_) (fun c_363 => ?_)
    · skip
      refine lv_iload hx hb dL_law_368 (lv_at hl 1 rfl) ?_
      refine lv_if_ne (tgt := 385) hx hb dL_law_370 (by decide) (fun c_370 => ?_) (fun c_370 => ?_)
      · skip
        refine lv_goto (tgt := 1413) hx hb dL_law_385 (by decide) ?_
        refine W.widen (k := cells + 4) (n := slots + 24) (by omega) (by omega) ?_
        exact kk _ _ _ ⟨FA, nC, nR, nL, nF, par, wt, sk, fk, hd, rea, sig, mc, mp, mm, mf, md, mv, nx, mder, mkn, 3, ov9, L, hOk, hP, hD⟩ hS (lv_sub hl [2, 3, 4, 5, 6] rfl)
      · skip
        exact absurd c_370 (by decide)
    · skip
      exact absurd c_363 (by decide)
set_option maxHeartbeats 4000000 in
set_option maxRecDepth 100000 in
/-- the case of file -/
theorem lw_file (l : Launch) (hlt : l.stackTraces = false) {D : va_G} {cI cZ cO cL : ClassId} {dt : Nat} {A : Nat → Prop} {a b : Nat → Nat} {ob b0 i Ls cells slots : Nat} {xs : Nat → Int32} {p9 : Program} {e9 : Env} {s : State} {m9 : MethodId} {args : Array Value} {below : List Frame} {meth : Method} {c9 : Code} {H : Heap} {locs : List Loc} {ls : Array Slot} {Q : State → Prop}
    (hx : p9.tables.exec = Jvm.exec) (hb : c9.code = cL_law) (hml : c9.maxLocals = 7) (hown : s.vm.findClass RL = some m9.cls) (hts : ∀ w ∈ wsL_law, w.before args s = true) (hg : gG D cI cZ cO cL dt A s s.heap) (hX : va_X b0 Ls xs s s.heap) (hb0 : b0 < s.heap.size) (hbA : ¬ A b0) (hi : i + 6 ≤ Ls) (hLs : Ls ≤ 3072)
    (hI : lInv D cI cZ cO cL A a b ob H) (hS : va_S A s.heap H locs) (hl : lv_has ls 7 [(4, .int (nI i)), (3, .ref ob), (2, .ref (b 0)), (1, .ref (a 0)), (0, .ref b0)]) (hcc : cells + 4 ≤ 601024) (hss : slots + 24 ≤ 7293034)
    (kk : ∀ (H : Heap) (locs : List Loc) (ls : Array Slot), lInv D cI cZ cO cL A a b ob H → va_S A s.heap H locs → lv_has ls 7 [(4, .int (nI i)), (3, .ref ob), (2, .ref (b 0)), (1, .ref (a 0)), (0, .ref b0)] → W p9 l e9 room_1 s m9 args below meth c9 H locs (cells + 4) (slots + 24) Q (F0 m9 1413 ls [])) :
    W p9 l e9 room_1 s m9 args below meth c9 H locs cells slots Q (F0 m9 388 ls []) := by
  obtain ⟨FA, nC, nR, nL, nF, par, wt, sk, fk, hd, rea, sig, mc, mp, mm, mf, md, mv, nx, mder, mkn, thr, ov, L, hOk, hP, hD⟩ := hI
  obtain ⟨⟨hC12, hR5, hL8, hF⟩, ⟨hT, hwt⟩, ⟨hsk12, hfk12, hskC⟩, ⟨hCh, hH, hN, hfL⟩, h1, h2, h3, h4, hmd, hmv, h7⟩ := id hOk
  have hK := hg.1
  have hck : ∀ k, mc k * 40 + mp k * 4 + mm k < 480 := fun k => by have := h1 k; have := h2 k; have := h3 k; omega
  have hcf : ∀ k, mf k < 2 ^ 31 := fun k => by have := h4 k; omega
  have hmd31 : ∀ k, md k < 2 ^ 31 := fun k => by have := hmd k; omega
  have hP : va_P D vwCl (WD cI cO a FA nC nR nL nF par wt (fun r => nI (sk r)) (fun r => nI (fk r)) hd rea sig ++ (WF FA (fun k => mc k * 40 + mp k * 4 + mm k) mf md mv nx nF ++ ((ob, .inl (cL, 1, .inr (.inl ov))) : Nat × va_E) :: WM cI cZ b nC nR nL nF par wt (fun r => nI (sk r)) (fun r => nI (fk r)) mc mp mm mf md mv mder mkn thr)) H := hP
  have hD : va_D A (WD cI cO a FA nC nR nL nF par wt (fun r => nI (sk r)) (fun r => nI (fk r)) hd rea sig ++ (WF FA (fun k => mc k * 40 + mp k * 4 + mm k) mf md mv nx nF ++ ((ob, .inl (cL, 1, .inr (.inl ov))) : Nat × va_E) :: WM cI cZ b nC nR nL nF par wt (fun r => nI (sk r)) (fun r => nI (fk r)) mc mp mm mf md mv mder mkn thr)) := hD
  refine lv_aload_n hx hb dL_law_388 rfl (lv_at hl 3 rfl) ?_
  refine lv_aload_n hx hb dL_law_389 rfl (lv_at hl 1 rfl) ?_
  refine va_calli (vx_runSW (hh := [(0, 8, 11, 13)]) (As := [.ref (a 0), .ref ob]) (rest := []) ⟨hx, hb, hml, hown, hts⟩ (kL_file l D cI cZ cO cL dt A a FA nC nR nL nF par wt (fun r => nI (sk r)) (fun r => nI (fk r)) hd rea sig (fun k => mc k * 40 + mp k * 4 + mm k) mf md mv nx (WM cI cZ b nC nR nL nF par wt (fun r => nI (sk r)) (fun r => nI (fk r)) mc mp mm mf md mv mder mkn thr) ob ov hlt hC12 hL8) (vx_cwSW 2 hts gL_law_L_file rfl rfl rfl (by decide +kernel) ⟨(Nat.le_of_ble_eq_true rfl), (Nat.le_of_ble_eq_true rfl)⟩) (gP.s (hg.on hS) ⟨hP, hD⟩) rfl rfl hl.1 rfl (lv_room (Nat.le_of_ble_eq_true rfl)) dL_law_390 ⟨by show cells + 1 ≤ 601024; omega, by show slots + 6 ≤ 7293034; omega⟩) hS (fun q _ h => h) (fun q h => h) (fun k9 u9 t9 H locs ht9 hvm9 hw9 hB9 hz9 hk9 hS => ?_)
  rw [ht9] at hB9
  obtain ⟨ov9, ux⟩ := u9
  rcases hw9 with ⟨rfl, r9, x, hx9, hu9, hpost⟩ | ⟨hx9, ⟨rfl, hR9⟩⟩
  · skip
    obtain rfl : ux = some x := hx9
    have hu9 : ov9 0 = _ := hu9
    have hB9 : va_P D vwCl (WD cI cO a FA nC nR (nL + 1) nF par wt (fun r => nI (sk r)) (fun r => nI (fk r)) hd rea sig ++ (WF FA (fun k => mc k * 40 + mp k * 4 + mm k) mf md mv nx nF ++ ((ob, .inl (cL, 1, .inr (.inl ov9))) : Nat × va_E) :: WM cI cZ b nC nR nL nF par wt (fun r => nI (sk r)) (fun r => nI (fk r)) mc mp mm mf md mv mder mkn thr)) H ∧ va_D A (WD cI cO a FA nC nR (nL + 1) nF par wt (fun r => nI (sk r)) (fun r => nI (fk r)) hd rea sig ++ (WF FA (fun k => mc k * 40 + mp k * 4 + mm k) mf md mv nx nF ++ ((ob, .inl (cL, 1, .inr (.inl ov9))) : Nat × va_E) :: WM cI cZ b nC nR nL nF par wt (fun r => nI (sk r)) (fun r => nI (fk r)) mc mp mm mf md mv mder mkn thr)) := hB9
    obtain ⟨hP, hD⟩ := hB9
    obtain ⟨h79, rfl⟩ := hpost
    refine lv_istore (lv' := [(5, .int 0), (4, .int (nI i)), (3, .ref ob), (2, .ref (b 0)), (1, .ref (a 0)), (0, .ref b0)]) hx hb dL_law_393 hl (by decide) rfl (fun ls hl => ?_)
    refine lv_aload_n hx hb dL_law_395 rfl (lv_at hl 3 rfl) ?_
    have hP := va_P_perm hP (lperm (WD cI cO a FA nC nR (nL + 1) nF par wt (fun r => nI (sk r)) (fun r => nI (fk r)) hd rea sig) (WF FA (fun k => mc k * 40 + mp k * 4 + mm k) mf md mv nx nF) (WM cI cZ b nC nR nL nF par wt (fun r => nI (sk r)) (fun r => nI (fk r)) mc mp mm mf md mv mder mkn thr) ((ob, .inl (cL, 1, .inr (.inl ov9))) : Nat × va_E))
    have hD := va_D_perm hD (lperm (WD cI cO a FA nC nR (nL + 1) nF par wt (fun r => nI (sk r)) (fun r => nI (fk r)) hd rea sig) (WF FA (fun k => mc k * 40 + mp k * 4 + mm k) mf md mv nx nF) (WM cI cZ b nC nR nL nF par wt (fun r => nI (sk r)) (fun r => nI (fk r)) mc mp mm mf md mv mder mkn thr) ((ob, .inl (cL, 1, .inr (.inl ov9))) : Nat × va_E))
    refine va_calli (va_runV (As := []) (rest := []) ⟨hx, hb, hml, hown, hts⟩ (c5_file_0 l D cI cZ cO cL dt A b nC nR nL nF par wt (fun r => nI (sk r)) (fun r => nI (fk r)) mc mp mm mf md mv mder mkn thr (WD cI cO a FA nC nR (nL + 1) nF par wt (fun r => nI (sk r)) (fun r => nI (fk r)) hd rea sig ++ (WF FA (fun k => mc k * 40 + mp k * 4 + mm k) mf md mv nx nF ++ [((ob, .inl (cL, 1, .inr (.inl ov9))) : Nat × va_E)])) h79) (cwV 0 hts gL_law_X5_file rfl rfl rfl (by decide +kernel) ⟨(Nat.le_of_ble_eq_true rfl), (Nat.le_of_ble_eq_true rfl)⟩) (gP.v (hg.on hS) hP 4 rfl 0 rfl ⟨hP, hD⟩) rfl rfl hl.1 rfl (lv_room (Nat.le_of_ble_eq_true rfl)) dL_law_396 ⟨by show cells + 1 + 0 ≤ 601024; omega, by show slots + 6 + 0 ≤ 7293034; omega⟩) hS (fun q _ h => h) (fun q h => h) (fun b9 u8 t8 H locs ht8 hvm8 hw8 hB8 hz8 hk8 hS => ?_)
    rw [ht8] at hB8
    obtain ⟨hP, hD⟩ := hB8
    have hP : va_P D vwCl (WM cI cZ b nC nR (nL + 1) nF par wt (fun r => nI (sk r)) (fun r => nI (fk r)) mc mp mm mf md mv mder mkn 0 ++ (WD cI cO a FA nC nR (nL + 1) nF par wt (fun r => nI (sk r)) (fun r => nI (fk r)) hd rea sig ++ (WF FA (fun k => mc k * 40 + mp k * 4 + mm k) mf md mv nx nF ++ [((ob, .inl (cL, 1, .inr (.inl ov9))) : Nat × va_E)]))) H := hP
    have hD : va_D A (WM cI cZ b nC nR (nL + 1) nF par wt (fun r => nI (sk r)) (fun r => nI (fk r)) mc mp mm mf md mv mder mkn 0 ++ (WD cI cO a FA nC nR (nL + 1) nF par wt (fun r => nI (sk r)) (fun r => nI (fk r)) hd rea sig ++ (WF FA (fun k => mc k * 40 + mp k * 4 + mm k) mf md mv nx nF ++ [((ob, .inl (cL, 1, .inr (.inl ov9))) : Nat × va_E)]))) := hD
    refine lv_istore (lv' := [(6, .int b9), (5, .int 0), (4, .int (nI i)), (3, .ref ob), (2, .ref (b 0)), (1, .ref (a 0)), (0, .ref b0)]) hx hb dL_law_399 hl (by decide) rfl (fun ls hl => ?_)
    refine lv_aload_n hx hb dL_law_401 rfl (lv_at hl 4 rfl) ?_
    refine g_csi (va_runV (As := []) (rest := []) ⟨hx, hb, hml, hown, hts⟩ (c5_thrown l D cI cZ cO cL dt A b nC nR (nL + 1) nF par wt (fun r => nI (sk r)) (fun r => nI (fk r)) mc mp mm mf md mv mder mkn 0 (WD cI cO a FA nC nR (nL + 1) nF par wt (fun r => nI (sk r)) (fun r => nI (fk r)) hd rea sig ++ (WF FA (fun k => mc k * 40 + mp k * 4 + mm k) mf md mv nx nF ++ [((ob, .inl (cL, 1, .inr (.inl ov9))) : Nat × va_E)]))) (cwV 0 hts gL_law_X5_thrown rfl rfl rfl (by decide +kernel) ⟨(Nat.le_of_ble_eq_true rfl), (Nat.le_of_ble_eq_true rfl)⟩) (gP.v (hg.on hS) hP 4 rfl 0 rfl hP) rfl rfl hl.1 rfl (lv_room (Nat.le_of_ble_eq_true rfl)) dL_law_402 ⟨by show cells + 1 + 0 + 0 ≤ 601024; omega, by show slots + 6 + 0 + 0 ≤ 7293034; omega⟩) (fun t7 ht7 => ?_)
    obtain rfl : t7 = 0 := ht7
    have hP := va_P_perm hP (lperm (WD cI cO a FA nC nR (nL + 1) nF par wt (fun r => nI (sk r)) (fun r => nI (fk r)) hd rea sig) (WF FA (fun k => mc k * 40 + mp k * 4 + mm k) mf md mv nx nF) (WM cI cZ b nC nR (nL + 1) nF par wt (fun r => nI (sk r)) (fun r => nI (fk r)) mc mp mm mf md mv mder mkn 0) ((ob, .inl (cL, 1, .inr (.inl ov9))) : Nat × va_E)).symm
    have hD := va_D_perm hD (lperm (WD cI cO a FA nC nR (nL + 1) nF par wt (fun r => nI (sk r)) (fun r => nI (fk r)) hd rea sig) (WF FA (fun k => mc k * 40 + mp k * 4 + mm k) mf md mv nx nF) (WM cI cZ b nC nR (nL + 1) nF par wt (fun r => nI (sk r)) (fun r => nI (fk r)) mc mp mm mf md mv mder mkn 0) ((ob, .inl (cL, 1, .inr (.inl ov9))) : Nat × va_E)).symm
    have hag : (nI (nL + 1)).toInt64 = b9.toInt64 := by rw [hw8]
    refine lv_iload hx hb dL_law_405 (lv_at hl 1 rfl) ?_
    refine lv_icmp_eq (tgt := 412) hx hb dL_law_407 (by decide) (fun c_407 => ?_) (fun c_407 => ?_)
    · skip
      refine lv_iload hx hb dL_law_412 (lv_at hl 1 rfl) ?_
      refine lv_if_ne (tgt := 429) hx hb dL_law_414 (by decide) (fun c_414 => ?_) (fun c_414 => ?_)
      · skip
        exact absurd c_414 (by decide)
      · skip
        refine lv_aload_n hx hb dL_law_417 rfl (lv_at hl 3 rfl) ?_
        refine lv_iconst (v := 0) hx hb dL_law_418 (by decide) ?_
        refine va_lald hx hb hK hP (11 + nF) 3 (WDR_at) rfl e_in0 dL_law_419 ?_
        rw [e_z0, hu9, hag]
        refine lv_iload hx hb dL_law_420 (lv_at hl 0 rfl) ?_
        refine lv_i2l (v := (b9).toInt64) hx hb dL_law_422 rfl ?_
        refine W.lcmp hx hb dL_law_423 ?_
        rw [lg_self]
        refine lv_if_eq (tgt := 429) hx hb dL_law_424 (by decide) (fun c_424 => ?_) (fun c_424 => ?_)
        · skip
          refine lv_goto (tgt := 1413) hx hb dL_law_429 (by decide) ?_
          refine W.widen (k := cells + 4) (n := slots + 24) (by omega) (by omega) ?_
          exact kk _ _ _ ⟨FA, nC, nR, (nL + 1), nF, par, wt, sk, fk, hd, rea, sig, mc, mp, mm, mf, md, mv, nx, mder, mkn, 0, ov9, L, lOk_file hOk h79, hP, hD⟩ hS (lv_sub hl [2, 3, 4, 5, 6] rfl)
        · skip
          exact absurd c_424 (by decide)
    · skip
      exact absurd c_407 (by decide)
  · skip
    obtain rfl : ux = none := hx9
    have hB9 : va_P D vwCl (WD cI cO a FA nC nR nL nF par wt (fun r => nI (sk r)) (fun r => nI (fk r)) hd rea sig ++ (WF FA (fun k => mc k * 40 + mp k * 4 + mm k) mf md mv nx nF ++ ((ob, .inl (cL, 1, .inr (.inl ov9))) : Nat × va_E) :: WM cI cZ b nC nR nL nF par wt (fun r => nI (sk r)) (fun r => nI (fk r)) mc mp mm mf md mv mder mkn thr)) H ∧ va_D A (WD cI cO a FA nC nR nL nF par wt (fun r => nI (sk r)) (fun r => nI (fk r)) hd rea sig ++ (WF FA (fun k => mc k * 40 + mp k * 4 + mm k) mf md mv nx nF ++ ((ob, .inl (cL, 1, .inr (.inl ov9))) : Nat × va_E) :: WM cI cZ b nC nR nL nF par wt (fun r => nI (sk r)) (fun r => nI (fk r)) mc mp mm mf md mv mder mkn thr)) := hB9
    obtain ⟨hP, hD⟩ := hB9
    refine lv_istore (lv' := [(5, .int 1), (4, .int (nI i)), (3, .ref ob), (2, .ref (b 0)), (1, .ref (a 0)), (0, .ref b0)]) hx hb dL_law_393 hl (by decide) rfl (fun ls hl => ?_)
    refine lv_aload_n hx hb dL_law_395 rfl (lv_at hl 3 rfl) ?_
    have hP := va_P_perm hP (lperm (WD cI cO a FA nC nR nL nF par wt (fun r => nI (sk r)) (fun r => nI (fk r)) hd rea sig) (WF FA (fun k => mc k * 40 + mp k * 4 + mm k) mf md mv nx nF) (WM cI cZ b nC nR nL nF par wt (fun r => nI (sk r)) (fun r => nI (fk r)) mc mp mm mf md mv mder mkn thr) ((ob, .inl (cL, 1, .inr (.inl ov9))) : Nat × va_E))
    have hD := va_D_perm hD (lperm (WD cI cO a FA nC nR nL nF par wt (fun r => nI (sk r)) (fun r => nI (fk r)) hd rea sig) (WF FA (fun k => mc k * 40 + mp k * 4 + mm k) mf md mv nx nF) (WM cI cZ b nC nR nL nF par wt (fun r => nI (sk r)) (fun r => nI (fk r)) mc mp mm mf md mv mder mkn thr) ((ob, .inl (cL, 1, .inr (.inl ov9))) : Nat × va_E))
    refine va_calli (va_runV (As := []) (rest := []) ⟨hx, hb, hml, hown, hts⟩ (c5_file_1 l D cI cZ cO cL dt A b nC nR nL nF par wt (fun r => nI (sk r)) (fun r => nI (fk r)) mc mp mm mf md mv mder mkn thr (WD cI cO a FA nC nR nL nF par wt (fun r => nI (sk r)) (fun r => nI (fk r)) hd rea sig ++ (WF FA (fun k => mc k * 40 + mp k * 4 + mm k) mf md mv nx nF ++ [((ob, .inl (cL, 1, .inr (.inl ov9))) : Nat × va_E)])) (by omega)) (cwV 0 hts gL_law_X5_file rfl rfl rfl (by decide +kernel) ⟨(Nat.le_of_ble_eq_true rfl), (Nat.le_of_ble_eq_true rfl)⟩) (gP.v (hg.on hS) hP 4 rfl 0 rfl ⟨hP, hD⟩) rfl rfl hl.1 rfl (lv_room (Nat.le_of_ble_eq_true rfl)) dL_law_396 ⟨by show cells + 1 + 0 ≤ 601024; omega, by show slots + 6 + 0 ≤ 7293034; omega⟩) hS (fun q _ h => h) (fun q h => h) (fun b9 u8 t8 H locs ht8 hvm8 hw8 hB8 hz8 hk8 hS => ?_)
    rw [ht8] at hB8
    obtain ⟨hP, hD⟩ := hB8
    have hP : va_P D vwCl (WM cI cZ b nC nR nL nF par wt (fun r => nI (sk r)) (fun r => nI (fk r)) mc mp mm mf md mv mder mkn 1 ++ (WD cI cO a FA nC nR nL nF par wt (fun r => nI (sk r)) (fun r => nI (fk r)) hd rea sig ++ (WF FA (fun k => mc k * 40 + mp k * 4 + mm k) mf md mv nx nF ++ [((ob, .inl (cL, 1, .inr (.inl ov9))) : Nat × va_E)]))) H := hP
    have hD : va_D A (WM cI cZ b nC nR nL nF par wt (fun r => nI (sk r)) (fun r => nI (fk r)) mc mp mm mf md mv mder mkn 1 ++ (WD cI cO a FA nC nR nL nF par wt (fun r => nI (sk r)) (fun r => nI (fk r)) hd rea sig ++ (WF FA (fun k => mc k * 40 + mp k * 4 + mm k) mf md mv nx nF ++ [((ob, .inl (cL, 1, .inr (.inl ov9))) : Nat × va_E)]))) := hD
    refine lv_istore (lv' := [(6, .int b9), (5, .int 1), (4, .int (nI i)), (3, .ref ob), (2, .ref (b 0)), (1, .ref (a 0)), (0, .ref b0)]) hx hb dL_law_399 hl (by decide) rfl (fun ls hl => ?_)
    refine lv_aload_n hx hb dL_law_401 rfl (lv_at hl 4 rfl) ?_
    refine g_csi (va_runV (As := []) (rest := []) ⟨hx, hb, hml, hown, hts⟩ (c5_thrown l D cI cZ cO cL dt A b nC nR nL nF par wt (fun r => nI (sk r)) (fun r => nI (fk r)) mc mp mm mf md mv mder mkn 1 (WD cI cO a FA nC nR nL nF par wt (fun r => nI (sk r)) (fun r => nI (fk r)) hd rea sig ++ (WF FA (fun k => mc k * 40 + mp k * 4 + mm k) mf md mv nx nF ++ [((ob, .inl (cL, 1, .inr (.inl ov9))) : Nat × va_E)]))) (cwV 0 hts gL_law_X5_thrown rfl rfl rfl (by decide +kernel) ⟨(Nat.le_of_ble_eq_true rfl), (Nat.le_of_ble_eq_true rfl)⟩) (gP.v (hg.on hS) hP 4 rfl 0 rfl hP) rfl rfl hl.1 rfl (lv_room (Nat.le_of_ble_eq_true rfl)) dL_law_402 ⟨by show cells + 1 + 0 + 0 ≤ 601024; omega, by show slots + 6 + 0 + 0 ≤ 7293034; omega⟩) (fun t7 ht7 => ?_)
    obtain rfl : t7 = 1 := ht7
    have hP := va_P_perm hP (lperm (WD cI cO a FA nC nR nL nF par wt (fun r => nI (sk r)) (fun r => nI (fk r)) hd rea sig) (WF FA (fun k => mc k * 40 + mp k * 4 + mm k) mf md mv nx nF) (WM cI cZ b nC nR nL nF par wt (fun r => nI (sk r)) (fun r => nI (fk r)) mc mp mm mf md mv mder mkn 1) ((ob, .inl (cL, 1, .inr (.inl ov9))) : Nat × va_E)).symm
    have hD := va_D_perm hD (lperm (WD cI cO a FA nC nR nL nF par wt (fun r => nI (sk r)) (fun r => nI (fk r)) hd rea sig) (WF FA (fun k => mc k * 40 + mp k * 4 + mm k) mf md mv nx nF) (WM cI cZ b nC nR nL nF par wt (fun r => nI (sk r)) (fun r => nI (fk r)) mc mp mm mf md mv mder mkn 1) ((ob, .inl (cL, 1, .inr (.inl ov9))) : Nat × va_E)).symm
    refine lv_iload hx hb dL_law_405 (lv_at hl 1 rfl) ?_
    refine lv_icmp_eq (tgt := 412) hx hb dL_law_407 (by decide) (fun c_407 => ?_) (fun c_407 => ?_)
    · skip
      refine lv_iload hx hb dL_law_412 (lv_at hl 1 rfl) ?_
      refine lv_if_ne (tgt := 429) hx hb dL_law_414 (by decide) (fun c_414 => ?_) (fun c_414 => ?_)
      · skip
        refine lv_goto (tgt := 1413) hx hb dL_law_429 (by decide) ?_
        refine W.widen (k := cells + 4) (n := slots + 24) (by omega) (by omega) ?_
        exact kk _ _ _ ⟨FA, nC, nR, nL, nF, par, wt, sk, fk, hd, rea, sig, mc, mp, mm, mf, md, mv, nx, mder, mkn, 1, ov9, L, hOk, hP, hD⟩ hS (lv_sub hl [2, 3, 4, 5, 6] rfl)
      · skip
        exact absurd c_414 (by decide)
    · skip
      exact absurd c_407 (by decide)
