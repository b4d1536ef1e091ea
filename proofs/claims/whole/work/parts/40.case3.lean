set_option maxHeartbeats 4000000 in
set_option maxRecDepth 100000 in
/-- the case of isRollOff -/
theorem lw_isRollOff (l : Launch) (hlt : l.stackTraces = false) {D : va_G} {cI cZ cO cL : ClassId} {dt : Nat} {A : Nat → Prop} {a b : Nat → Nat} {ob b0 i Ls cells slots : Nat} {xs : Nat → Int32} {p9 : Program} {e9 : Env} {s : State} {m9 : MethodId} {args : Array Value} {below : List Frame} {meth : Method} {c9 : Code} {H : Heap} {locs : List Loc} {ls : Array Slot} {Q : State → Prop}
    (hx : p9.tables.exec = Jvm.exec) (hb : c9.code = cL_law) (hml : c9.maxLocals = 7) (hown : s.vm.findClass RL = some m9.cls) (hts : ∀ w ∈ wsL_law, w.before args s = true) (hg : gG D cI cZ cO cL dt A s s.heap) (hX : va_X b0 Ls xs s s.heap) (hb0 : b0 < s.heap.size) (hbA : ¬ A b0) (hi : i + 6 ≤ Ls) (hLs : Ls ≤ 3072)
    (hI : lInv D cI cZ cO cL A a b ob H) (hS : va_S A s.heap H locs) (hl : lv_has ls 7 [(4, .int (nI i)), (3, .ref ob), (2, .ref (b 0)), (1, .ref (a 0)), (0, .ref b0)]) (hcc : cells + 4 ≤ 601024) (hss : slots + 24 ≤ 7293034)
    (kk : ∀ (H : Heap) (locs : List Loc) (ls : Array Slot), lInv D cI cZ cO cL A a b ob H → va_S A s.heap H locs → lv_has ls 7 [(4, .int (nI i)), (3, .ref ob), (2, .ref (b 0)), (1, .ref (a 0)), (0, .ref b0)] → W p9 l e9 room_1 s m9 args below meth c9 H locs (cells + 4) (slots + 24) Q (F0 m9 1413 ls [])) :
    W p9 l e9 room_1 s m9 args below meth c9 H locs cells slots Q (F0 m9 1202 ls []) := by
  obtain ⟨FA, nC, nR, nL, nF, par, wt, sk, fk, hd, rea, sig, mc, mp, mm, mf, md, mv, nx, mder, mkn, thr, ov, L, hOk, hP, hD⟩ := hI
  obtain ⟨⟨hC12, hR5, hL8, hF⟩, ⟨hT, hwt⟩, ⟨hsk12, hfk12, hskC⟩, ⟨hCh, hH, hN, hfL⟩, h1, h2, h3, h4, hmd, hmv, h7⟩ := id hOk
  have hK := hg.1
  have hck : ∀ k, mc k * 40 + mp k * 4 + mm k < 480 := fun k => by have := h1 k; have := h2 k; have := h3 k; omega
  have hcf : ∀ k, mf k < 2 ^ 31 := fun k => by have := h4 k; omega
  have hmd31 : ∀ k, md k < 2 ^ 31 := fun k => by have := hmd k; omega
  have hP : va_P D vwCl (WD cI cO a FA nC nR nL nF par wt (fun r => nI (sk r)) (fun r => nI (fk r)) hd rea sig ++ (WF FA (fun k => mc k * 40 + mp k * 4 + mm k) mf md mv nx nF ++ ((ob, .inl (cL, 1, .inr (.inl ov))) : Nat × va_E) :: WM cI cZ b nC nR nL nF par wt (fun r => nI (sk r)) (fun r => nI (fk r)) mc mp mm mf md mv mder mkn thr)) H := hP
  have hD : va_D A (WD cI cO a FA nC nR nL nF par wt (fun r => nI (sk r)) (fun r => nI (fk r)) hd rea sig ++ (WF FA (fun k => mc k * 40 + mp k * 4 + mm k) mf md mv nx nF ++ ((ob, .inl (cL, 1, .inr (.inl ov))) : Nat × va_E) :: WM cI cZ b nC nR nL nF par wt (fun r => nI (sk r)) (fun r => nI (fk r)) mc mp mm mf md mv mder mkn thr)) := hD
  refine lv_aload_n hx hb dL_law_1202 rfl (lv_at hl 3 rfl) ?_
  refine lv_aload_n hx hb dL_law_1203 rfl (lv_at hl 4 rfl) ?_
  refine lv_iload hx hb dL_law_1204 (lv_at hl 0 rfl) ?_
  refine lv_iconst (v := 1) hx hb dL_law_1206 (by decide) ?_
  refine lv_iadd hx hb dL_law_1207 ?_
  refine lv_topi (fun dv edv => ?_)
  obtain rfl : dv = nI (i + 1) := by rw [edv]; exact nI_add i 1
  refine va_sld hx hb hX hb0 hbA hS (vp_in_nI (n := (i + 1)) (by omega) (by omega)) dL_law_1208 ?_
  rw [nI_clamp (by omega)]
  refine lv_aload_n hx hb dL_law_1209 rfl (lv_at hl 4 rfl) ?_
  refine lv_iload hx hb dL_law_1210 (lv_at hl 0 rfl) ?_
  refine lv_iconst (v := 2) hx hb dL_law_1212 (by decide) ?_
  refine lv_iadd hx hb dL_law_1213 ?_
  refine lv_topi (fun dv edv => ?_)
  obtain rfl : dv = nI (i + 2) := by rw [edv]; exact nI_add i 2
  refine va_sld hx hb hX hb0 hbA hS (vp_in_nI (n := (i + 2)) (by omega) (by omega)) dL_law_1214 ?_
  rw [nI_clamp (by omega)]
  refine lv_aload_n hx hb dL_law_1215 rfl (lv_at hl 4 rfl) ?_
  refine lv_iload hx hb dL_law_1216 (lv_at hl 0 rfl) ?_
  refine lv_iconst (v := 3) hx hb dL_law_1218 (by decide) ?_
  refine lv_iadd hx hb dL_law_1219 ?_
  refine lv_topi (fun dv edv => ?_)
  obtain rfl : dv = nI (i + 3) := by rw [edv]; exact nI_add i 3
  refine va_sld hx hb hX hb0 hbA hS (vp_in_nI (n := (i + 3)) (by omega) (by omega)) dL_law_1220 ?_
  rw [nI_clamp (by omega)]
  refine lv_aload_n hx hb dL_law_1221 rfl (lv_at hl 4 rfl) ?_
  refine lv_iload hx hb dL_law_1222 (lv_at hl 0 rfl) ?_
  refine lv_iconst (v := 4) hx hb dL_law_1224 (by decide) ?_
  refine lv_iadd hx hb dL_law_1225 ?_
  refine lv_topi (fun dv edv => ?_)
  obtain rfl : dv = nI (i + 4) := by rw [edv]; exact nI_add i 4
  refine va_sld hx hb hX hb0 hbA hS (vp_in_nI (n := (i + 4)) (by omega) (by omega)) dL_law_1226 ?_
  rw [nI_clamp (by omega)]
  refine lv_aload_n hx hb dL_law_1227 rfl (lv_at hl 1 rfl) ?_
  refine va_calli (vx_runSW (hh := [(0, 21, 24, 19)]) (As := [.ref (a 0), .int (xs (i + 1)), .int (xs (i + 2)), .int (xs (i + 3)), .int (xs (i + 4)), .ref ob]) (rest := []) ⟨hx, hb, hml, hown, hts⟩ (kL_isRollOff l D cI cZ cO cL dt A a FA nC nR nL nF par wt (fun r => nI (sk r)) (fun r => nI (fk r)) hd rea sig (fun k => mc k * 40 + mp k * 4 + mm k) mf md mv nx (WM cI cZ b nC nR nL nF par wt (fun r => nI (sk r)) (fun r => nI (fk r)) mc mp mm mf md mv mder mkn thr) ob ov sk fk (xs (i + 1)) (xs (i + 2)) (xs (i + 3)) (xs (i + 4)) hlt hF hC12 hck hcf hmd hmv hwt hCh hL8 hR5 (fun _ => rfl) (fun _ => rfl) hsk12 hfk12) (vx_cwSW 6 hts gL_law_L_isRollOff rfl rfl rfl (by decide +kernel) ⟨(Nat.le_of_ble_eq_true rfl), (Nat.le_of_ble_eq_true rfl)⟩) (gP.s (hg.on hS) ⟨hP, hD⟩) rfl rfl hl.1 rfl (lv_room (Nat.le_of_ble_eq_true rfl)) dL_law_1228 ⟨by show cells + 2 ≤ 601024; omega, by show slots + 12 ≤ 7293034; omega⟩) hS (fun q _ h => h) (fun q h => h) (fun k9 u9 t9 H locs ht9 hvm9 hw9 hB9 hz9 hk9 hS => ?_)
  rw [ht9] at hB9
  rcases hw9 with ⟨rfl, r9, hu9, hpost⟩ | ⟨rfl, hR9⟩
  · skip
    have hB9 : va_P D vwCl (WD cI cO a FA nC nR nL nF par wt (fun r => nI (sk r)) (fun r => nI (fk r)) hd rea sig ++ (WF FA (fun k => mc k * 40 + mp k * 4 + mm k) mf md mv nx nF ++ ((ob, .inl (cL, 1, .inr (.inl u9))) : Nat × va_E) :: WM cI cZ b nC nR nL nF par wt (fun r => nI (sk r)) (fun r => nI (fk r)) mc mp mm mf md mv mder mkn thr)) H ∧ va_D A (WD cI cO a FA nC nR nL nF par wt (fun r => nI (sk r)) (fun r => nI (fk r)) hd rea sig ++ (WF FA (fun k => mc k * 40 + mp k * 4 + mm k) mf md mv nx nF ++ ((ob, .inl (cL, 1, .inr (.inl u9))) : Nat × va_E) :: WM cI cZ b nC nR nL nF par wt (fun r => nI (sk r)) (fun r => nI (fk r)) mc mp mm mf md mv mder mkn thr)) := hB9
    obtain ⟨hP, hD⟩ := hB9
    obtain ⟨c1, p1, m1, f1, hv9, hr9⟩ := hpost
    obtain ⟨⟨hc9, hc⟩, ⟨hp9, hp⟩, ⟨hm9, hm⟩, ⟨hf9, hf⟩⟩ := hv9
    refine lv_istore (lv' := [(5, .int 0), (4, .int (nI i)), (3, .ref ob), (2, .ref (b 0)), (1, .ref (a 0)), (0, .ref b0)]) hx hb dL_law_1231 hl (by decide) rfl (fun ls hl => ?_)
    refine lv_aload_n hx hb dL_law_1233 rfl (lv_at hl 3 rfl) ?_
    refine lv_aload_n hx hb dL_law_1234 rfl (lv_at hl 5 rfl) ?_
    refine lv_iload hx hb dL_law_1235 (lv_at hl 1 rfl) ?_
    refine lv_iconst (v := 1) hx hb dL_law_1237 (by decide) ?_
    refine lv_iadd hx hb dL_law_1238 ?_
    refine lv_topi (fun dv edv => ?_)
    obtain rfl : dv = nI (i + 1) := by rw [edv]; exact nI_add i 1
    refine va_sld hx hb hX hb0 hbA hS (vp_in_nI (n := (i + 1)) (by omega) (by omega)) dL_law_1239 ?_
    rw [nI_clamp (by omega)]
    rw [hc9]
    refine lv_aload_n hx hb dL_law_1240 rfl (lv_at hl 5 rfl) ?_
    refine lv_iload hx hb dL_law_1241 (lv_at hl 1 rfl) ?_
    refine lv_iconst (v := 2) hx hb dL_law_1243 (by decide) ?_
    refine lv_iadd hx hb dL_law_1244 ?_
    refine lv_topi (fun dv edv => ?_)
    obtain rfl : dv = nI (i + 2) := by rw [edv]; exact nI_add i 2
    refine va_sld hx hb hX hb0 hbA hS (vp_in_nI (n := (i + 2)) (by omega) (by omega)) dL_law_1245 ?_
    rw [nI_clamp (by omega)]
    refine lv_aload_n hx hb dL_law_1246 rfl (lv_at hl 5 rfl) ?_
    refine lv_iload hx hb dL_law_1247 (lv_at hl 1 rfl) ?_
    refine lv_iconst (v := 3) hx hb dL_law_1249 (by decide) ?_
    refine lv_iadd hx hb dL_law_1250 ?_
    refine lv_topi (fun dv edv => ?_)
    obtain rfl : dv = nI (i + 3) := by rw [edv]; exact nI_add i 3
    refine va_sld hx hb hX hb0 hbA hS (vp_in_nI (n := (i + 3)) (by omega) (by omega)) dL_law_1251 ?_
    rw [nI_clamp (by omega)]
    refine lv_aload_n hx hb dL_law_1252 rfl (lv_at hl 5 rfl) ?_
    refine lv_iload hx hb dL_law_1253 (lv_at hl 1 rfl) ?_
    refine lv_iconst (v := 4) hx hb dL_law_1255 (by decide) ?_
    refine lv_iadd hx hb dL_law_1256 ?_
    refine lv_topi (fun dv edv => ?_)
    obtain rfl : dv = nI (i + 4) := by rw [edv]; exact nI_add i 4
    refine va_sld hx hb hX hb0 hbA hS (vp_in_nI (n := (i + 4)) (by omega) (by omega)) dL_law_1257 ?_
    rw [nI_clamp (by omega)]
    have hP := va_P_perm hP (lperm (WD cI cO a FA nC nR nL nF par wt (fun r => nI (sk r)) (fun r => nI (fk r)) hd rea sig) (WF FA (fun k => mc k * 40 + mp k * 4 + mm k) mf md mv nx nF) (WM cI cZ b nC nR nL nF par wt (fun r => nI (sk r)) (fun r => nI (fk r)) mc mp mm mf md mv mder mkn thr) ((ob, .inl (cL, 1, .inr (.inl u9))) : Nat × va_E))
    have hD := va_D_perm hD (lperm (WD cI cO a FA nC nR nL nF par wt (fun r => nI (sk r)) (fun r => nI (fk r)) hd rea sig) (WF FA (fun k => mc k * 40 + mp k * 4 + mm k) mf md mv nx nF) (WM cI cZ b nC nR nL nF par wt (fun r => nI (sk r)) (fun r => nI (fk r)) mc mp mm mf md mv mder mkn thr) ((ob, .inl (cL, 1, .inr (.inl u9))) : Nat × va_E))
    refine va_calli (va_runV (As := [.int (nI c1), .int (xs (i + 2)), .int (xs (i + 3)), .int (xs (i + 4))]) (rest := []) ⟨hx, hb, hml, hown, hts⟩ (c5_isRollOff_0 l D cI cZ cO cL dt A b nC nR nL nF par wt (fun r => nI (sk r)) (fun r => nI (fk r)) mc mp mm mf md mv mder mkn thr (WD cI cO a FA nC nR nL nF par wt (fun r => nI (sk r)) (fun r => nI (fk r)) hd rea sig ++ (WF FA (fun k => mc k * 40 + mp k * 4 + mm k) mf md mv nx nF ++ [((ob, .inl (cL, 1, .inr (.inl u9))) : Nat × va_E)])) c1 (xs (i + 2)) (xs (i + 3)) (xs (i + 4)) hF hC12 hcf hmd31 hR5 hc ⟨(cOk_iff (n := nR) (by omega)).mpr ⟨c1, rfl, hc⟩, cOk9.mpr ⟨p1, hp9, hp⟩, cOk3.mpr ⟨m1, hm9, hm⟩, (cOk_iff (n := nL + 1) (by omega)).mpr ⟨f1, hf9, hf⟩⟩) (cwV 4 hts gL_law_X5_isRollOff rfl rfl rfl (by decide +kernel) ⟨(Nat.le_of_ble_eq_true rfl), (Nat.le_of_ble_eq_true rfl)⟩) (gP.v (hg.on hS) hP 4 rfl 0 rfl ⟨hP, hD⟩) rfl rfl hl.1 rfl (lv_room (Nat.le_of_ble_eq_true rfl)) dL_law_1258 ⟨by show cells + 2 + 0 ≤ 601024; omega, by show slots + 12 + 0 ≤ 7293034; omega⟩) hS (fun q _ h => h) (fun q h => h) (fun b9 u8 t8 H locs ht8 hvm8 hw8 hB8 hz8 hk8 hS => ?_)
    rw [ht8] at hB8
    obtain ⟨hP, hD⟩ := hB8
    have hP : va_P D vwCl (WM cI cZ b nC nR nL nF par wt (fun r => nI (sk r)) (fun r => nI (fk r)) mc mp mm mf md mv mder mkn 0 ++ (WD cI cO a FA nC nR nL nF par wt (fun r => nI (sk r)) (fun r => nI (fk r)) hd rea sig ++ (WF FA (fun k => mc k * 40 + mp k * 4 + mm k) mf md mv nx nF ++ [((ob, .inl (cL, 1, .inr (.inl u9))) : Nat × va_E)]))) H := hP
    have hD : va_D A (WM cI cZ b nC nR nL nF par wt (fun r => nI (sk r)) (fun r => nI (fk r)) mc mp mm mf md mv mder mkn 0 ++ (WD cI cO a FA nC nR nL nF par wt (fun r => nI (sk r)) (fun r => nI (fk r)) hd rea sig ++ (WF FA (fun k => mc k * 40 + mp k * 4 + mm k) mf md mv nx nF ++ [((ob, .inl (cL, 1, .inr (.inl u9))) : Nat × va_E)]))) := hD
    refine lv_istore (lv' := [(6, .int b9), (5, .int 0), (4, .int (nI i)), (3, .ref ob), (2, .ref (b 0)), (1, .ref (a 0)), (0, .ref b0)]) hx hb dL_law_1261 hl (by decide) rfl (fun ls hl => ?_)
    refine lv_aload_n hx hb dL_law_1263 rfl (lv_at hl 4 rfl) ?_
    refine g_csi (va_runV (As := []) (rest := []) ⟨hx, hb, hml, hown, hts⟩ (c5_thrown l D cI cZ cO cL dt A b nC nR nL nF par wt (fun r => nI (sk r)) (fun r => nI (fk r)) mc mp mm mf md mv mder mkn 0 (WD cI cO a FA nC nR nL nF par wt (fun r => nI (sk r)) (fun r => nI (fk r)) hd rea sig ++ (WF FA (fun k => mc k * 40 + mp k * 4 + mm k) mf md mv nx nF ++ [((ob, .inl (cL, 1, .inr (.inl u9))) : Nat × va_E)]))) (cwV 0 hts gL_law_X5_thrown rfl rfl rfl (by decide +kernel) ⟨(Nat.le_of_ble_eq_true rfl), (Nat.le_of_ble_eq_true rfl)⟩) (gP.v (hg.on hS) hP 4 rfl 0 rfl hP) rfl rfl hl.1 rfl (lv_room (Nat.le_of_ble_eq_true rfl)) dL_law_1264 ⟨by show cells + 2 + 0 + 0 ≤ 601024; omega, by show slots + 12 + 0 + 0 ≤ 7293034; omega⟩) (fun t7 ht7 => ?_)
    obtain rfl : t7 = 0 := ht7
    have hP := va_P_perm hP (lperm (WD cI cO a FA nC nR nL nF par wt (fun r => nI (sk r)) (fun r => nI (fk r)) hd rea sig) (WF FA (fun k => mc k * 40 + mp k * 4 + mm k) mf md mv nx nF) (WM cI cZ b nC nR nL nF par wt (fun r => nI (sk r)) (fun r => nI (fk r)) mc mp mm mf md mv mder mkn 0) ((ob, .inl (cL, 1, .inr (.inl u9))) : Nat × va_E)).symm
    have hD := va_D_perm hD (lperm (WD cI cO a FA nC nR nL nF par wt (fun r => nI (sk r)) (fun r => nI (fk r)) hd rea sig) (WF FA (fun k => mc k * 40 + mp k * 4 + mm k) mf md mv nx nF) (WM cI cZ b nC nR nL nF par wt (fun r => nI (sk r)) (fun r => nI (fk r)) mc mp mm mf md mv mder mkn 0) ((ob, .inl (cL, 1, .inr (.inl u9))) : Nat × va_E)).symm
    have hag9 : r9 = b9 := by rw [hr9, hw8]; rw [hp9, hm9, hf9]; exact roll_eq h1 h2 h3 (hsk12 c1) (hfk12 c1) hp hm
    have hag := congrArg (fun z : Int32 => if z = 0 then (0 : Int64) else 1) hag9
    refine lv_iload hx hb dL_law_1267 (lv_at hl 1 rfl) ?_
    refine lv_icmp_eq (tgt := 1274) hx hb dL_law_1269 (by decide) (fun c_1269 => ?_) (fun c_1269 => ?_)
    · skip
      refine lv_iload hx hb dL_law_1274 (lv_at hl 1 rfl) ?_
      refine lv_if_ne (tgt := 1298) hx hb dL_law_1276 (by decide) (fun c_1276 => ?_) (fun c_1276 => ?_)
      · skip
        exact absurd c_1276 (by decide)
      · skip
        refine lv_aload_n hx hb dL_law_1279 rfl (lv_at hl 3 rfl) ?_
        refine lv_iconst (v := 0) hx hb dL_law_1280 (by decide) ?_
        refine va_lald hx hb hK hP (11 + nF) 3 (WDR_at) rfl e_in0 dL_law_1281 ?_
        rw [e_z0, hu9, hag]
        refine lv_iload hx hb dL_law_1282 (lv_at hl 0 rfl) ?_
        refine lv_if_eq (tgt := 1291) hx hb dL_law_1284 (by decide) (fun c_1284 => ?_) (fun c_1284 => ?_)
        · skip
          refine lv_lconst (v := 0) hx hb dL_law_1291 (by decide) ?_
          refine W.lcmp hx hb dL_law_1292 ?_
          rw [if_pos c_1284, lg_self]
          refine lv_if_eq (tgt := 1298) hx hb dL_law_1293 (by decide) (fun c_1293 => ?_) (fun c_1293 => ?_)
          · skip
            refine lv_goto (tgt := 1413) hx hb dL_law_1298 (by decide) ?_
            refine W.widen (k := cells + 4) (n := slots + 24) (by omega) (by omega) ?_
            exact kk _ _ _ ⟨FA, nC, nR, nL, nF, par, wt, sk, fk, hd, rea, sig, mc, mp, mm, mf, md, mv, nx, mder, mkn, 0, u9, L, hOk, hP, hD⟩ hS (lv_sub hl [2, 3, 4, 5, 6] rfl)
          · skip
            exact absurd c_1293 (by decide)
        · skip
          refine lv_lconst (v := 1) hx hb dL_law_1287 (by decide) ?_
          refine lv_goto (tgt := 1292) hx hb dL_law_1288 (by decide) ?_
          refine W.lcmp hx hb dL_law_1292 ?_
          rw [if_neg c_1284, lg_self]
          refine lv_if_eq (tgt := 1298) hx hb dL_law_1293 (by decide) (fun c_1293 => ?_) (fun c_1293 => ?_)
          · skip
            refine lv_goto (tgt := 1413) hx hb dL_law_1298 (by decide) ?_
            refine W.widen (k := cells + 4) (n := slots + 24) (by omega) (by omega) ?_
            exact kk _ _ _ ⟨FA, nC, nR, nL, nF, par, wt, sk, fk, hd, rea, sig, mc, mp, mm, mf, md, mv, nx, mder, mkn, 0, u9, L, hOk, hP, hD⟩ hS (lv_sub hl [2, 3, 4, 5, 6] rfl)
          · skip
            exact absurd c_1293 (by decide)
    · skip
      exact absurd c_1269 (by decide)
  · skip
    have hB9 : va_P D vwCl (WD cI cO a FA nC nR nL nF par wt (fun r => nI (sk r)) (fun r => nI (fk r)) hd rea sig ++ (WF FA (fun k => mc k * 40 + mp k * 4 + mm k) mf md mv nx nF ++ ((ob, .inl (cL, 1, .inr (.inl u9))) : Nat × va_E) :: WM cI cZ b nC nR nL nF par wt (fun r => nI (sk r)) (fun r => nI (fk r)) mc mp mm mf md mv mder mkn thr)) H ∧ va_D A (WD cI cO a FA nC nR nL nF par wt (fun r => nI (sk r)) (fun r => nI (fk r)) hd rea sig ++ (WF FA (fun k => mc k * 40 + mp k * 4 + mm k) mf md mv nx nF ++ ((ob, .inl (cL, 1, .inr (.inl u9))) : Nat × va_E) :: WM cI cZ b nC nR nL nF par wt (fun r => nI (sk r)) (fun r => nI (fk r)) mc mp mm mf md mv mder mkn thr)) := hB9
    obtain ⟨hP, hD⟩ := hB9
    refine lv_istore (lv' := [(5, .int 1), (4, .int (nI i)), (3, .ref ob), (2, .ref (b 0)), (1, .ref (a 0)), (0, .ref b0)]) hx hb dL_law_1231 hl (by decide) rfl (fun ls hl => ?_)
    refine lv_aload_n hx hb dL_law_1233 rfl (lv_at hl 3 rfl) ?_
    refine lv_aload_n hx hb dL_law_1234 rfl (lv_at hl 5 rfl) ?_
    refine lv_iload hx hb dL_law_1235 (lv_at hl 1 rfl) ?_
    refine lv_iconst (v := 1) hx hb dL_law_1237 (by decide) ?_
    refine lv_iadd hx hb dL_law_1238 ?_
    refine lv_topi (fun dv edv => ?_)
    obtain rfl : dv = nI (i + 1) := by rw [edv]; exact nI_add i 1
    refine va_sld hx hb hX hb0 hbA hS (vp_in_nI (n := (i + 1)) (by omega) (by omega)) dL_law_1239 ?_
    rw [nI_clamp (by omega)]
    refine lv_aload_n hx hb dL_law_1240 rfl (lv_at hl 5 rfl) ?_
    refine lv_iload hx hb dL_law_1241 (lv_at hl 1 rfl) ?_
    refine lv_iconst (v := 2) hx hb dL_law_1243 (by decide) ?_
    refine lv_iadd hx hb dL_law_1244 ?_
    refine lv_topi (fun dv edv => ?_)
    obtain rfl : dv = nI (i + 2) := by rw [edv]; exact nI_add i 2
    refine va_sld hx hb hX hb0 hbA hS (vp_in_nI (n := (i + 2)) (by omega) (by omega)) dL_law_1245 ?_
    rw [nI_clamp (by omega)]
    refine lv_aload_n hx hb dL_law_1246 rfl (lv_at hl 5 rfl) ?_
    refine lv_iload hx hb dL_law_1247 (lv_at hl 1 rfl) ?_
    refine lv_iconst (v := 3) hx hb dL_law_1249 (by decide) ?_
    refine lv_iadd hx hb dL_law_1250 ?_
    refine lv_topi (fun dv edv => ?_)
    obtain rfl : dv = nI (i + 3) := by rw [edv]; exact nI_add i 3
    refine va_sld hx hb hX hb0 hbA hS (vp_in_nI (n := (i + 3)) (by omega) (by omega)) dL_law_1251 ?_
    rw [nI_clamp (by omega)]
    refine lv_aload_n hx hb dL_law_1252 rfl (lv_at hl 5 rfl) ?_
    refine lv_iload hx hb dL_law_1253 (lv_at hl 1 rfl) ?_
    refine lv_iconst (v := 4) hx hb dL_law_1255 (by decide) ?_
    refine lv_iadd hx hb dL_law_1256 ?_
    refine lv_topi (fun dv edv => ?_)
    obtain rfl : dv = nI (i + 4) := by rw [edv]; exact nI_add i 4
    refine va_sld hx hb hX hb0 hbA hS (vp_in_nI (n := (i + 4)) (by omega) (by omega)) dL_law_1257 ?_
    rw [nI_clamp (by omega)]
    have hP := va_P_perm hP (lperm (WD cI cO a FA nC nR nL nF par wt (fun r => nI (sk r)) (fun r => nI (fk r)) hd rea sig) (WF FA (fun k => mc k * 40 + mp k * 4 + mm k) mf md mv nx nF) (WM cI cZ b nC nR nL nF par wt (fun r => nI (sk r)) (fun r => nI (fk r)) mc mp mm mf md mv mder mkn thr) ((ob, .inl (cL, 1, .inr (.inl u9))) : Nat × va_E))
    have hD := va_D_perm hD (lperm (WD cI cO a FA nC nR nL nF par wt (fun r => nI (sk r)) (fun r => nI (fk r)) hd rea sig) (WF FA (fun k => mc k * 40 + mp k * 4 + mm k) mf md mv nx nF) (WM cI cZ b nC nR nL nF par wt (fun r => nI (sk r)) (fun r => nI (fk r)) mc mp mm mf md mv mder mkn thr) ((ob, .inl (cL, 1, .inr (.inl u9))) : Nat × va_E))
    refine va_calli (va_runV (As := [.int (xs (i + 1)), .int (xs (i + 2)), .int (xs (i + 3)), .int (xs (i + 4))]) (rest := []) ⟨hx, hb, hml, hown, hts⟩ (c5_isRollOff_1 l D cI cZ cO cL dt A b nC nR nL nF par wt (fun r => nI (sk r)) (fun r => nI (fk r)) mc mp mm mf md mv mder mkn thr (WD cI cO a FA nC nR nL nF par wt (fun r => nI (sk r)) (fun r => nI (fk r)) hd rea sig ++ (WF FA (fun k => mc k * 40 + mp k * 4 + mm k) mf md mv nx nF ++ [((ob, .inl (cL, 1, .inr (.inl u9))) : Nat × va_E)])) (xs (i + 1)) (xs (i + 2)) (xs (i + 3)) (xs (i + 4)) (fun z => hR9 ⟨⟨(cOk_iff (n := nR) (by omega)).mp z.1, cOk9.mp z.2.1, cOk3.mp z.2.2.1⟩, (cOk_iff (n := nL + 1) (by omega)).mp z.2.2.2⟩)) (cwV 4 hts gL_law_X5_isRollOff rfl rfl rfl (by decide +kernel) ⟨(Nat.le_of_ble_eq_true rfl), (Nat.le_of_ble_eq_true rfl)⟩) (gP.v (hg.on hS) hP 4 rfl 0 rfl ⟨hP, hD⟩) rfl rfl hl.1 rfl (lv_room (Nat.le_of_ble_eq_true rfl)) dL_law_1258 ⟨by show cells + 2 + 0 ≤ 601024; omega, by show slots + 12 + 0 ≤ 7293034; omega⟩) hS (fun q _ h => h) (fun q h => h) (fun b9 u8 t8 H locs ht8 hvm8 hw8 hB8 hz8 hk8 hS => ?_)
    rw [ht8] at hB8
    obtain ⟨hP, hD⟩ := hB8
    have hP : va_P D vwCl (WM cI cZ b nC nR nL nF par wt (fun r => nI (sk r)) (fun r => nI (fk r)) mc mp mm mf md mv mder mkn 1 ++ (WD cI cO a FA nC nR nL nF par wt (fun r => nI (sk r)) (fun r => nI (fk r)) hd rea sig ++ (WF FA (fun k => mc k * 40 + mp k * 4 + mm k) mf md mv nx nF ++ [((ob, .inl (cL, 1, .inr (.inl u9))) : Nat × va_E)]))) H := hP
    have hD : va_D A (WM cI cZ b nC nR nL nF par wt (fun r => nI (sk r)) (fun r => nI (fk r)) mc mp mm mf md mv mder mkn 1 ++ (WD cI cO a FA nC nR nL nF par wt (fun r => nI (sk r)) (fun r => nI (fk r)) hd rea sig ++ (WF FA (fun k => mc k * 40 + mp k * 4 + mm k) mf md mv nx nF ++ [((ob, .inl (cL, 1, .inr (.inl u9))) : Nat × va_E)]))) := hD
    refine lv_istore (lv' := [(6, .int b9), (5, .int 1), (4, .int (nI i)), (3, .ref ob), (2, .ref (b 0)), (1, .ref (a 0)), (0, .ref b0)]) hx hb dL_law_1261 hl (by decide) rfl (fun ls hl => ?_)
    refine lv_aload_n hx hb dL_law_1263 rfl (lv_at hl 4 rfl) ?_
    refine g_csi (va_runV (As := []) (rest := []) ⟨hx, hb, hml, hown, hts⟩ (c5_thrown l D cI cZ cO cL dt A b nC nR nL nF par wt (fun r => nI (sk r)) (fun r => nI (fk r)) mc mp mm mf md mv mder mkn 1 (WD cI cO a FA nC nR nL nF par wt (fun r => nI (sk r)) (fun r => nI (fk r)) hd rea sig ++ (WF FA (fun k => mc k * 40 + mp k * 4 + mm k) mf md mv nx nF ++ [((ob, .inl (cL, 1, .inr (.inl u9))) : Nat × va_E)]))) (cwV 0 hts gL_law_X5_thrown rfl rfl rfl (by decide +kernel) ⟨(Nat.le_of_ble_eq_true rfl), (Nat.le_of_ble_eq_true rfl)⟩) (gP.v (hg.on hS) hP 4 rfl 0 rfl hP) rfl rfl hl.1 rfl (lv_room (Nat.le_of_ble_eq_true rfl)) dL_law_1264 ⟨by show cells + 2 + 0 + 0 ≤ 601024; omega, by show slots + 12 + 0 + 0 ≤ 7293034; omega⟩) (fun t7 ht7 => ?_)
    obtain rfl : t7 = 1 := ht7
    have hP := va_P_perm hP (lperm (WD cI cO a FA nC nR nL nF par wt (fun r => nI (sk r)) (fun r => nI (fk r)) hd rea sig) (WF FA (fun k => mc k * 40 + mp k * 4 + mm k) mf md mv nx nF) (WM cI cZ b nC nR nL nF par wt (fun r => nI (sk r)) (fun r => nI (fk r)) mc mp mm mf md mv mder mkn 1) ((ob, .inl (cL, 1, .inr (.inl u9))) : Nat × va_E)).symm
    have hD := va_D_perm hD (lperm (WD cI cO a FA nC nR nL nF par wt (fun r => nI (sk r)) (fun r => nI (fk r)) hd rea sig) (WF FA (fun k => mc k * 40 + mp k * 4 + mm k) mf md mv nx nF) (WM cI cZ b nC nR nL nF par wt (fun r => nI (sk r)) (fun r => nI (fk r)) mc mp mm mf md mv mder mkn 1) ((ob, .inl (cL, 1, .inr (.inl u9))) : Nat × va_E)).symm
    refine lv_iload hx hb dL_law_1267 (lv_at hl 1 rfl) ?_
    refine lv_icmp_eq (tgt := 1274) hx hb dL_law_1269 (by decide) (fun c_1269 => ?_) (fun c_1269 => ?_)
    · skip
      refine lv_iload hx hb dL_law_1274 (lv_at hl 1 rfl) ?_
      refine lv_if_ne (tgt := 1298) hx hb dL_law_1276 (by decide) (fun c_1276 => ?_) (fun c_1276 => ?_)
      · skip
        refine lv_goto (tgt := 1413) hx hb dL_law_1298 (by decide) ?_
        refine W.widen (k := cells + 4) (n := slots + 24) (by omega) (by omega) ?_
        exact kk _ _ _ ⟨FA, nC, nR, nL, nF, par, wt, sk, fk, hd, rea, sig, mc, mp, mm, mf, md, mv, nx, mder, mkn, 1, u9, L, hOk, hP, hD⟩ hS (lv_sub hl [2, 3, 4, 5, 6] rfl)
      · skip
        exact absurd c_1276 (by decide)
    · skip
      exact absurd c_1269 (by decide)
set_option maxHeartbeats 4000000 in
set_option maxRecDepth 100000 in
/-- the case of faults -/
theorem lw_faults (l : Launch) (hlt : l.stackTraces = false) {D : va_G} {cI cZ cO cL : ClassId} {dt : Nat} {A : Nat → Prop} {a b : Nat → Nat} {ob b0 i Ls cells slots : Nat} {xs : Nat → Int32} {p9 : Program} {e9 : Env} {s : State} {m9 : MethodId} {args : Array Value} {below : List Frame} {meth : Method} {c9 : Code} {H : Heap} {locs : List Loc} {ls : Array Slot} {Q : State → Prop}
    (hx : p9.tables.exec = Jvm.exec) (hb : c9.code = cL_law) (hml : c9.maxLocals = 7) (hown : s.vm.findClass RL = some m9.cls) (hts : ∀ w ∈ wsL_law, w.before args s = true) (hg : gG D cI cZ cO cL dt A s s.heap) (hX : va_X b0 Ls xs s s.heap) (hb0 : b0 < s.heap.size) (hbA : ¬ A b0) (hi : i + 6 ≤ Ls) (hLs : Ls ≤ 3072)
    (hI : lInv D cI cZ cO cL A a b ob H) (hS : va_S A s.heap H locs) (hl : lv_has ls 7 [(4, .int (nI i)), (3, .ref ob), (2, .ref (b 0)), (1, .ref (a 0)), (0, .ref b0)]) (hcc : cells + 4 ≤ 601024) (hss : slots + 24 ≤ 7293034)
    (kk : ∀ (H : Heap) (locs : List Loc) (ls : Array Slot), lInv D cI cZ cO cL A a b ob H → va_S A s.heap H locs → lv_has ls 7 [(4, .int (nI i)), (3, .ref ob), (2, .ref (b 0)), (1, .ref (a 0)), (0, .ref b0)] → W p9 l e9 room_1 s m9 args below meth c9 H locs (cells + 4) (slots + 24) Q (F0 m9 1413 ls [])) :
    W p9 l e9 room_1 s m9 args below meth c9 H locs cells slots Q (F0 m9 1301 ls []) := by
  obtain ⟨FA, nC, nR, nL, nF, par, wt, sk, fk, hd, rea, sig, mc, mp, mm, mf, md, mv, nx, mder, mkn, thr, ov, L, hOk, hP, hD⟩ := hI
  obtain ⟨⟨hC12, hR5, hL8, hF⟩, ⟨hT, hwt⟩, ⟨hsk12, hfk12, hskC⟩, ⟨hCh, hH, hN, hfL⟩, h1, h2, h3, h4, hmd, hmv, h7⟩ := id hOk
  have hK := hg.1
  have hck : ∀ k, mc k * 40 + mp k * 4 + mm k < 480 := fun k => by have := h1 k; have := h2 k; have := h3 k; omega
  have hcf : ∀ k, mf k < 2 ^ 31 := fun k => by have := h4 k; omega
  have hmd31 : ∀ k, md k < 2 ^ 31 := fun k => by have := hmd k; omega
  have hP : va_P D vwCl (WD cI cO a FA nC nR nL nF par wt (fun r => nI (sk r)) (fun r => nI (fk r)) hd rea sig ++ (WF FA (fun k => mc k * 40 + mp k * 4 + mm k) mf md mv nx nF ++ ((ob, .inl (cL, 1, .inr (.inl ov))) : Nat × va_E) :: WM cI cZ b nC nR nL nF par wt (fun r => nI (sk r)) (fun r => nI (fk r)) mc mp mm mf md mv mder mkn thr)) H := hP
  have hD : va_D A (WD cI cO a FA nC nR nL nF par wt (fun r => nI (sk r)) (fun r => nI (fk r)) hd rea sig ++ (WF FA (fun k => mc k * 40 + mp k * 4 + mm k) mf md mv nx nF ++ ((ob, .inl (cL, 1, .inr (.inl ov))) : Nat × va_E) :: WM cI cZ b nC nR nL nF par wt (fun r => nI (sk r)) (fun r => nI (fk r)) mc mp mm mf md mv mder mkn thr)) := hD
  refine lv_aload_n hx hb dL_law_1301 rfl (lv_at hl 3 rfl) ?_
  refine lv_aload_n hx hb dL_law_1302 rfl (lv_at hl 4 rfl) ?_
  refine lv_iload hx hb dL_law_1303 (lv_at hl 0 rfl) ?_
  refine lv_iconst (v := 1) hx hb dL_law_1305 (by decide) ?_
  refine lv_iadd hx hb dL_law_1306 ?_
  refine lv_topi (fun dv edv => ?_)
  obtain rfl : dv = nI (i + 1) := by rw [edv]; exact nI_add i 1
  refine va_sld hx hb hX hb0 hbA hS (vp_in_nI (n := (i + 1)) (by omega) (by omega)) dL_law_1307 ?_
  rw [nI_clamp (by omega)]
  refine lv_aload_n hx hb dL_law_1308 rfl (lv_at hl 1 rfl) ?_
  refine va_calli (vx_runSW (hh := [(0, 9, 12, 19)]) (As := [.ref (a 0), .int (xs (i + 1)), .ref ob]) (rest := []) ⟨hx, hb, hml, hown, hts⟩ (kL_faults l D cI cZ cO cL dt A a FA nC nR nL nF par wt (fun r => nI (sk r)) (fun r => nI (fk r)) hd rea sig (fun k => mc k * 40 + mp k * 4 + mm k) mf md mv nx (WM cI cZ b nC nR nL nF par wt (fun r => nI (sk r)) (fun r => nI (fk r)) mc mp mm mf md mv mder mkn thr) ob ov sk fk (xs (i + 1)) hlt hF hC12 hck hcf hmd hmv hwt hCh hL8 hR5 (fun _ => rfl) (fun _ => rfl) hsk12 hfk12) (vx_cwSW 3 hts gL_law_L_faults rfl rfl rfl (by decide +kernel) ⟨(Nat.le_of_ble_eq_true rfl), (Nat.le_of_ble_eq_true rfl)⟩) (gP.s (hg.on hS) ⟨hP, hD⟩) rfl rfl hl.1 rfl (lv_room (Nat.le_of_ble_eq_true rfl)) dL_law_1309 ⟨by show cells + 1 ≤ 601024; omega, by show slots + 6 ≤ 7293034; omega⟩) hS (fun q _ h => h) (fun q h => h) (fun k9 u9 t9 H locs ht9 hvm9 hw9 hB9 hz9 hk9 hS => ?_)
  rw [ht9] at hB9
  rcases hw9 with ⟨rfl, r9, hu9, hpost⟩ | ⟨rfl, hR9⟩
  · skip
    have hB9 : va_P D vwCl (WD cI cO a FA nC nR nL nF par wt (fun r => nI (sk r)) (fun r => nI (fk r)) hd rea sig ++ (WF FA (fun k => mc k * 40 + mp k * 4 + mm k) mf md mv nx nF ++ ((ob, .inl (cL, 1, .inr (.inl u9))) : Nat × va_E) :: WM cI cZ b nC nR nL nF par wt (fun r => nI (sk r)) (fun r => nI (fk r)) mc mp mm mf md mv mder mkn thr)) H ∧ va_D A (WD cI cO a FA nC nR nL nF par wt (fun r => nI (sk r)) (fun r => nI (fk r)) hd rea sig ++ (WF FA (fun k => mc k * 40 + mp k * 4 + mm k) mf md mv nx nF ++ ((ob, .inl (cL, 1, .inr (.inl u9))) : Nat × va_E) :: WM cI cZ b nC nR nL nF par wt (fun r => nI (sk r)) (fun r => nI (fk r)) mc mp mm mf md mv mder mkn thr)) := hB9
    obtain ⟨hP, hD⟩ := hB9
    obtain ⟨f9, ⟨hf9, hf⟩, hr9⟩ := hpost
    refine lv_istore (lv' := [(5, .int 0), (4, .int (nI i)), (3, .ref ob), (2, .ref (b 0)), (1, .ref (a 0)), (0, .ref b0)]) hx hb dL_law_1312 hl (by decide) rfl (fun ls hl => ?_)
    refine lv_aload_n hx hb dL_law_1314 rfl (lv_at hl 3 rfl) ?_
    refine lv_aload_n hx hb dL_law_1315 rfl (lv_at hl 5 rfl) ?_
    refine lv_iload hx hb dL_law_1316 (lv_at hl 1 rfl) ?_
    refine lv_iconst (v := 1) hx hb dL_law_1318 (by decide) ?_
    refine lv_iadd hx hb dL_law_1319 ?_
    refine lv_topi (fun dv edv => ?_)
    obtain rfl : dv = nI (i + 1) := by rw [edv]; exact nI_add i 1
    refine va_sld hx hb hX hb0 hbA hS (vp_in_nI (n := (i + 1)) (by omega) (by omega)) dL_law_1320 ?_
    rw [nI_clamp (by omega)]
    have hP := va_P_perm hP (lperm (WD cI cO a FA nC nR nL nF par wt (fun r => nI (sk r)) (fun r => nI (fk r)) hd rea sig) (WF FA (fun k => mc k * 40 + mp k * 4 + mm k) mf md mv nx nF) (WM cI cZ b nC nR nL nF par wt (fun r => nI (sk r)) (fun r => nI (fk r)) mc mp mm mf md mv mder mkn thr) ((ob, .inl (cL, 1, .inr (.inl u9))) : Nat × va_E))
    have hD := va_D_perm hD (lperm (WD cI cO a FA nC nR nL nF par wt (fun r => nI (sk r)) (fun r => nI (fk r)) hd rea sig) (WF FA (fun k => mc k * 40 + mp k * 4 + mm k) mf md mv nx nF) (WM cI cZ b nC nR nL nF par wt (fun r => nI (sk r)) (fun r => nI (fk r)) mc mp mm mf md mv mder mkn thr) ((ob, .inl (cL, 1, .inr (.inl u9))) : Nat × va_E))
    refine va_calli (va_runV (As := [.int (xs (i + 1))]) (rest := []) ⟨hx, hb, hml, hown, hts⟩ (c5_faults_0 l D cI cZ cO cL dt A b nC nR nL nF par wt (fun r => nI (sk r)) (fun r => nI (fk r)) mc mp mm mf md mv mder mkn thr (WD cI cO a FA nC nR nL nF par wt (fun r => nI (sk r)) (fun r => nI (fk r)) hd rea sig ++ (WF FA (fun k => mc k * 40 + mp k * 4 + mm k) mf md mv nx nF ++ [((ob, .inl (cL, 1, .inr (.inl u9))) : Nat × va_E)])) (xs (i + 1)) hF hC12 hcf hmd31 hR5 ((cOk_iff (n := nL + 1) (by omega)).mpr ⟨f9, hf9, hf⟩)) (cwV 1 hts gL_law_X5_faults rfl rfl rfl (by decide +kernel) ⟨(Nat.le_of_ble_eq_true rfl), (Nat.le_of_ble_eq_true rfl)⟩) (gP.v (hg.on hS) hP 4 rfl 0 rfl ⟨hP, hD⟩) rfl rfl hl.1 rfl (lv_room (Nat.le_of_ble_eq_true rfl)) dL_law_1321 ⟨by show cells + 1 + 0 ≤ 601024; omega, by show slots + 6 + 0 ≤ 7293034; omega⟩) hS (fun q _ h => h) (fun q h => h) (fun b9 u8 t8 H locs ht8 hvm8 hw8 hB8 hz8 hk8 hS => ?_)
    rw [ht8] at hB8
    obtain ⟨hP, hD⟩ := hB8
    have hP : va_P D vwCl (WM cI cZ b nC nR nL nF par wt (fun r => nI (sk r)) (fun r => nI (fk r)) mc mp mm mf md mv mder mkn 0 ++ (WD cI cO a FA nC nR nL nF par wt (fun r => nI (sk r)) (fun r => nI (fk r)) hd rea sig ++ (WF FA (fun k => mc k * 40 + mp k * 4 + mm k) mf md mv nx nF ++ [((ob, .inl (cL, 1, .inr (.inl u9))) : Nat × va_E)]))) H := hP
    have hD : va_D A (WM cI cZ b nC nR nL nF par wt (fun r => nI (sk r)) (fun r => nI (fk r)) mc mp mm mf md mv mder mkn 0 ++ (WD cI cO a FA nC nR nL nF par wt (fun r => nI (sk r)) (fun r => nI (fk r)) hd rea sig ++ (WF FA (fun k => mc k * 40 + mp k * 4 + mm k) mf md mv nx nF ++ [((ob, .inl (cL, 1, .inr (.inl u9))) : Nat × va_E)]))) := hD
    refine lv_istore (lv' := [(6, .int b9), (5, .int 0), (4, .int (nI i)), (3, .ref ob), (2, .ref (b 0)), (1, .ref (a 0)), (0, .ref b0)]) hx hb dL_law_1324 hl (by decide) rfl (fun ls hl => ?_)
    refine lv_aload_n hx hb dL_law_1326 rfl (lv_at hl 4 rfl) ?_
    refine g_csi (va_runV (As := []) (rest := []) ⟨hx, hb, hml, hown, hts⟩ (c5_thrown l D cI cZ cO cL dt A b nC nR nL nF par wt (fun r => nI (sk r)) (fun r => nI (fk r)) mc mp mm mf md mv mder mkn 0 (WD cI cO a FA nC nR nL nF par wt (fun r => nI (sk r)) (fun r => nI (fk r)) hd rea sig ++ (WF FA (fun k => mc k * 40 + mp k * 4 + mm k) mf md mv nx nF ++ [((ob, .inl (cL, 1, .inr (.inl u9))) : Nat × va_E)]))) (cwV 0 hts gL_law_X5_thrown rfl rfl rfl (by decide +kernel) ⟨(Nat.le_of_ble_eq_true rfl), (Nat.le_of_ble_eq_true rfl)⟩) (gP.v (hg.on hS) hP 4 rfl 0 rfl hP) rfl rfl hl.1 rfl (lv_room (Nat.le_of_ble_eq_true rfl)) dL_law_1327 ⟨by show cells + 1 + 0 + 0 ≤ 601024; omega, by show slots + 6 + 0 + 0 ≤ 7293034; omega⟩) (fun t7 ht7 => ?_)
    obtain rfl : t7 = 0 := ht7
    have hP := va_P_perm hP (lperm (WD cI cO a FA nC nR nL nF par wt (fun r => nI (sk r)) (fun r => nI (fk r)) hd rea sig) (WF FA (fun k => mc k * 40 + mp k * 4 + mm k) mf md mv nx nF) (WM cI cZ b nC nR nL nF par wt (fun r => nI (sk r)) (fun r => nI (fk r)) mc mp mm mf md mv mder mkn 0) ((ob, .inl (cL, 1, .inr (.inl u9))) : Nat × va_E)).symm
    have hD := va_D_perm hD (lperm (WD cI cO a FA nC nR nL nF par wt (fun r => nI (sk r)) (fun r => nI (fk r)) hd rea sig) (WF FA (fun k => mc k * 40 + mp k * 4 + mm k) mf md mv nx nF) (WM cI cZ b nC nR nL nF par wt (fun r => nI (sk r)) (fun r => nI (fk r)) mc mp mm mf md mv mder mkn 0) ((ob, .inl (cL, 1, .inr (.inl u9))) : Nat × va_E)).symm
    have hag9 : r9 = b9 := by rw [hr9, hw8, hf9]; exact flt_class h1 h2 h3 hC12 hsk12 hfk12 hskC
    have hag := congrArg Int32.toInt64 hag9
    refine lv_iload hx hb dL_law_1330 (lv_at hl 1 rfl) ?_
    refine lv_icmp_eq (tgt := 1337) hx hb dL_law_1332 (by decide) (fun c_1332 => ?_) (fun c_1332 => ?_)
    · skip
      refine lv_iload hx hb dL_law_1337 (lv_at hl 1 rfl) ?_
      refine lv_if_ne (tgt := 1354) hx hb dL_law_1339 (by decide) (fun c_1339 => ?_) (fun c_1339 => ?_)
      · skip
        exact absurd c_1339 (by decide)
      · skip
        refine lv_aload_n hx hb dL_law_1342 rfl (lv_at hl 3 rfl) ?_
        refine lv_iconst (v := 0) hx hb dL_law_1343 (by decide) ?_
        refine va_lald hx hb hK hP (11 + nF) 3 (WDR_at) rfl e_in0 dL_law_1344 ?_
        rw [e_z0, hu9, hag]
        refine lv_iload hx hb dL_law_1345 (lv_at hl 0 rfl) ?_
        refine lv_i2l (v := (b9).toInt64) hx hb dL_law_1347 rfl ?_
        refine W.lcmp hx hb dL_law_1348 ?_
        rw [lg_self]
        refine lv_if_eq (tgt := 1354) hx hb dL_law_1349 (by decide) (fun c_1349 => ?_) (fun c_1349 => ?_)
        · skip
          refine lv_goto (tgt := 1413) hx hb dL_law_1354 (by decide) ?_
          refine W.widen (k := cells + 4) (n := slots + 24) (by omega) (by omega) ?_
          exact kk _ _ _ ⟨FA, nC, nR, nL, nF, par, wt, sk, fk, hd, rea, sig, mc, mp, mm, mf, md, mv, nx, mder, mkn, 0, u9, L, hOk, hP, hD⟩ hS (lv_sub hl [2, 3, 4, 5, 6] rfl)
        · skip
          exact absurd c_1349 (by decide)
    · skip
      exact absurd c_1332 (by decide)
  · skip
    have hB9 : va_P D vwCl (WD cI cO a FA nC nR nL nF par wt (fun r => nI (sk r)) (fun r => nI (fk r)) hd rea sig ++ (WF FA (fun k => mc k * 40 + mp k * 4 + mm k) mf md mv nx nF ++ ((ob, .inl (cL, 1, .inr (.inl u9))) : Nat × va_E) :: WM cI cZ b nC nR nL nF par wt (fun r => nI (sk r)) (fun r => nI (fk r)) mc mp mm mf md mv mder mkn thr)) H ∧ va_D A (WD cI cO a FA nC nR nL nF par wt (fun r => nI (sk r)) (fun r => nI (fk r)) hd rea sig ++ (WF FA (fun k => mc k * 40 + mp k * 4 + mm k) mf md mv nx nF ++ ((ob, .inl (cL, 1, .inr (.inl u9))) : Nat × va_E) :: WM cI cZ b nC nR nL nF par wt (fun r => nI (sk r)) (fun r => nI (fk r)) mc mp mm mf md mv mder mkn thr)) := hB9
    obtain ⟨hP, hD⟩ := hB9
    refine lv_istore (lv' := [(5, .int 1), (4, .int (nI i)), (3, .ref ob), (2, .ref (b 0)), (1, .ref (a 0)), (0, .ref b0)]) hx hb dL_law_1312 hl (by decide) rfl (fun ls hl => ?_)
    refine lv_aload_n hx hb dL_law_1314 rfl (lv_at hl 3 rfl) ?_
    refine lv_aload_n hx hb dL_law_1315 rfl (lv_at hl 5 rfl) ?_
    refine lv_iload hx hb dL_law_1316 (lv_at hl 1 rfl) ?_
    refine lv_iconst (v := 1) hx hb dL_law_1318 (by decide) ?_
    refine lv_iadd hx hb dL_law_1319 ?_
    refine lv_topi (fun dv edv => ?_)
    obtain rfl : dv = nI (i + 1) := by rw [edv]; exact nI_add i 1
    refine va_sld hx hb hX hb0 hbA hS (vp_in_nI (n := (i + 1)) (by omega) (by omega)) dL_law_1320 ?_
    rw [nI_clamp (by omega)]
    have hP := va_P_perm hP (lperm (WD cI cO a FA nC nR nL nF par wt (fun r => nI (sk r)) (fun r => nI (fk r)) hd rea sig) (WF FA (fun k => mc k * 40 + mp k * 4 + mm k) mf md mv nx nF) (WM cI cZ b nC nR nL nF par wt (fun r => nI (sk r)) (fun r => nI (fk r)) mc mp mm mf md mv mder mkn thr) ((ob, .inl (cL, 1, .inr (.inl u9))) : Nat × va_E))
    have hD := va_D_perm hD (lperm (WD cI cO a FA nC nR nL nF par wt (fun r => nI (sk r)) (fun r => nI (fk r)) hd rea sig) (WF FA (fun k => mc k * 40 + mp k * 4 + mm k) mf md mv nx nF) (WM cI cZ b nC nR nL nF par wt (fun r => nI (sk r)) (fun r => nI (fk r)) mc mp mm mf md mv mder mkn thr) ((ob, .inl (cL, 1, .inr (.inl u9))) : Nat × va_E))
    refine va_calli (va_runV (As := [.int (xs (i + 1))]) (rest := []) ⟨hx, hb, hml, hown, hts⟩ (c5_faults_1 l D cI cZ cO cL dt A b nC nR nL nF par wt (fun r => nI (sk r)) (fun r => nI (fk r)) mc mp mm mf md mv mder mkn thr (WD cI cO a FA nC nR nL nF par wt (fun r => nI (sk r)) (fun r => nI (fk r)) hd rea sig ++ (WF FA (fun k => mc k * 40 + mp k * 4 + mm k) mf md mv nx nF ++ [((ob, .inl (cL, 1, .inr (.inl u9))) : Nat × va_E)])) (xs (i + 1)) (fun z => hR9 ((cOk_iff (n := nL + 1) (by omega)).mp z))) (cwV 1 hts gL_law_X5_faults rfl rfl rfl (by decide +kernel) ⟨(Nat.le_of_ble_eq_true rfl), (Nat.le_of_ble_eq_true rfl)⟩) (gP.v (hg.on hS) hP 4 rfl 0 rfl ⟨hP, hD⟩) rfl rfl hl.1 rfl (lv_room (Nat.le_of_ble_eq_true rfl)) dL_law_1321 ⟨by show cells + 1 + 0 ≤ 601024; omega, by show slots + 6 + 0 ≤ 7293034; omega⟩) hS (fun q _ h => h) (fun q h => h) (fun b9 u8 t8 H locs ht8 hvm8 hw8 hB8 hz8 hk8 hS => ?_)
    rw [ht8] at hB8
    obtain ⟨hP, hD⟩ := hB8
    have hP : va_P D vwCl (WM cI cZ b nC nR nL nF par wt (fun r => nI (sk r)) (fun r => nI (fk r)) mc mp mm mf md mv mder mkn 1 ++ (WD cI cO a FA nC nR nL nF par wt (fun r => nI (sk r)) (fun r => nI (fk r)) hd rea sig ++ (WF FA (fun k => mc k * 40 + mp k * 4 + mm k) mf md mv nx nF ++ [((ob, .inl (cL, 1, .inr (.inl u9))) : Nat × va_E)]))) H := hP
    have hD : va_D A (WM cI cZ b nC nR nL nF par wt (fun r => nI (sk r)) (fun r => nI (fk r)) mc mp mm mf md mv mder mkn 1 ++ (WD cI cO a FA nC nR nL nF par wt (fun r => nI (sk r)) (fun r => nI (fk r)) hd rea sig ++ (WF FA (fun k => mc k * 40 + mp k * 4 + mm k) mf md mv nx nF ++ [((ob, .inl (cL, 1, .inr (.inl u9))) : Nat × va_E)]))) := hD
    refine lv_istore (lv' := [(6, .int b9), (5, .int 1), (4, .int (nI i)), (3, .ref ob), (2, .ref (b 0)), (1, .ref (a 0)), (0, .ref b0)]) hx hb dL_law_1324 hl (by decide) rfl (fun ls hl => ?_)
    refine lv_aload_n hx hb dL_law_1326 rfl (lv_at hl 4 rfl) ?_
    refine g_csi (va_runV (As := []) (rest := []) ⟨hx, hb, hml, hown, hts⟩ (c5_thrown l D cI cZ cO cL dt A b nC nR nL nF par wt (fun r => nI (sk r)) (fun r => nI (fk r)) mc mp mm mf md mv mder mkn 1 (WD cI cO a FA nC nR nL nF par wt (fun r => nI (sk r)) (fun r => nI (fk r)) hd rea sig ++ (WF FA (fun k => mc k * 40 + mp k * 4 + mm k) mf md mv nx nF ++ [((ob, .inl (cL, 1, .inr (.inl u9))) : Nat × va_E)]))) (cwV 0 hts gL_law_X5_thrown rfl rfl rfl (by decide +kernel) ⟨(Nat.le_of_ble_eq_true rfl), (Nat.le_of_ble_eq_true rfl)⟩) (gP.v (hg.on hS) hP 4 rfl 0 rfl hP) rfl rfl hl.1 rfl (lv_room (Nat.le_of_ble_eq_true rfl)) dL_law_1327 ⟨by show cells + 1 + 0 + 0 ≤ 601024; omega, by show slots + 6 + 0 + 0 ≤ 7293034; omega⟩) (fun t7 ht7 => ?_)
    obtain rfl : t7 = 1 := ht7
    have hP := va_P_perm hP (lperm (WD cI cO a FA nC nR nL nF par wt (fun r => nI (sk r)) (fun r => nI (fk r)) hd rea sig) (WF FA (fun k => mc k * 40 + mp k * 4 + mm k) mf md mv nx nF) (WM cI cZ b nC nR nL nF par wt (fun r => nI (sk r)) (fun r => nI (fk r)) mc mp mm mf md mv mder mkn 1) ((ob, .inl (cL, 1, .inr (.inl u9))) : Nat × va_E)).symm
    have hD := va_D_perm hD (lperm (WD cI cO a FA nC nR nL nF par wt (fun r => nI (sk r)) (fun r => nI (fk r)) hd rea sig) (WF FA (fun k => mc k * 40 + mp k * 4 + mm k) mf md mv nx nF) (WM cI cZ b nC nR nL nF par wt (fun r => nI (sk r)) (fun r => nI (fk r)) mc mp mm mf md mv mder mkn 1) ((ob, .inl (cL, 1, .inr (.inl u9))) : Nat × va_E)).symm
    refine lv_iload hx hb dL_law_1330 (lv_at hl 1 rfl) ?_
    refine lv_icmp_eq (tgt := 1337) hx hb dL_law_1332 (by decide) (fun c_1332 => ?_) (fun c_1332 => ?_)
    · skip
      refine lv_iload hx hb dL_law_1337 (lv_at hl 1 rfl) ?_
      refine lv_if_ne (tgt := 1354) hx hb dL_law_1339 (by decide) (fun c_1339 => ?_) (fun c_1339 => ?_)
      · skip
        refine lv_goto (tgt := 1413) hx hb dL_law_1354 (by decide) ?_
        refine W.widen (k := cells + 4) (n := slots + 24) (by omega) (by omega) ?_
        exact kk _ _ _ ⟨FA, nC, nR, nL, nF, par, wt, sk, fk, hd, rea, sig, mc, mp, mm, mf, md, mv, nx, mder, mkn, 1, u9, L, hOk, hP, hD⟩ hS (lv_sub hl [2, 3, 4, 5, 6] rfl)
      · skip
        exact absurd c_1339 (by decide)
    · skip
      exact absurd c_1332 (by decide)
set_option maxHeartbeats 4000000 in
set_option maxRecDepth 100000 in
/-- the case of faultsByList -/
theorem lw_faultsByList (l : Launch) (hlt : l.stackTraces = false) {D : va_G} {cI cZ cO cL : ClassId} {dt : Nat} {A : Nat → Prop} {a b : Nat → Nat} {ob b0 i Ls cells slots : Nat} {xs : Nat → Int32} {p9 : Program} {e9 : Env} {s : State} {m9 : MethodId} {args : Array Value} {below : List Frame} {meth : Method} {c9 : Code} {H : Heap} {locs : List Loc} {ls : Array Slot} {Q : State → Prop}
    (hx : p9.tables.exec = Jvm.exec) (hb : c9.code = cL_law) (hml : c9.maxLocals = 7) (hown : s.vm.findClass RL = some m9.cls) (hts : ∀ w ∈ wsL_law, w.before args s = true) (hg : gG D cI cZ cO cL dt A s s.heap) (hX : va_X b0 Ls xs s s.heap) (hb0 : b0 < s.heap.size) (hbA : ¬ A b0) (hi : i + 6 ≤ Ls) (hLs : Ls ≤ 3072)
    (hI : lInv D cI cZ cO cL A a b ob H) (hS : va_S A s.heap H locs) (hl : lv_has ls 7 [(4, .int (nI i)), (3, .ref ob), (2, .ref (b 0)), (1, .ref (a 0)), (0, .ref b0)]) (hcc : cells + 4 ≤ 601024) (hss : slots + 24 ≤ 7293034)
    (kk : ∀ (H : Heap) (locs : List Loc) (ls : Array Slot), lInv D cI cZ cO cL A a b ob H → va_S A s.heap H locs → lv_has ls 7 [(4, .int (nI i)), (3, .ref ob), (2, .ref (b 0)), (1, .ref (a 0)), (0, .ref b0)] → W p9 l e9 room_1 s m9 args below meth c9 H locs (cells + 4) (slots + 24) Q (F0 m9 1413 ls [])) :
    W p9 l e9 room_1 s m9 args below meth c9 H locs cells slots Q (F0 m9 1357 ls []) := by
  obtain ⟨FA, nC, nR, nL, nF, par, wt, sk, fk, hd, rea, sig, mc, mp, mm, mf, md, mv, nx, mder, mkn, thr, ov, L, hOk, hP, hD⟩ := hI
  obtain ⟨⟨hC12, hR5, hL8, hF⟩, ⟨hT, hwt⟩, ⟨hsk12, hfk12, hskC⟩, ⟨hCh, hH, hN, hfL⟩, h1, h2, h3, h4, hmd, hmv, h7⟩ := id hOk
  have hK := hg.1
  have hck : ∀ k, mc k * 40 + mp k * 4 + mm k < 480 := fun k => by have := h1 k; have := h2 k; have := h3 k; omega
  have hcf : ∀ k, mf k < 2 ^ 31 := fun k => by have := h4 k; omega
  have hmd31 : ∀ k, md k < 2 ^ 31 := fun k => by have := hmd k; omega
  have hP : va_P D vwCl (WD cI cO a FA nC nR nL nF par wt (fun r => nI (sk r)) (fun r => nI (fk r)) hd rea sig ++ (WF FA (fun k => mc k * 40 + mp k * 4 + mm k) mf md mv nx nF ++ ((ob, .inl (cL, 1, .inr (.inl ov))) : Nat × va_E) :: WM cI cZ b nC nR nL nF par wt (fun r => nI (sk r)) (fun r => nI (fk r)) mc mp mm mf md mv mder mkn thr)) H := hP
  have hD : va_D A (WD cI cO a FA nC nR nL nF par wt (fun r => nI (sk r)) (fun r => nI (fk r)) hd rea sig ++ (WF FA (fun k => mc k * 40 + mp k * 4 + mm k) mf md mv nx nF ++ ((ob, .inl (cL, 1, .inr (.inl ov))) : Nat × va_E) :: WM cI cZ b nC nR nL nF par wt (fun r => nI (sk r)) (fun r => nI (fk r)) mc mp mm mf md mv mder mkn thr)) := hD
  have hckC : ∀ k, k < nF → mc k * 40 + mp k * 4 + mm k < nC * 40 := fun k hk => by have := h7 k hk; have := h2 k; have := h3 k; omega
  have hFA : ∀ i j, i < nF → j < nF → FA i = FA j → i = j := fun i j hi hj he => by have := hD.1 (11 + i) (11 + j) _ _ (WDG_at hi) (WDG_at hj) he; omega
  refine lv_aload_n hx hb dL_law_1357 rfl (lv_at hl 3 rfl) ?_
  refine lv_aload_n hx hb dL_law_1358 rfl (lv_at hl 4 rfl) ?_
  refine lv_iload hx hb dL_law_1359 (lv_at hl 0 rfl) ?_
  refine lv_iconst (v := 1) hx hb dL_law_1361 (by decide) ?_
  refine lv_iadd hx hb dL_law_1362 ?_
  refine lv_topi (fun dv edv => ?_)
  obtain rfl : dv = nI (i + 1) := by rw [edv]; exact nI_add i 1
  refine va_sld hx hb hX hb0 hbA hS (vp_in_nI (n := (i + 1)) (by omega) (by omega)) dL_law_1363 ?_
  rw [nI_clamp (by omega)]
  refine lv_aload_n hx hb dL_law_1364 rfl (lv_at hl 1 rfl) ?_
  refine va_calli (vx_runSW (hh := [(0, 9, 12, 19)]) (As := [.ref (a 0), .int (xs (i + 1)), .ref ob]) (rest := []) ⟨hx, hb, hml, hown, hts⟩ (kL_faultsByList l D cI cZ cO cL dt A a FA nC nR nL nF par wt (fun r => nI (sk r)) (fun r => nI (fk r)) hd rea sig (fun k => mc k * 40 + mp k * 4 + mm k) mf md mv nx (WM cI cZ b nC nR nL nF par wt (fun r => nI (sk r)) (fun r => nI (fk r)) mc mp mm mf md mv mder mkn thr) ob ov sk fk (xs (i + 1)) hlt hF hC12 hck hcf hmd hmv hwt hCh hL8 hR5 (fun _ => rfl) (fun _ => rfl) hsk12 hfk12 hckC hFA) (vx_cwSW 3 hts gL_law_L_faultsByList rfl rfl rfl (by decide +kernel) ⟨(Nat.le_of_ble_eq_true rfl), (Nat.le_of_ble_eq_true rfl)⟩) (gP.s (hg.on hS) ⟨hP, hD⟩) rfl rfl hl.1 rfl (lv_room (Nat.le_of_ble_eq_true rfl)) dL_law_1365 ⟨by show cells + 1 ≤ 601024; omega, by show slots + 6 ≤ 7293034; omega⟩) hS (fun q _ h => h) (fun q h => h) (fun k9 u9 t9 H locs ht9 hvm9 hw9 hB9 hz9 hk9 hS => ?_)
  rw [ht9] at hB9
  rcases hw9 with ⟨rfl, r9, hu9, hpost⟩ | ⟨rfl, hR9⟩
  · skip
    have hB9 : va_P D vwCl (WD cI cO a FA nC nR nL nF par wt (fun r => nI (sk r)) (fun r => nI (fk r)) hd rea sig ++ (WF FA (fun k => mc k * 40 + mp k * 4 + mm k) mf md mv nx nF ++ ((ob, .inl (cL, 1, .inr (.inl u9))) : Nat × va_E) :: WM cI cZ b nC nR nL nF par wt (fun r => nI (sk r)) (fun r => nI (fk r)) mc mp mm mf md mv mder mkn thr)) H ∧ va_D A (WD cI cO a FA nC nR nL nF par wt (fun r => nI (sk r)) (fun r => nI (fk r)) hd rea sig ++ (WF FA (fun k => mc k * 40 + mp k * 4 + mm k) mf md mv nx nF ++ ((ob, .inl (cL, 1, .inr (.inl u9))) : Nat × va_E) :: WM cI cZ b nC nR nL nF par wt (fun r => nI (sk r)) (fun r => nI (fk r)) mc mp mm mf md mv mder mkn thr)) := hB9
    obtain ⟨hP, hD⟩ := hB9
    obtain ⟨f9, ⟨hf9, hf⟩, hr9⟩ := hpost
    refine lv_istore (lv' := [(5, .int 0), (4, .int (nI i)), (3, .ref ob), (2, .ref (b 0)), (1, .ref (a 0)), (0, .ref b0)]) hx hb dL_law_1368 hl (by decide) rfl (fun ls hl => ?_)
    refine lv_aload_n hx hb dL_law_1370 rfl (lv_at hl 3 rfl) ?_
    refine lv_aload_n hx hb dL_law_1371 rfl (lv_at hl 5 rfl) ?_
    refine lv_iload hx hb dL_law_1372 (lv_at hl 1 rfl) ?_
    refine lv_iconst (v := 1) hx hb dL_law_1374 (by decide) ?_
    refine lv_iadd hx hb dL_law_1375 ?_
    refine lv_topi (fun dv edv => ?_)
    obtain rfl : dv = nI (i + 1) := by rw [edv]; exact nI_add i 1
    refine va_sld hx hb hX hb0 hbA hS (vp_in_nI (n := (i + 1)) (by omega) (by omega)) dL_law_1376 ?_
    rw [nI_clamp (by omega)]
    have hP := va_P_perm hP (lperm (WD cI cO a FA nC nR nL nF par wt (fun r => nI (sk r)) (fun r => nI (fk r)) hd rea sig) (WF FA (fun k => mc k * 40 + mp k * 4 + mm k) mf md mv nx nF) (WM cI cZ b nC nR nL nF par wt (fun r => nI (sk r)) (fun r => nI (fk r)) mc mp mm mf md mv mder mkn thr) ((ob, .inl (cL, 1, .inr (.inl u9))) : Nat × va_E))
    have hD := va_D_perm hD (lperm (WD cI cO a FA nC nR nL nF par wt (fun r => nI (sk r)) (fun r => nI (fk r)) hd rea sig) (WF FA (fun k => mc k * 40 + mp k * 4 + mm k) mf md mv nx nF) (WM cI cZ b nC nR nL nF par wt (fun r => nI (sk r)) (fun r => nI (fk r)) mc mp mm mf md mv mder mkn thr) ((ob, .inl (cL, 1, .inr (.inl u9))) : Nat × va_E))
    refine va_calli (va_runV (As := [.int (xs (i + 1))]) (rest := []) ⟨hx, hb, hml, hown, hts⟩ (c5_faultsByList_0 l D cI cZ cO cL dt A b nC nR nL nF par wt (fun r => nI (sk r)) (fun r => nI (fk r)) mc mp mm mf md mv mder mkn thr (WD cI cO a FA nC nR nL nF par wt (fun r => nI (sk r)) (fun r => nI (fk r)) hd rea sig ++ (WF FA (fun k => mc k * 40 + mp k * 4 + mm k) mf md mv nx nF ++ [((ob, .inl (cL, 1, .inr (.inl u9))) : Nat × va_E)])) (xs (i + 1)) hF hC12 hcf hmd31 hR5 ((cOk_iff (n := nL + 1) (by omega)).mpr ⟨f9, hf9, hf⟩)) (cwV 1 hts gL_law_X5_faultsByList rfl rfl rfl (by decide +kernel) ⟨(Nat.le_of_ble_eq_true rfl), (Nat.le_of_ble_eq_true rfl)⟩) (gP.v (hg.on hS) hP 4 rfl 0 rfl ⟨hP, hD⟩) rfl rfl hl.1 rfl (lv_room (Nat.le_of_ble_eq_true rfl)) dL_law_1377 ⟨by show cells + 1 + 0 ≤ 601024; omega, by show slots + 6 + 0 ≤ 7293034; omega⟩) hS (fun q _ h => h) (fun q h => h) (fun b9 u8 t8 H locs ht8 hvm8 hw8 hB8 hz8 hk8 hS => ?_)
    rw [ht8] at hB8
    obtain ⟨hP, hD⟩ := hB8
    have hP : va_P D vwCl (WM cI cZ b nC nR nL nF par wt (fun r => nI (sk r)) (fun r => nI (fk r)) mc mp mm mf md mv mder mkn 0 ++ (WD cI cO a FA nC nR nL nF par wt (fun r => nI (sk r)) (fun r => nI (fk r)) hd rea sig ++ (WF FA (fun k => mc k * 40 + mp k * 4 + mm k) mf md mv nx nF ++ [((ob, .inl (cL, 1, .inr (.inl u9))) : Nat × va_E)]))) H := hP
    have hD : va_D A (WM cI cZ b nC nR nL nF par wt (fun r => nI (sk r)) (fun r => nI (fk r)) mc mp mm mf md mv mder mkn 0 ++ (WD cI cO a FA nC nR nL nF par wt (fun r => nI (sk r)) (fun r => nI (fk r)) hd rea sig ++ (WF FA (fun k => mc k * 40 + mp k * 4 + mm k) mf md mv nx nF ++ [((ob, .inl (cL, 1, .inr (.inl u9))) : Nat × va_E)]))) := hD
    refine lv_istore (lv' := [(6, .int b9), (5, .int 0), (4, .int (nI i)), (3, .ref ob), (2, .ref (b 0)), (1, .ref (a 0)), (0, .ref b0)]) hx hb dL_law_1380 hl (by decide) rfl (fun ls hl => ?_)
    refine lv_aload_n hx hb dL_law_1382 rfl (lv_at hl 4 rfl) ?_
    refine g_csi (va_runV (As := []) (rest := []) ⟨hx, hb, hml, hown, hts⟩ (c5_thrown l D cI cZ cO cL dt A b nC nR nL nF par wt (fun r => nI (sk r)) (fun r => nI (fk r)) mc mp mm mf md mv mder mkn 0 (WD cI cO a FA nC nR nL nF par wt (fun r => nI (sk r)) (fun r => nI (fk r)) hd rea sig ++ (WF FA (fun k => mc k * 40 + mp k * 4 + mm k) mf md mv nx nF ++ [((ob, .inl (cL, 1, .inr (.inl u9))) : Nat × va_E)]))) (cwV 0 hts gL_law_X5_thrown rfl rfl rfl (by decide +kernel) ⟨(Nat.le_of_ble_eq_true rfl), (Nat.le_of_ble_eq_true rfl)⟩) (gP.v (hg.on hS) hP 4 rfl 0 rfl hP) rfl rfl hl.1 rfl (lv_room (Nat.le_of_ble_eq_true rfl)) dL_law_1383 ⟨by show cells + 1 + 0 + 0 ≤ 601024; omega, by show slots + 6 + 0 + 0 ≤ 7293034; omega⟩) (fun t7 ht7 => ?_)
    obtain rfl : t7 = 0 := ht7
    have hP := va_P_perm hP (lperm (WD cI cO a FA nC nR nL nF par wt (fun r => nI (sk r)) (fun r => nI (fk r)) hd rea sig) (WF FA (fun k => mc k * 40 + mp k * 4 + mm k) mf md mv nx nF) (WM cI cZ b nC nR nL nF par wt (fun r => nI (sk r)) (fun r => nI (fk r)) mc mp mm mf md mv mder mkn 0) ((ob, .inl (cL, 1, .inr (.inl u9))) : Nat × va_E)).symm
    have hD := va_D_perm hD (lperm (WD cI cO a FA nC nR nL nF par wt (fun r => nI (sk r)) (fun r => nI (fk r)) hd rea sig) (WF FA (fun k => mc k * 40 + mp k * 4 + mm k) mf md mv nx nF) (WM cI cZ b nC nR nL nF par wt (fun r => nI (sk r)) (fun r => nI (fk r)) mc mp mm mf md mv mder mkn 0) ((ob, .inl (cL, 1, .inr (.inl u9))) : Nat × va_E)).symm
    have hag9 : r9 = b9 := by rw [hr9, hw8, hf9]; exact flt_list h1 h2 h3 hC12 hsk12 hfk12 hskC h7
    have hag := congrArg Int32.toInt64 hag9
    refine lv_iload hx hb dL_law_1386 (lv_at hl 1 rfl) ?_
    refine lv_icmp_eq (tgt := 1393) hx hb dL_law_1388 (by decide) (fun c_1388 => ?_) (fun c_1388 => ?_)
    · skip
      refine lv_iload hx hb dL_law_1393 (lv_at hl 1 rfl) ?_
      refine lv_if_ne (tgt := 1410) hx hb dL_law_1395 (by decide) (fun c_1395 => ?_) (fun c_1395 => ?_)
      · skip
        exact absurd c_1395 (by decide)
      · skip
        refine lv_aload_n hx hb dL_law_1398 rfl (lv_at hl 3 rfl) ?_
        refine lv_iconst (v := 0) hx hb dL_law_1399 (by decide) ?_
        refine va_lald hx hb hK hP (11 + nF) 3 (WDR_at) rfl e_in0 dL_law_1400 ?_
        rw [e_z0, hu9, hag]
        refine lv_iload hx hb dL_law_1401 (lv_at hl 0 rfl) ?_
        refine lv_i2l (v := (b9).toInt64) hx hb dL_law_1403 rfl ?_
        refine W.lcmp hx hb dL_law_1404 ?_
        rw [lg_self]
        refine lv_if_eq (tgt := 1410) hx hb dL_law_1405 (by decide) (fun c_1405 => ?_) (fun c_1405 => ?_)
        · skip
          refine lv_goto (tgt := 1413) hx hb dL_law_1410 (by decide) ?_
          refine W.widen (k := cells + 4) (n := slots + 24) (by omega) (by omega) ?_
          exact kk _ _ _ ⟨FA, nC, nR, nL, nF, par, wt, sk, fk, hd, rea, sig, mc, mp, mm, mf, md, mv, nx, mder, mkn, 0, u9, L, hOk, hP, hD⟩ hS (lv_sub hl [2, 3, 4, 5, 6] rfl)
        · skip
          exact absurd c_1405 (by decide)
    · skip
      exact absurd c_1388 (by decide)
  · skip
    have hB9 : va_P D vwCl (WD cI cO a FA nC nR nL nF par wt (fun r => nI (sk r)) (fun r => nI (fk r)) hd rea sig ++ (WF FA (fun k => mc k * 40 + mp k * 4 + mm k) mf md mv nx nF ++ ((ob, .inl (cL, 1, .inr (.inl u9))) : Nat × va_E) :: WM cI cZ b nC nR nL nF par wt (fun r => nI (sk r)) (fun r => nI (fk r)) mc mp mm mf md mv mder mkn thr)) H ∧ va_D A (WD cI cO a FA nC nR nL nF par wt (fun r => nI (sk r)) (fun r => nI (fk r)) hd rea sig ++ (WF FA (fun k => mc k * 40 + mp k * 4 + mm k) mf md mv nx nF ++ ((ob, .inl (cL, 1, .inr (.inl u9))) : Nat × va_E) :: WM cI cZ b nC nR nL nF par wt (fun r => nI (sk r)) (fun r => nI (fk r)) mc mp mm mf md mv mder mkn thr)) := hB9
    obtain ⟨hP, hD⟩ := hB9
    refine lv_istore (lv' := [(5, .int 1), (4, .int (nI i)), (3, .ref ob), (2, .ref (b 0)), (1, .ref (a 0)), (0, .ref b0)]) hx hb dL_law_1368 hl (by decide) rfl (fun ls hl => ?_)
    refine lv_aload_n hx hb dL_law_1370 rfl (lv_at hl 3 rfl) ?_
    refine lv_aload_n hx hb dL_law_1371 rfl (lv_at hl 5 rfl) ?_
    refine lv_iload hx hb dL_law_1372 (lv_at hl 1 rfl) ?_
    refine lv_iconst (v := 1) hx hb dL_law_1374 (by decide) ?_
    refine lv_iadd hx hb dL_law_1375 ?_
    refine lv_topi (fun dv edv => ?_)
    obtain rfl : dv = nI (i + 1) := by rw [edv]; exact nI_add i 1
    refine va_sld hx hb hX hb0 hbA hS (vp_in_nI (n := (i + 1)) (by omega) (by omega)) dL_law_1376 ?_
    rw [nI_clamp (by omega)]
    have hP := va_P_perm hP (lperm (WD cI cO a FA nC nR nL nF par wt (fun r => nI (sk r)) (fun r => nI (fk r)) hd rea sig) (WF FA (fun k => mc k * 40 + mp k * 4 + mm k) mf md mv nx nF) (WM cI cZ b nC nR nL nF par wt (fun r => nI (sk r)) (fun r => nI (fk r)) mc mp mm mf md mv mder mkn thr) ((ob, .inl (cL, 1, .inr (.inl u9))) : Nat × va_E))
    have hD := va_D_perm hD (lperm (WD cI cO a FA nC nR nL nF par wt (fun r => nI (sk r)) (fun r => nI (fk r)) hd rea sig) (WF FA (fun k => mc k * 40 + mp k * 4 + mm k) mf md mv nx nF) (WM cI cZ b nC nR nL nF par wt (fun r => nI (sk r)) (fun r => nI (fk r)) mc mp mm mf md mv mder mkn thr) ((ob, .inl (cL, 1, .inr (.inl u9))) : Nat × va_E))
    refine va_calli (va_runV (As := [.int (xs (i + 1))]) (rest := []) ⟨hx, hb, hml, hown, hts⟩ (c5_faultsByList_1 l D cI cZ cO cL dt A b nC nR nL nF par wt (fun r => nI (sk r)) (fun r => nI (fk r)) mc mp mm mf md mv mder mkn thr (WD cI cO a FA nC nR nL nF par wt (fun r => nI (sk r)) (fun r => nI (fk r)) hd rea sig ++ (WF FA (fun k => mc k * 40 + mp k * 4 + mm k) mf md mv nx nF ++ [((ob, .inl (cL, 1, .inr (.inl u9))) : Nat × va_E)])) (xs (i + 1)) (fun z => hR9 ((cOk_iff (n := nL + 1) (by omega)).mp z))) (cwV 1 hts gL_law_X5_faultsByList rfl rfl rfl (by decide +kernel) ⟨(Nat.le_of_ble_eq_true rfl), (Nat.le_of_ble_eq_true rfl)⟩) (gP.v (hg.on hS) hP 4 rfl 0 rfl ⟨hP, hD⟩) rfl rfl hl.1 rfl (lv_room (Nat.le_of_ble_eq_true rfl)) dL_law_1377 ⟨by show cells + 1 + 0 ≤ 601024; omega, by show slots + 6 + 0 ≤ 7293034; omega⟩) hS (fun q _ h => h) (fun q h => h) (fun b9 u8 t8 H locs ht8 hvm8 hw8 hB8 hz8 hk8 hS => ?_)
    rw [ht8] at hB8
    obtain ⟨hP, hD⟩ := hB8
    have hP : va_P D vwCl (WM cI cZ b nC nR nL nF par wt (fun r => nI (sk r)) (fun r => nI (fk r)) mc mp mm mf md mv mder mkn 1 ++ (WD cI cO a FA nC nR nL nF par wt (fun r => nI (sk r)) (fun r => nI (fk r)) hd rea sig ++ (WF FA (fun k => mc k * 40 + mp k * 4 + mm k) mf md mv nx nF ++ [((ob, .inl (cL, 1, .inr (.inl u9))) : Nat × va_E)]))) H := hP
    have hD : va_D A (WM cI cZ b nC nR nL nF par wt (fun r => nI (sk r)) (fun r => nI (fk r)) mc mp mm mf md mv mder mkn 1 ++ (WD cI cO a FA nC nR nL nF par wt (fun r => nI (sk r)) (fun r => nI (fk r)) hd rea sig ++ (WF FA (fun k => mc k * 40 + mp k * 4 + mm k) mf md mv nx nF ++ [((ob, .inl (cL, 1, .inr (.inl u9))) : Nat × va_E)]))) := hD
    refine lv_istore (lv' := [(6, .int b9), (5, .int 1), (4, .int (nI i)), (3, .ref ob), (2, .ref (b 0)), (1, .ref (a 0)), (0, .ref b0)]) hx hb dL_law_1380 hl (by decide) rfl (fun ls hl => ?_)
    refine lv_aload_n hx hb dL_law_1382 rfl (lv_at hl 4 rfl) ?_
    refine g_csi (va_runV (As := []) (rest := []) ⟨hx, hb, hml, hown, hts⟩ (c5_thrown l D cI cZ cO cL dt A b nC nR nL nF par wt (fun r => nI (sk r)) (fun r => nI (fk r)) mc mp mm mf md mv mder mkn 1 (WD cI cO a FA nC nR nL nF par wt (fun r => nI (sk r)) (fun r => nI (fk r)) hd rea sig ++ (WF FA (fun k => mc k * 40 + mp k * 4 + mm k) mf md mv nx nF ++ [((ob, .inl (cL, 1, .inr (.inl u9))) : Nat × va_E)]))) (cwV 0 hts gL_law_X5_thrown rfl rfl rfl (by decide +kernel) ⟨(Nat.le_of_ble_eq_true rfl), (Nat.le_of_ble_eq_true rfl)⟩) (gP.v (hg.on hS) hP 4 rfl 0 rfl hP) rfl rfl hl.1 rfl (lv_room (Nat.le_of_ble_eq_true rfl)) dL_law_1383 ⟨by show cells + 1 + 0 + 0 ≤ 601024; omega, by show slots + 6 + 0 + 0 ≤ 7293034; omega⟩) (fun t7 ht7 => ?_)
    obtain rfl : t7 = 1 := ht7
    have hP := va_P_perm hP (lperm (WD cI cO a FA nC nR nL nF par wt (fun r => nI (sk r)) (fun r => nI (fk r)) hd rea sig) (WF FA (fun k => mc k * 40 + mp k * 4 + mm k) mf md mv nx nF) (WM cI cZ b nC nR nL nF par wt (fun r => nI (sk r)) (fun r => nI (fk r)) mc mp mm mf md mv mder mkn 1) ((ob, .inl (cL, 1, .inr (.inl u9))) : Nat × va_E)).symm
    have hD := va_D_perm hD (lperm (WD cI cO a FA nC nR nL nF par wt (fun r => nI (sk r)) (fun r => nI (fk r)) hd rea sig) (WF FA (fun k => mc k * 40 + mp k * 4 + mm k) mf md mv nx nF) (WM cI cZ b nC nR nL nF par wt (fun r => nI (sk r)) (fun r => nI (fk r)) mc mp mm mf md mv mder mkn 1) ((ob, .inl (cL, 1, .inr (.inl u9))) : Nat × va_E)).symm
    refine lv_iload hx hb dL_law_1386 (lv_at hl 1 rfl) ?_
    refine lv_icmp_eq (tgt := 1393) hx hb dL_law_1388 (by decide) (fun c_1388 => ?_) (fun c_1388 => ?_)
    · skip
      refine lv_iload hx hb dL_law_1393 (lv_at hl 1 rfl) ?_
      refine lv_if_ne (tgt := 1410) hx hb dL_law_1395 (by decide) (fun c_1395 => ?_) (fun c_1395 => ?_)
      · skip
        refine lv_goto (tgt := 1413) hx hb dL_law_1410 (by decide) ?_
        refine W.widen (k := cells + 4) (n := slots + 24) (by omega) (by omega) ?_
        exact kk _ _ _ ⟨FA, nC, nR, nL, nF, par, wt, sk, fk, hd, rea, sig, mc, mp, mm, mf, md, mv, nx, mder, mkn, 1, u9, L, hOk, hP, hD⟩ hS (lv_sub hl [2, 3, 4, 5, 6] rfl)
      · skip
        exact absurd c_1395 (by decide)
    · skip
      exact absurd c_1388 (by decide)
set_option maxHeartbeats 4000000 in
set_option maxRecDepth 100000 in
/-- the case of derived -/
theorem lw_derived (l : Launch) (hlt : l.stackTraces = false) {D : va_G} {cI cZ cO cL : ClassId} {dt : Nat} {A : Nat → Prop} {a b : Nat → Nat} {ob b0 i Ls cells slots : Nat} {xs : Nat → Int32} {p9 : Program} {e9 : Env} {s : State} {m9 : MethodId} {args : Array Value} {below : List Frame} {meth : Method} {c9 : Code} {H : Heap} {locs : List Loc} {ls : Array Slot} {Q : State → Prop}
    (hx : p9.tables.exec = Jvm.exec) (hb : c9.code = cL_law) (hml : c9.maxLocals = 7) (hown : s.vm.findClass RL = some m9.cls) (hts : ∀ w ∈ wsL_law, w.before args s = true) (hg : gG D cI cZ cO cL dt A s s.heap) (hX : va_X b0 Ls xs s s.heap) (hb0 : b0 < s.heap.size) (hbA : ¬ A b0) (hi : i + 6 ≤ Ls) (hLs : Ls ≤ 3072)
    (hI : lInv D cI cZ cO cL A a b ob H) (hS : va_S A s.heap H locs) (hl : lv_has ls 7 [(4, .int (nI i)), (3, .ref ob), (2, .ref (b 0)), (1, .ref (a 0)), (0, .ref b0)]) (hcc : cells + 4 ≤ 601024) (hss : slots + 24 ≤ 7293034)
    (kk : ∀ (H : Heap) (locs : List Loc) (ls : Array Slot), lInv D cI cZ cO cL A a b ob H → va_S A s.heap H locs → lv_has ls 7 [(4, .int (nI i)), (3, .ref ob), (2, .ref (b 0)), (1, .ref (a 0)), (0, .ref b0)] → W p9 l e9 room_1 s m9 args below meth c9 H locs (cells + 4) (slots + 24) Q (F0 m9 1413 ls [])) :
    W p9 l e9 room_1 s m9 args below meth c9 H locs cells slots Q (F0 m9 924 ls []) := by
  obtain ⟨FA, nC, nR, nL, nF, par, wt, sk, fk, hd, rea, sig, mc, mp, mm, mf, md, mv, nx, mder, mkn, thr, ov, L, hOk, hP, hD⟩ := hI
  obtain ⟨⟨hC12, hR5, hL8, hF⟩, ⟨hT, hwt⟩, ⟨hsk12, hfk12, hskC⟩, ⟨hCh, hH, hN, hfL⟩, h1, h2, h3, h4, hmd, hmv, h7⟩ := id hOk
  have hK := hg.1
  have hck : ∀ k, mc k * 40 + mp k * 4 + mm k < 480 := fun k => by have := h1 k; have := h2 k; have := h3 k; omega
  have hcf : ∀ k, mf k < 2 ^ 31 := fun k => by have := h4 k; omega
  have hmd31 : ∀ k, md k < 2 ^ 31 := fun k => by have := hmd k; omega
  have hP : va_P D vwCl (WD cI cO a FA nC nR nL nF par wt (fun r => nI (sk r)) (fun r => nI (fk r)) hd rea sig ++ (WF FA (fun k => mc k * 40 + mp k * 4 + mm k) mf md mv nx nF ++ ((ob, .inl (cL, 1, .inr (.inl ov))) : Nat × va_E) :: WM cI cZ b nC nR nL nF par wt (fun r => nI (sk r)) (fun r => nI (fk r)) mc mp mm mf md mv mder mkn thr)) H := hP
  have hD : va_D A (WD cI cO a FA nC nR nL nF par wt (fun r => nI (sk r)) (fun r => nI (fk r)) hd rea sig ++ (WF FA (fun k => mc k * 40 + mp k * 4 + mm k) mf md mv nx nF ++ ((ob, .inl (cL, 1, .inr (.inl ov))) : Nat × va_E) :: WM cI cZ b nC nR nL nF par wt (fun r => nI (sk r)) (fun r => nI (fk r)) mc mp mm mf md mv mder mkn thr)) := hD
  refine lv_aload_n hx hb dL_law_924 rfl (lv_at hl 3 rfl) ?_
  refine lv_aload_n hx hb dL_law_925 rfl (lv_at hl 4 rfl) ?_
  refine lv_iload hx hb dL_law_926 (lv_at hl 0 rfl) ?_
  refine lv_iconst (v := 1) hx hb dL_law_928 (by decide) ?_
  refine lv_iadd hx hb dL_law_929 ?_
  refine lv_topi (fun dv edv => ?_)
  obtain rfl : dv = nI (i + 1) := by rw [edv]; exact nI_add i 1
  refine va_sld hx hb hX hb0 hbA hS (vp_in_nI (n := (i + 1)) (by omega) (by omega)) dL_law_930 ?_
  rw [nI_clamp (by omega)]
  refine lv_aload_n hx hb dL_law_931 rfl (lv_at hl 4 rfl) ?_
  refine lv_iload hx hb dL_law_932 (lv_at hl 0 rfl) ?_
  refine lv_iconst (v := 2) hx hb dL_law_934 (by decide) ?_
  refine lv_iadd hx hb dL_law_935 ?_
  refine lv_topi (fun dv edv => ?_)
  obtain rfl : dv = nI (i + 2) := by rw [edv]; exact nI_add i 2
  refine va_sld hx hb hX hb0 hbA hS (vp_in_nI (n := (i + 2)) (by omega) (by omega)) dL_law_936 ?_
  rw [nI_clamp (by omega)]
  refine lv_aload_n hx hb dL_law_937 rfl (lv_at hl 4 rfl) ?_
  refine lv_iload hx hb dL_law_938 (lv_at hl 0 rfl) ?_
  refine lv_iconst (v := 3) hx hb dL_law_940 (by decide) ?_
  refine lv_iadd hx hb dL_law_941 ?_
  refine lv_topi (fun dv edv => ?_)
  obtain rfl : dv = nI (i + 3) := by rw [edv]; exact nI_add i 3
  refine va_sld hx hb hX hb0 hbA hS (vp_in_nI (n := (i + 3)) (by omega) (by omega)) dL_law_942 ?_
  rw [nI_clamp (by omega)]
  refine lv_aload_n hx hb dL_law_943 rfl (lv_at hl 4 rfl) ?_
  refine lv_iload hx hb dL_law_944 (lv_at hl 0 rfl) ?_
  refine lv_iconst (v := 4) hx hb dL_law_946 (by decide) ?_
  refine lv_iadd hx hb dL_law_947 ?_
  refine lv_topi (fun dv edv => ?_)
  obtain rfl : dv = nI (i + 4) := by rw [edv]; exact nI_add i 4
  refine va_sld hx hb hX hb0 hbA hS (vp_in_nI (n := (i + 4)) (by omega) (by omega)) dL_law_948 ?_
  rw [nI_clamp (by omega)]
  refine lv_aload_n hx hb dL_law_949 rfl (lv_at hl 1 rfl) ?_
  refine va_calli (vx_runSW (hh := [(0, 14, 17, 19), (0, 14, 21, 48)]) (As := [.ref (a 0), .int (xs (i + 1)), .int (xs (i + 2)), .int (xs (i + 3)), .int (xs (i + 4)), .ref ob]) (rest := []) ⟨hx, hb, hml, hown, hts⟩ (kL_derived l D cI cZ cO cL dt A a FA nC nR nL nF par wt (fun r => nI (sk r)) (fun r => nI (fk r)) hd rea sig (fun k => mc k * 40 + mp k * 4 + mm k) mf md mv nx (WM cI cZ b nC nR nL nF par wt (fun r => nI (sk r)) (fun r => nI (fk r)) mc mp mm mf md mv mder mkn thr) ob ov L (xs (i + 1)) (xs (i + 2)) (xs (i + 3)) (xs (i + 4)) hlt hC12 hL8 hck hcf hmd hCh hF hT) (vx_cwSW 6 hts gL_law_L_derived rfl rfl rfl (by decide +kernel) ⟨(Nat.le_of_ble_eq_true rfl), (Nat.le_of_ble_eq_true rfl)⟩) (gP.s (hg.on hS) ⟨hP, hD⟩) rfl rfl hl.1 rfl (lv_room (Nat.le_of_ble_eq_true rfl)) dL_law_950 ⟨by show cells + 4 ≤ 601024; omega, by show slots + 24 ≤ 7293034; omega⟩) hS (fun q _ h => h) (fun q h => h) (fun k9 u9 t9 H locs ht9 hvm9 hw9 hB9 hz9 hk9 hS => ?_)
  rw [ht9] at hB9
  rcases hw9 with ⟨rfl, r9, x, hx9, hu9, hpost⟩ | ⟨rfl, hR9⟩ | ⟨rfl, hR9⟩
  · skip
    have hB9 : va_P D vwCl (WD cI cO a FA nC nR nL nF par wt (fun r => nI (sk r)) (fun r => nI (fk r)) hd u9.2.1 u9.2.2 ++ (WF FA (fun k => mc k * 40 + mp k * 4 + mm k) mf md mv nx nF ++ ((ob, .inl (cL, 1, .inr (.inl u9.1))) : Nat × va_E) :: WM cI cZ b nC nR nL nF par wt (fun r => nI (sk r)) (fun r => nI (fk r)) mc mp mm mf md mv mder mkn thr)) H ∧ va_D A (WD cI cO a FA nC nR nL nF par wt (fun r => nI (sk r)) (fun r => nI (fk r)) hd u9.2.1 u9.2.2 ++ (WF FA (fun k => mc k * 40 + mp k * 4 + mm k) mf md mv nx nF ++ ((ob, .inl (cL, 1, .inr (.inl u9.1))) : Nat × va_E) :: WM cI cZ b nC nR nL nF par wt (fun r => nI (sk r)) (fun r => nI (fk r)) mc mp mm mf md mv mder mkn thr)) := hB9
    obtain ⟨hP, hD⟩ := hB9
    obtain ⟨⟨⟨⟨c1, p1⟩, ⟨m1, f1⟩⟩, x2⟩, hx9, hu9, hv9, hdv⟩ : ∃ y : ((Nat × Nat) × (Nat × Nat)) × ((Nat → Int32) × (Nat → Int32)), y.2 = u9.2 ∧ u9.1 0 = r9.toInt64 ∧ kV nC nL (xs (i + 1)) (xs (i + 2)) (xs (i + 3)) (xs (i + 4)) y.1.1.1 y.1.1.2 y.1.2.1 y.1.2.2 ∧ dV nC par wt (fun k => hC (fun k => mc k * 40 + mp k * 4 + mm k) mf md nF (nI (k * 40 + y.1.1.2 * 4 + y.1.2.1)) (nI y.1.2.2)) mv y.1.1.1 = some r9 := ⟨x, hx9, hu9, hpost.1, hpost.2⟩
    dsimp only at hv9 hdv
    have hvv := hv9
    obtain ⟨⟨hc9, hc⟩, ⟨hp9, hp⟩, ⟨hm9, hm⟩, ⟨hf9, hf⟩⟩ := hv9
    refine lv_istore (lv' := [(5, .int 0), (4, .int (nI i)), (3, .ref ob), (2, .ref (b 0)), (1, .ref (a 0)), (0, .ref b0)]) hx hb dL_law_953 hl (by decide) rfl (fun ls hl => ?_)
    refine lv_aload_n hx hb dL_law_955 rfl (lv_at hl 3 rfl) ?_
    refine lv_aload_n hx hb dL_law_956 rfl (lv_at hl 5 rfl) ?_
    refine lv_iload hx hb dL_law_957 (lv_at hl 1 rfl) ?_
    refine lv_iconst (v := 1) hx hb dL_law_959 (by decide) ?_
    refine lv_iadd hx hb dL_law_960 ?_
    refine lv_topi (fun dv edv => ?_)
    obtain rfl : dv = nI (i + 1) := by rw [edv]; exact nI_add i 1
    refine va_sld hx hb hX hb0 hbA hS (vp_in_nI (n := (i + 1)) (by omega) (by omega)) dL_law_961 ?_
    rw [nI_clamp (by omega)]
    rw [hc9]
    refine lv_aload_n hx hb dL_law_962 rfl (lv_at hl 5 rfl) ?_
    refine lv_iload hx hb dL_law_963 (lv_at hl 1 rfl) ?_
    refine lv_iconst (v := 2) hx hb dL_law_965 (by decide) ?_
    refine lv_iadd hx hb dL_law_966 ?_
    refine lv_topi (fun dv edv => ?_)
    obtain rfl : dv = nI (i + 2) := by rw [edv]; exact nI_add i 2
    refine va_sld hx hb hX hb0 hbA hS (vp_in_nI (n := (i + 2)) (by omega) (by omega)) dL_law_967 ?_
    rw [nI_clamp (by omega)]
    refine lv_aload_n hx hb dL_law_968 rfl (lv_at hl 5 rfl) ?_
    refine lv_iload hx hb dL_law_969 (lv_at hl 1 rfl) ?_
    refine lv_iconst (v := 3) hx hb dL_law_971 (by decide) ?_
    refine lv_iadd hx hb dL_law_972 ?_
    refine lv_topi (fun dv edv => ?_)
    obtain rfl : dv = nI (i + 3) := by rw [edv]; exact nI_add i 3
    refine va_sld hx hb hX hb0 hbA hS (vp_in_nI (n := (i + 3)) (by omega) (by omega)) dL_law_973 ?_
    rw [nI_clamp (by omega)]
    refine lv_aload_n hx hb dL_law_974 rfl (lv_at hl 5 rfl) ?_
    refine lv_iload hx hb dL_law_975 (lv_at hl 1 rfl) ?_
    refine lv_iconst (v := 4) hx hb dL_law_977 (by decide) ?_
    refine lv_iadd hx hb dL_law_978 ?_
    refine lv_topi (fun dv edv => ?_)
    obtain rfl : dv = nI (i + 4) := by rw [edv]; exact nI_add i 4
    refine va_sld hx hb hX hb0 hbA hS (vp_in_nI (n := (i + 4)) (by omega) (by omega)) dL_law_979 ?_
    rw [nI_clamp (by omega)]
    have hP := va_P_perm hP (lperm (WD cI cO a FA nC nR nL nF par wt (fun r => nI (sk r)) (fun r => nI (fk r)) hd u9.2.1 u9.2.2) (WF FA (fun k => mc k * 40 + mp k * 4 + mm k) mf md mv nx nF) (WM cI cZ b nC nR nL nF par wt (fun r => nI (sk r)) (fun r => nI (fk r)) mc mp mm mf md mv mder mkn thr) ((ob, .inl (cL, 1, .inr (.inl u9.1))) : Nat × va_E))
    have hD := va_D_perm hD (lperm (WD cI cO a FA nC nR nL nF par wt (fun r => nI (sk r)) (fun r => nI (fk r)) hd u9.2.1 u9.2.2) (WF FA (fun k => mc k * 40 + mp k * 4 + mm k) mf md mv nx nF) (WM cI cZ b nC nR nL nF par wt (fun r => nI (sk r)) (fun r => nI (fk r)) mc mp mm mf md mv mder mkn thr) ((ob, .inl (cL, 1, .inr (.inl u9.1))) : Nat × va_E))
    refine va_calli (va_runV (As := [.int (nI c1), .int (xs (i + 2)), .int (xs (i + 3)), .int (xs (i + 4))]) (rest := []) ⟨hx, hb, hml, hown, hts⟩ (c5_derived_0 l D cI cZ cO cL dt A b nC nR nL nF par wt (fun r => nI (sk r)) (fun r => nI (fk r)) mc mp mm mf md mv mder mkn thr (WD cI cO a FA nC nR nL nF par wt (fun r => nI (sk r)) (fun r => nI (fk r)) hd u9.2.1 u9.2.2 ++ (WF FA (fun k => mc k * 40 + mp k * 4 + mm k) mf md mv nx nF ++ [((ob, .inl (cL, 1, .inr (.inl u9.1))) : Nat × va_E)])) L c1 (xs (i + 2)) (xs (i + 3)) (xs (i + 4)) r9 hF hC12 hcf hmd31 hT hc ((ask_iff hC12 hL8).mpr ⟨⟨⟨c1, rfl, hc⟩, ⟨p1, hp9, hp⟩, ⟨m1, hm9, hm⟩⟩, ⟨f1, hf9, hf⟩⟩) (by rw [hp9, hm9, hf9, dV_congr (fun k hk => hMC h1 h2 h3 (by omega) hp hm) hc]; exact hdv)) (cwV 4 hts gL_law_X5_derived rfl rfl rfl (by decide +kernel) ⟨(Nat.le_of_ble_eq_true rfl), (Nat.le_of_ble_eq_true rfl)⟩) (gP.v (hg.on hS) hP 4 rfl 0 rfl ⟨hP, hD⟩) rfl rfl hl.1 rfl (lv_room (Nat.le_of_ble_eq_true rfl)) dL_law_980 ⟨by show cells + 4 + 0 ≤ 601024; omega, by show slots + 24 + 0 ≤ 7293034; omega⟩) hS (fun q _ h => h) (fun q h => h) (fun b9 u8 t8 H locs ht8 hvm8 hw8 hB8 hz8 hk8 hS => ?_)
    rw [ht8] at hB8
    obtain ⟨hP, hD⟩ := hB8
    have hP : va_P D vwCl (WM cI cZ b nC nR nL nF par wt (fun r => nI (sk r)) (fun r => nI (fk r)) mc mp mm mf md mv u8.2 u8.1 0 ++ (WD cI cO a FA nC nR nL nF par wt (fun r => nI (sk r)) (fun r => nI (fk r)) hd u9.2.1 u9.2.2 ++ (WF FA (fun k => mc k * 40 + mp k * 4 + mm k) mf md mv nx nF ++ [((ob, .inl (cL, 1, .inr (.inl u9.1))) : Nat × va_E)]))) H := hP
    have hD : va_D A (WM cI cZ b nC nR nL nF par wt (fun r => nI (sk r)) (fun r => nI (fk r)) mc mp mm mf md mv u8.2 u8.1 0 ++ (WD cI cO a FA nC nR nL nF par wt (fun r => nI (sk r)) (fun r => nI (fk r)) hd u9.2.1 u9.2.2 ++ (WF FA (fun k => mc k * 40 + mp k * 4 + mm k) mf md mv nx nF ++ [((ob, .inl (cL, 1, .inr (.inl u9.1))) : Nat × va_E)]))) := hD
    refine lv_istore (lv' := [(6, .int b9), (5, .int 0), (4, .int (nI i)), (3, .ref ob), (2, .ref (b 0)), (1, .ref (a 0)), (0, .ref b0)]) hx hb dL_law_983 hl (by decide) rfl (fun ls hl => ?_)
    refine lv_aload_n hx hb dL_law_985 rfl (lv_at hl 4 rfl) ?_
    refine g_csi (va_runV (As := []) (rest := []) ⟨hx, hb, hml, hown, hts⟩ (c5_thrown l D cI cZ cO cL dt A b nC nR nL nF par wt (fun r => nI (sk r)) (fun r => nI (fk r)) mc mp mm mf md mv u8.2 u8.1 0 (WD cI cO a FA nC nR nL nF par wt (fun r => nI (sk r)) (fun r => nI (fk r)) hd u9.2.1 u9.2.2 ++ (WF FA (fun k => mc k * 40 + mp k * 4 + mm k) mf md mv nx nF ++ [((ob, .inl (cL, 1, .inr (.inl u9.1))) : Nat × va_E)]))) (cwV 0 hts gL_law_X5_thrown rfl rfl rfl (by decide +kernel) ⟨(Nat.le_of_ble_eq_true rfl), (Nat.le_of_ble_eq_true rfl)⟩) (gP.v (hg.on hS) hP 4 rfl 0 rfl hP) rfl rfl hl.1 rfl (lv_room (Nat.le_of_ble_eq_true rfl)) dL_law_986 ⟨by show cells + 4 + 0 + 0 ≤ 601024; omega, by show slots + 24 + 0 + 0 ≤ 7293034; omega⟩) (fun t7 ht7 => ?_)
    obtain rfl : t7 = 0 := ht7
    have hP := va_P_perm hP (lperm (WD cI cO a FA nC nR nL nF par wt (fun r => nI (sk r)) (fun r => nI (fk r)) hd u9.2.1 u9.2.2) (WF FA (fun k => mc k * 40 + mp k * 4 + mm k) mf md mv nx nF) (WM cI cZ b nC nR nL nF par wt (fun r => nI (sk r)) (fun r => nI (fk r)) mc mp mm mf md mv u8.2 u8.1 0) ((ob, .inl (cL, 1, .inr (.inl u9.1))) : Nat × va_E)).symm
    have hD := va_D_perm hD (lperm (WD cI cO a FA nC nR nL nF par wt (fun r => nI (sk r)) (fun r => nI (fk r)) hd u9.2.1 u9.2.2) (WF FA (fun k => mc k * 40 + mp k * 4 + mm k) mf md mv nx nF) (WM cI cZ b nC nR nL nF par wt (fun r => nI (sk r)) (fun r => nI (fk r)) mc mp mm mf md mv u8.2 u8.1 0) ((ob, .inl (cL, 1, .inr (.inl u9.1))) : Nat × va_E)).symm
    have hag := congrArg Int32.toInt64 (show r9 = b9 from hw8.symm)
    refine lv_iload hx hb dL_law_989 (lv_at hl 1 rfl) ?_
    refine lv_icmp_eq (tgt := 996) hx hb dL_law_991 (by decide) (fun c_991 => ?_) (fun c_991 => ?_)
    · skip
      refine lv_iload hx hb dL_law_996 (lv_at hl 1 rfl) ?_
      refine lv_if_ne (tgt := 1013) hx hb dL_law_998 (by decide) (fun c_998 => ?_) (fun c_998 => ?_)
      · skip
        exact absurd c_998 (by decide)
      · skip
        refine lv_aload_n hx hb dL_law_1001 rfl (lv_at hl 3 rfl) ?_
        refine lv_iconst (v := 0) hx hb dL_law_1002 (by decide) ?_
        refine va_lald hx hb hK hP (11 + nF) 3 (WDR_at) rfl e_in0 dL_law_1003 ?_
        rw [e_z0, hu9, hag]
        refine lv_iload hx hb dL_law_1004 (lv_at hl 0 rfl) ?_
        refine lv_i2l (v := (b9).toInt64) hx hb dL_law_1006 rfl ?_
        refine W.lcmp hx hb dL_law_1007 ?_
        rw [lg_self]
        refine lv_if_eq (tgt := 1013) hx hb dL_law_1008 (by decide) (fun c_1008 => ?_) (fun c_1008 => ?_)
        · skip
          refine lv_goto (tgt := 1413) hx hb dL_law_1013 (by decide) ?_
          refine W.widen (k := cells + 4) (n := slots + 24) (by omega) (by omega) ?_
          exact kk _ _ _ ⟨FA, nC, nR, nL, nF, par, wt, sk, fk, hd, u9.2.1, u9.2.2, mc, mp, mm, mf, md, mv, nx, u8.2, u8.1, 0, u9.1, L, hOk, hP, hD⟩ hS (lv_sub hl [2, 3, 4, 5, 6] rfl)
        · skip
          exact absurd c_1008 (by decide)
    · skip
      exact absurd c_991 (by decide)
  · skip
    have hB9 : va_P D vwCl (WD cI cO a FA nC nR nL nF par wt (fun r => nI (sk r)) (fun r => nI (fk r)) hd u9.2.1 u9.2.2 ++ (WF FA (fun k => mc k * 40 + mp k * 4 + mm k) mf md mv nx nF ++ ((ob, .inl (cL, 1, .inr (.inl u9.1))) : Nat × va_E) :: WM cI cZ b nC nR nL nF par wt (fun r => nI (sk r)) (fun r => nI (fk r)) mc mp mm mf md mv mder mkn thr)) H ∧ va_D A (WD cI cO a FA nC nR nL nF par wt (fun r => nI (sk r)) (fun r => nI (fk r)) hd u9.2.1 u9.2.2 ++ (WF FA (fun k => mc k * 40 + mp k * 4 + mm k) mf md mv nx nF ++ ((ob, .inl (cL, 1, .inr (.inl u9.1))) : Nat × va_E) :: WM cI cZ b nC nR nL nF par wt (fun r => nI (sk r)) (fun r => nI (fk r)) mc mp mm mf md mv mder mkn thr)) := hB9
    obtain ⟨hP, hD⟩ := hB9
    refine lv_istore (lv' := [(5, .int 1), (4, .int (nI i)), (3, .ref ob), (2, .ref (b 0)), (1, .ref (a 0)), (0, .ref b0)]) hx hb dL_law_953 hl (by decide) rfl (fun ls hl => ?_)
    refine lv_aload_n hx hb dL_law_955 rfl (lv_at hl 3 rfl) ?_
    refine lv_aload_n hx hb dL_law_956 rfl (lv_at hl 5 rfl) ?_
    refine lv_iload hx hb dL_law_957 (lv_at hl 1 rfl) ?_
    refine lv_iconst (v := 1) hx hb dL_law_959 (by decide) ?_
    refine lv_iadd hx hb dL_law_960 ?_
    refine lv_topi (fun dv edv => ?_)
    obtain rfl : dv = nI (i + 1) := by rw [edv]; exact nI_add i 1
    refine va_sld hx hb hX hb0 hbA hS (vp_in_nI (n := (i + 1)) (by omega) (by omega)) dL_law_961 ?_
    rw [nI_clamp (by omega)]
    refine lv_aload_n hx hb dL_law_962 rfl (lv_at hl 5 rfl) ?_
    refine lv_iload hx hb dL_law_963 (lv_at hl 1 rfl) ?_
    refine lv_iconst (v := 2) hx hb dL_law_965 (by decide) ?_
    refine lv_iadd hx hb dL_law_966 ?_
    refine lv_topi (fun dv edv => ?_)
    obtain rfl : dv = nI (i + 2) := by rw [edv]; exact nI_add i 2
    refine va_sld hx hb hX hb0 hbA hS (vp_in_nI (n := (i + 2)) (by omega) (by omega)) dL_law_967 ?_
    rw [nI_clamp (by omega)]
    refine lv_aload_n hx hb dL_law_968 rfl (lv_at hl 5 rfl) ?_
    refine lv_iload hx hb dL_law_969 (lv_at hl 1 rfl) ?_
    refine lv_iconst (v := 3) hx hb dL_law_971 (by decide) ?_
    refine lv_iadd hx hb dL_law_972 ?_
    refine lv_topi (fun dv edv => ?_)
    obtain rfl : dv = nI (i + 3) := by rw [edv]; exact nI_add i 3
    refine va_sld hx hb hX hb0 hbA hS (vp_in_nI (n := (i + 3)) (by omega) (by omega)) dL_law_973 ?_
    rw [nI_clamp (by omega)]
    refine lv_aload_n hx hb dL_law_974 rfl (lv_at hl 5 rfl) ?_
    refine lv_iload hx hb dL_law_975 (lv_at hl 1 rfl) ?_
    refine lv_iconst (v := 4) hx hb dL_law_977 (by decide) ?_
    refine lv_iadd hx hb dL_law_978 ?_
    refine lv_topi (fun dv edv => ?_)
    obtain rfl : dv = nI (i + 4) := by rw [edv]; exact nI_add i 4
    refine va_sld hx hb hX hb0 hbA hS (vp_in_nI (n := (i + 4)) (by omega) (by omega)) dL_law_979 ?_
    rw [nI_clamp (by omega)]
    have hP := va_P_perm hP (lperm (WD cI cO a FA nC nR nL nF par wt (fun r => nI (sk r)) (fun r => nI (fk r)) hd u9.2.1 u9.2.2) (WF FA (fun k => mc k * 40 + mp k * 4 + mm k) mf md mv nx nF) (WM cI cZ b nC nR nL nF par wt (fun r => nI (sk r)) (fun r => nI (fk r)) mc mp mm mf md mv mder mkn thr) ((ob, .inl (cL, 1, .inr (.inl u9.1))) : Nat × va_E))
    have hD := va_D_perm hD (lperm (WD cI cO a FA nC nR nL nF par wt (fun r => nI (sk r)) (fun r => nI (fk r)) hd u9.2.1 u9.2.2) (WF FA (fun k => mc k * 40 + mp k * 4 + mm k) mf md mv nx nF) (WM cI cZ b nC nR nL nF par wt (fun r => nI (sk r)) (fun r => nI (fk r)) mc mp mm mf md mv mder mkn thr) ((ob, .inl (cL, 1, .inr (.inl u9.1))) : Nat × va_E))
    refine va_calli (va_runV (As := [.int (xs (i + 1)), .int (xs (i + 2)), .int (xs (i + 3)), .int (xs (i + 4))]) (rest := []) ⟨hx, hb, hml, hown, hts⟩ (c5_derived_1 l D cI cZ cO cL dt A b nC nR nL nF par wt (fun r => nI (sk r)) (fun r => nI (fk r)) mc mp mm mf md mv mder mkn thr (WD cI cO a FA nC nR nL nF par wt (fun r => nI (sk r)) (fun r => nI (fk r)) hd u9.2.1 u9.2.2 ++ (WF FA (fun k => mc k * 40 + mp k * 4 + mm k) mf md mv nx nF ++ [((ob, .inl (cL, 1, .inr (.inl u9.1))) : Nat × va_E)])) (xs (i + 1)) (xs (i + 2)) (xs (i + 3)) (xs (i + 4)) (kNo_ask hC12 hL8 hR9)) (cwV 4 hts gL_law_X5_derived rfl rfl rfl (by decide +kernel) ⟨(Nat.le_of_ble_eq_true rfl), (Nat.le_of_ble_eq_true rfl)⟩) (gP.v (hg.on hS) hP 4 rfl 0 rfl ⟨hP, hD⟩) rfl rfl hl.1 rfl (lv_room (Nat.le_of_ble_eq_true rfl)) dL_law_980 ⟨by show cells + 4 + 0 ≤ 601024; omega, by show slots + 24 + 0 ≤ 7293034; omega⟩) hS (fun q _ h => h) (fun q h => h) (fun b9 u8 t8 H locs ht8 hvm8 hw8 hB8 hz8 hk8 hS => ?_)
    rw [ht8] at hB8
    obtain ⟨hP, hD⟩ := hB8
    have hP : va_P D vwCl (WM cI cZ b nC nR nL nF par wt (fun r => nI (sk r)) (fun r => nI (fk r)) mc mp mm mf md mv mder mkn 1 ++ (WD cI cO a FA nC nR nL nF par wt (fun r => nI (sk r)) (fun r => nI (fk r)) hd u9.2.1 u9.2.2 ++ (WF FA (fun k => mc k * 40 + mp k * 4 + mm k) mf md mv nx nF ++ [((ob, .inl (cL, 1, .inr (.inl u9.1))) : Nat × va_E)]))) H := hP
    have hD : va_D A (WM cI cZ b nC nR nL nF par wt (fun r => nI (sk r)) (fun r => nI (fk r)) mc mp mm mf md mv mder mkn 1 ++ (WD cI cO a FA nC nR nL nF par wt (fun r => nI (sk r)) (fun r => nI (fk r)) hd u9.2.1 u9.2.2 ++ (WF FA (fun k => mc k * 40 + mp k * 4 + mm k) mf md mv nx nF ++ [((ob, .inl (cL, 1, .inr (.inl u9.1))) : Nat × va_E)]))) := hD
    refine lv_istore (lv' := [(6, .int b9), (5, .int 1), (4, .int (nI i)), (3, .ref ob), (2, .ref (b 0)), (1, .ref (a 0)), (0, .ref b0)]) hx hb dL_law_983 hl (by decide) rfl (fun ls hl => ?_)
    refine lv_aload_n hx hb dL_law_985 rfl (lv_at hl 4 rfl) ?_
    refine g_csi (va_runV (As := []) (rest := []) ⟨hx, hb, hml, hown, hts⟩ (c5_thrown l D cI cZ cO cL dt A b nC nR nL nF par wt (fun r => nI (sk r)) (fun r => nI (fk r)) mc mp mm mf md mv mder mkn 1 (WD cI cO a FA nC nR nL nF par wt (fun r => nI (sk r)) (fun r => nI (fk r)) hd u9.2.1 u9.2.2 ++ (WF FA (fun k => mc k * 40 + mp k * 4 + mm k) mf md mv nx nF ++ [((ob, .inl (cL, 1, .inr (.inl u9.1))) : Nat × va_E)]))) (cwV 0 hts gL_law_X5_thrown rfl rfl rfl (by decide +kernel) ⟨(Nat.le_of_ble_eq_true rfl), (Nat.le_of_ble_eq_true rfl)⟩) (gP.v (hg.on hS) hP 4 rfl 0 rfl hP) rfl rfl hl.1 rfl (lv_room (Nat.le_of_ble_eq_true rfl)) dL_law_986 ⟨by show cells + 4 + 0 + 0 ≤ 601024; omega, by show slots + 24 + 0 + 0 ≤ 7293034; omega⟩) (fun t7 ht7 => ?_)
    obtain rfl : t7 = 1 := ht7
    have hP := va_P_perm hP (lperm (WD cI cO a FA nC nR nL nF par wt (fun r => nI (sk r)) (fun r => nI (fk r)) hd u9.2.1 u9.2.2) (WF FA (fun k => mc k * 40 + mp k * 4 + mm k) mf md mv nx nF) (WM cI cZ b nC nR nL nF par wt (fun r => nI (sk r)) (fun r => nI (fk r)) mc mp mm mf md mv mder mkn 1) ((ob, .inl (cL, 1, .inr (.inl u9.1))) : Nat × va_E)).symm
    have hD := va_D_perm hD (lperm (WD cI cO a FA nC nR nL nF par wt (fun r => nI (sk r)) (fun r => nI (fk r)) hd u9.2.1 u9.2.2) (WF FA (fun k => mc k * 40 + mp k * 4 + mm k) mf md mv nx nF) (WM cI cZ b nC nR nL nF par wt (fun r => nI (sk r)) (fun r => nI (fk r)) mc mp mm mf md mv mder mkn 1) ((ob, .inl (cL, 1, .inr (.inl u9.1))) : Nat × va_E)).symm
    refine lv_iload hx hb dL_law_989 (lv_at hl 1 rfl) ?_
    refine lv_icmp_eq (tgt := 996) hx hb dL_law_991 (by decide) (fun c_991 => ?_) (fun c_991 => ?_)
    · skip
      refine lv_iload hx hb dL_law_996 (lv_at hl 1 rfl) ?_
      refine lv_if_ne (tgt := 1013) hx hb dL_law_998 (by decide) (fun c_998 => ?_) (fun c_998 => ?_)
      · skip
        refine lv_goto (tgt := 1413) hx hb dL_law_1013 (by decide) ?_
        refine W.widen (k := cells + 4) (n := slots + 24) (by omega) (by omega) ?_
        exact kk _ _ _ ⟨FA, nC, nR, nL, nF, par, wt, sk, fk, hd, u9.2.1, u9.2.2, mc, mp, mm, mf, md, mv, nx, mder, mkn, 1, u9.1, L, hOk, hP, hD⟩ hS (lv_sub hl [2, 3, 4, 5, 6] rfl)
      · skip
        exact absurd c_998 (by decide)
    · skip
      exact absurd c_991 (by decide)
  · skip
    have hB9 : va_P D vwCl (WD cI cO a FA nC nR nL nF par wt (fun r => nI (sk r)) (fun r => nI (fk r)) hd u9.2.1 u9.2.2 ++ (WF FA (fun k => mc k * 40 + mp k * 4 + mm k) mf md mv nx nF ++ ((ob, .inl (cL, 1, .inr (.inl u9.1))) : Nat × va_E) :: WM cI cZ b nC nR nL nF par wt (fun r => nI (sk r)) (fun r => nI (fk r)) mc mp mm mf md mv mder mkn thr)) H ∧ va_D A (WD cI cO a FA nC nR nL nF par wt (fun r => nI (sk r)) (fun r => nI (fk r)) hd u9.2.1 u9.2.2 ++ (WF FA (fun k => mc k * 40 + mp k * 4 + mm k) mf md mv nx nF ++ ((ob, .inl (cL, 1, .inr (.inl u9.1))) : Nat × va_E) :: WM cI cZ b nC nR nL nF par wt (fun r => nI (sk r)) (fun r => nI (fk r)) mc mp mm mf md mv mder mkn thr)) := hB9
    obtain ⟨hP, hD⟩ := hB9
    obtain ⟨c1, p1, m1, f1, hv9, hdv⟩ := hR9
    have hvv := hv9
    obtain ⟨⟨hc9, hc⟩, ⟨hp9, hp⟩, ⟨hm9, hm⟩, ⟨hf9, hf⟩⟩ := hv9
    refine lv_istore (lv' := [(5, .int 2), (4, .int (nI i)), (3, .ref ob), (2, .ref (b 0)), (1, .ref (a 0)), (0, .ref b0)]) hx hb dL_law_953 hl (by decide) rfl (fun ls hl => ?_)
    refine lv_aload_n hx hb dL_law_955 rfl (lv_at hl 3 rfl) ?_
    refine lv_aload_n hx hb dL_law_956 rfl (lv_at hl 5 rfl) ?_
    refine lv_iload hx hb dL_law_957 (lv_at hl 1 rfl) ?_
    refine lv_iconst (v := 1) hx hb dL_law_959 (by decide) ?_
    refine lv_iadd hx hb dL_law_960 ?_
    refine lv_topi (fun dv edv => ?_)
    obtain rfl : dv = nI (i + 1) := by rw [edv]; exact nI_add i 1
    refine va_sld hx hb hX hb0 hbA hS (vp_in_nI (n := (i + 1)) (by omega) (by omega)) dL_law_961 ?_
    rw [nI_clamp (by omega)]
    rw [hc9]
    refine lv_aload_n hx hb dL_law_962 rfl (lv_at hl 5 rfl) ?_
    refine lv_iload hx hb dL_law_963 (lv_at hl 1 rfl) ?_
    refine lv_iconst (v := 2) hx hb dL_law_965 (by decide) ?_
    refine lv_iadd hx hb dL_law_966 ?_
    refine lv_topi (fun dv edv => ?_)
    obtain rfl : dv = nI (i + 2) := by rw [edv]; exact nI_add i 2
    refine va_sld hx hb hX hb0 hbA hS (vp_in_nI (n := (i + 2)) (by omega) (by omega)) dL_law_967 ?_
    rw [nI_clamp (by omega)]
    refine lv_aload_n hx hb dL_law_968 rfl (lv_at hl 5 rfl) ?_
    refine lv_iload hx hb dL_law_969 (lv_at hl 1 rfl) ?_
    refine lv_iconst (v := 3) hx hb dL_law_971 (by decide) ?_
    refine lv_iadd hx hb dL_law_972 ?_
    refine lv_topi (fun dv edv => ?_)
    obtain rfl : dv = nI (i + 3) := by rw [edv]; exact nI_add i 3
    refine va_sld hx hb hX hb0 hbA hS (vp_in_nI (n := (i + 3)) (by omega) (by omega)) dL_law_973 ?_
    rw [nI_clamp (by omega)]
    refine lv_aload_n hx hb dL_law_974 rfl (lv_at hl 5 rfl) ?_
    refine lv_iload hx hb dL_law_975 (lv_at hl 1 rfl) ?_
    refine lv_iconst (v := 4) hx hb dL_law_977 (by decide) ?_
    refine lv_iadd hx hb dL_law_978 ?_
    refine lv_topi (fun dv edv => ?_)
    obtain rfl : dv = nI (i + 4) := by rw [edv]; exact nI_add i 4
    refine va_sld hx hb hX hb0 hbA hS (vp_in_nI (n := (i + 4)) (by omega) (by omega)) dL_law_979 ?_
    rw [nI_clamp (by omega)]
    have hP := va_P_perm hP (lperm (WD cI cO a FA nC nR nL nF par wt (fun r => nI (sk r)) (fun r => nI (fk r)) hd u9.2.1 u9.2.2) (WF FA (fun k => mc k * 40 + mp k * 4 + mm k) mf md mv nx nF) (WM cI cZ b nC nR nL nF par wt (fun r => nI (sk r)) (fun r => nI (fk r)) mc mp mm mf md mv mder mkn thr) ((ob, .inl (cL, 1, .inr (.inl u9.1))) : Nat × va_E))
    have hD := va_D_perm hD (lperm (WD cI cO a FA nC nR nL nF par wt (fun r => nI (sk r)) (fun r => nI (fk r)) hd u9.2.1 u9.2.2) (WF FA (fun k => mc k * 40 + mp k * 4 + mm k) mf md mv nx nF) (WM cI cZ b nC nR nL nF par wt (fun r => nI (sk r)) (fun r => nI (fk r)) mc mp mm mf md mv mder mkn thr) ((ob, .inl (cL, 1, .inr (.inl u9.1))) : Nat × va_E))
    refine va_calli (va_runV (As := [.int (nI c1), .int (xs (i + 2)), .int (xs (i + 3)), .int (xs (i + 4))]) (rest := []) ⟨hx, hb, hml, hown, hts⟩ (c5_derived_2 l D cI cZ cO cL dt A b nC nR nL nF par wt (fun r => nI (sk r)) (fun r => nI (fk r)) mc mp mm mf md mv mder mkn thr (WD cI cO a FA nC nR nL nF par wt (fun r => nI (sk r)) (fun r => nI (fk r)) hd u9.2.1 u9.2.2 ++ (WF FA (fun k => mc k * 40 + mp k * 4 + mm k) mf md mv nx nF ++ [((ob, .inl (cL, 1, .inr (.inl u9.1))) : Nat × va_E)])) L c1 (xs (i + 2)) (xs (i + 3)) (xs (i + 4)) hF hC12 hcf hmd31 hT hc ((ask_iff hC12 hL8).mpr ⟨⟨⟨c1, rfl, hc⟩, ⟨p1, hp9, hp⟩, ⟨m1, hm9, hm⟩⟩, ⟨f1, hf9, hf⟩⟩) (by rw [hp9, hm9, hf9, dV_congr (fun k hk => hMC h1 h2 h3 (by omega) hp hm) hc]; exact hdv)) (cwV 4 hts gL_law_X5_derived rfl rfl rfl (by decide +kernel) ⟨(Nat.le_of_ble_eq_true rfl), (Nat.le_of_ble_eq_true rfl)⟩) (gP.v (hg.on hS) hP 4 rfl 0 rfl ⟨hP, hD⟩) rfl rfl hl.1 rfl (lv_room (Nat.le_of_ble_eq_true rfl)) dL_law_980 ⟨by show cells + 4 + 0 ≤ 601024; omega, by show slots + 24 + 0 ≤ 7293034; omega⟩) hS (fun q _ h => h) (fun q h => h) (fun b9 u8 t8 H locs ht8 hvm8 hw8 hB8 hz8 hk8 hS => ?_)
    rw [ht8] at hB8
    obtain ⟨hP, hD⟩ := hB8
    have hP : va_P D vwCl (WM cI cZ b nC nR nL nF par wt (fun r => nI (sk r)) (fun r => nI (fk r)) mc mp mm mf md mv u8.2 u8.1 2 ++ (WD cI cO a FA nC nR nL nF par wt (fun r => nI (sk r)) (fun r => nI (fk r)) hd u9.2.1 u9.2.2 ++ (WF FA (fun k => mc k * 40 + mp k * 4 + mm k) mf md mv nx nF ++ [((ob, .inl (cL, 1, .inr (.inl u9.1))) : Nat × va_E)]))) H := hP
    have hD : va_D A (WM cI cZ b nC nR nL nF par wt (fun r => nI (sk r)) (fun r => nI (fk r)) mc mp mm mf md mv u8.2 u8.1 2 ++ (WD cI cO a FA nC nR nL nF par wt (fun r => nI (sk r)) (fun r => nI (fk r)) hd u9.2.1 u9.2.2 ++ (WF FA (fun k => mc k * 40 + mp k * 4 + mm k) mf md mv nx nF ++ [((ob, .inl (cL, 1, .inr (.inl u9.1))) : Nat × va_E)]))) := hD
    refine lv_istore (lv' := [(6, .int b9), (5, .int 2), (4, .int (nI i)), (3, .ref ob), (2, .ref (b 0)), (1, .ref (a 0)), (0, .ref b0)]) hx hb dL_law_983 hl (by decide) rfl (fun ls hl => ?_)
    refine lv_aload_n hx hb dL_law_985 rfl (lv_at hl 4 rfl) ?_
    refine g_csi (va_runV (As := []) (rest := []) ⟨hx, hb, hml, hown, hts⟩ (c5_thrown l D cI cZ cO cL dt A b nC nR nL nF par wt (fun r => nI (sk r)) (fun r => nI (fk r)) mc mp mm mf md mv u8.2 u8.1 2 (WD cI cO a FA nC nR nL nF par wt (fun r => nI (sk r)) (fun r => nI (fk r)) hd u9.2.1 u9.2.2 ++ (WF FA (fun k => mc k * 40 + mp k * 4 + mm k) mf md mv nx nF ++ [((ob, .inl (cL, 1, .inr (.inl u9.1))) : Nat × va_E)]))) (cwV 0 hts gL_law_X5_thrown rfl rfl rfl (by decide +kernel) ⟨(Nat.le_of_ble_eq_true rfl), (Nat.le_of_ble_eq_true rfl)⟩) (gP.v (hg.on hS) hP 4 rfl 0 rfl hP) rfl rfl hl.1 rfl (lv_room (Nat.le_of_ble_eq_true rfl)) dL_law_986 ⟨by show cells + 4 + 0 + 0 ≤ 601024; omega, by show slots + 24 + 0 + 0 ≤ 7293034; omega⟩) (fun t7 ht7 => ?_)
    obtain rfl : t7 = 2 := ht7
    have hP := va_P_perm hP (lperm (WD cI cO a FA nC nR nL nF par wt (fun r => nI (sk r)) (fun r => nI (fk r)) hd u9.2.1 u9.2.2) (WF FA (fun k => mc k * 40 + mp k * 4 + mm k) mf md mv nx nF) (WM cI cZ b nC nR nL nF par wt (fun r => nI (sk r)) (fun r => nI (fk r)) mc mp mm mf md mv u8.2 u8.1 2) ((ob, .inl (cL, 1, .inr (.inl u9.1))) : Nat × va_E)).symm
    have hD := va_D_perm hD (lperm (WD cI cO a FA nC nR nL nF par wt (fun r => nI (sk r)) (fun r => nI (fk r)) hd u9.2.1 u9.2.2) (WF FA (fun k => mc k * 40 + mp k * 4 + mm k) mf md mv nx nF) (WM cI cZ b nC nR nL nF par wt (fun r => nI (sk r)) (fun r => nI (fk r)) mc mp mm mf md mv u8.2 u8.1 2) ((ob, .inl (cL, 1, .inr (.inl u9.1))) : Nat × va_E)).symm
    refine lv_iload hx hb dL_law_989 (lv_at hl 1 rfl) ?_
    refine lv_icmp_eq (tgt := 996) hx hb dL_law_991 (by decide) (fun c_991 => ?_) (fun c_991 => ?_)
    · skip
      refine lv_iload hx hb dL_law_996 (lv_at hl 1 rfl) ?_
      refine lv_if_ne (tgt := 1013) hx hb dL_law_998 (by decide) (fun c_998 => ?_) (fun c_998 => ?_)
      · skip
        refine lv_goto (tgt := 1413) hx hb dL_law_1013 (by decide) ?_
        refine W.widen (k := cells + 4) (n := slots + 24) (by omega) (by omega) ?_
        exact kk _ _ _ ⟨FA, nC, nR, nL, nF, par, wt, sk, fk, hd, u9.2.1, u9.2.2, mc, mp, mm, mf, md, mv, nx, u8.2, u8.1, 2, u9.1, L, hOk, hP, hD⟩ hS (lv_sub hl [2, 3, 4, 5, 6] rfl)
      · skip
        exact absurd c_998 (by decide)
    · skip
      exact absurd c_991 (by decide)
set_option maxHeartbeats 4000000 in
set_option maxRecDepth 100000 in
/-- the case of tell -/
theorem lw_tell (l : Launch) (hlt : l.stackTraces = false) {D : va_G} {cI cZ cO cL : ClassId} {dt : Nat} {A : Nat → Prop} {a b : Nat → Nat} {ob b0 i Ls cells slots : Nat} {xs : Nat → Int32} {p9 : Program} {e9 : Env} {s : State} {m9 : MethodId} {args : Array Value} {below : List Frame} {meth : Method} {c9 : Code} {H : Heap} {locs : List Loc} {ls : Array Slot} {Q : State → Prop}
    (hx : p9.tables.exec = Jvm.exec) (hb : c9.code = cL_law) (hml : c9.maxLocals = 7) (hown : s.vm.findClass RL = some m9.cls) (hts : ∀ w ∈ wsL_law, w.before args s = true) (hg : gG D cI cZ cO cL dt A s s.heap) (hX : va_X b0 Ls xs s s.heap) (hb0 : b0 < s.heap.size) (hbA : ¬ A b0) (hi : i + 6 ≤ Ls) (hLs : Ls ≤ 3072)
    (hI : lInv D cI cZ cO cL A a b ob H) (hS : va_S A s.heap H locs) (hl : lv_has ls 7 [(4, .int (nI i)), (3, .ref ob), (2, .ref (b 0)), (1, .ref (a 0)), (0, .ref b0)]) (hcc : cells + 4 ≤ 601024) (hss : slots + 24 ≤ 7293034)
    (kk : ∀ (H : Heap) (locs : List Loc) (ls : Array Slot), lInv D cI cZ cO cL A a b ob H → va_S A s.heap H locs → lv_has ls 7 [(4, .int (nI i)), (3, .ref ob), (2, .ref (b 0)), (1, .ref (a 0)), (0, .ref b0)] → W p9 l e9 room_1 s m9 args below meth c9 H locs (cells + 4) (slots + 24) Q (F0 m9 1413 ls [])) :
    W p9 l e9 room_1 s m9 args below meth c9 H locs cells slots Q (F0 m9 432 ls []) := by
  obtain ⟨FA, nC, nR, nL, nF, par, wt, sk, fk, hd, rea, sig, mc, mp, mm, mf, md, mv, nx, mder, mkn, thr, ov, L, hOk, hP, hD⟩ := hI
  obtain ⟨⟨hC12, hR5, hL8, hF⟩, ⟨hT, hwt⟩, ⟨hsk12, hfk12, hskC⟩, ⟨hCh, hH, hN, hfL⟩, h1, h2, h3, h4, hmd, hmv, h7⟩ := id hOk
  have hK := hg.1
  have hck : ∀ k, mc k * 40 + mp k * 4 + mm k < 480 := fun k => by have := h1 k; have := h2 k; have := h3 k; omega
  have hcf : ∀ k, mf k < 2 ^ 31 := fun k => by have := h4 k; omega
  have hmd31 : ∀ k, md k < 2 ^ 31 := fun k => by have := hmd k; omega
  have hP : va_P D vwCl (WD cI cO a FA nC nR nL nF par wt (fun r => nI (sk r)) (fun r => nI (fk r)) hd rea sig ++ (WF FA (fun k => mc k * 40 + mp k * 4 + mm k) mf md mv nx nF ++ ((ob, .inl (cL, 1, .inr (.inl ov))) : Nat × va_E) :: WM cI cZ b nC nR nL nF par wt (fun r => nI (sk r)) (fun r => nI (fk r)) mc mp mm mf md mv mder mkn thr)) H := hP
  have hD : va_D A (WD cI cO a FA nC nR nL nF par wt (fun r => nI (sk r)) (fun r => nI (fk r)) hd rea sig ++ (WF FA (fun k => mc k * 40 + mp k * 4 + mm k) mf md mv nx nF ++ ((ob, .inl (cL, 1, .inr (.inl ov))) : Nat × va_E) :: WM cI cZ b nC nR nL nF par wt (fun r => nI (sk r)) (fun r => nI (fk r)) mc mp mm mf md mv mder mkn thr)) := hD
  refine lv_aload_n hx hb dL_law_432 rfl (lv_at hl 3 rfl) ?_
  refine lv_aload_n hx hb dL_law_433 rfl (lv_at hl 4 rfl) ?_
  refine lv_iload hx hb dL_law_434 (lv_at hl 0 rfl) ?_
  refine lv_iconst (v := 1) hx hb dL_law_436 (by decide) ?_
  refine lv_iadd hx hb dL_law_437 ?_
  refine lv_topi (fun dv edv => ?_)
  obtain rfl : dv = nI (i + 1) := by rw [edv]; exact nI_add i 1
  refine va_sld hx hb hX hb0 hbA hS (vp_in_nI (n := (i + 1)) (by omega) (by omega)) dL_law_438 ?_
  rw [nI_clamp (by omega)]
  refine lv_aload_n hx hb dL_law_439 rfl (lv_at hl 4 rfl) ?_
  refine lv_iload hx hb dL_law_440 (lv_at hl 0 rfl) ?_
  refine lv_iconst (v := 2) hx hb dL_law_442 (by decide) ?_
  refine lv_iadd hx hb dL_law_443 ?_
  refine lv_topi (fun dv edv => ?_)
  obtain rfl : dv = nI (i + 2) := by rw [edv]; exact nI_add i 2
  refine va_sld hx hb hX hb0 hbA hS (vp_in_nI (n := (i + 2)) (by omega) (by omega)) dL_law_444 ?_
  rw [nI_clamp (by omega)]
  refine lv_aload_n hx hb dL_law_445 rfl (lv_at hl 4 rfl) ?_
  refine lv_iload hx hb dL_law_446 (lv_at hl 0 rfl) ?_
  refine lv_iconst (v := 3) hx hb dL_law_448 (by decide) ?_
  refine lv_iadd hx hb dL_law_449 ?_
  refine lv_topi (fun dv edv => ?_)
  obtain rfl : dv = nI (i + 3) := by rw [edv]; exact nI_add i 3
  refine va_sld hx hb hX hb0 hbA hS (vp_in_nI (n := (i + 3)) (by omega) (by omega)) dL_law_450 ?_
  rw [nI_clamp (by omega)]
  refine lv_aload_n hx hb dL_law_451 rfl (lv_at hl 4 rfl) ?_
  refine lv_iload hx hb dL_law_452 (lv_at hl 0 rfl) ?_
  refine lv_iconst (v := 4) hx hb dL_law_454 (by decide) ?_
  refine lv_iadd hx hb dL_law_455 ?_
  refine lv_topi (fun dv edv => ?_)
  obtain rfl : dv = nI (i + 4) := by rw [edv]; exact nI_add i 4
  refine va_sld hx hb hX hb0 hbA hS (vp_in_nI (n := (i + 4)) (by omega) (by omega)) dL_law_456 ?_
  rw [nI_clamp (by omega)]
  refine lv_aload_n hx hb dL_law_457 rfl (lv_at hl 4 rfl) ?_
  refine lv_iload hx hb dL_law_458 (lv_at hl 0 rfl) ?_
  refine lv_iconst (v := 5) hx hb dL_law_460 (by decide) ?_
  refine lv_iadd hx hb dL_law_461 ?_
  refine lv_topi (fun dv edv => ?_)
  obtain rfl : dv = nI (i + 5) := by rw [edv]; exact nI_add i 5
  refine va_sld hx hb hX hb0 hbA hS (vp_in_nI (n := (i + 5)) (by omega) (by omega)) dL_law_462 ?_
  rw [nI_clamp (by omega)]
  refine lv_aload_n hx hb dL_law_463 rfl (lv_at hl 1 rfl) ?_
  refine va_calli (vx_runSW (hh := [(0, 16, 19, 19), (0, 16, 23, 21), (0, 16, 27, 13)]) (As := [.ref (a 0), .int (xs (i + 1)), .int (xs (i + 2)), .int (xs (i + 3)), .int (xs (i + 4)), .int (xs (i + 5)), .ref ob]) (rest := []) ⟨hx, hb, hml, hown, hts⟩ (kL_tell l D cI cZ cO cL dt A a FA nC nR nL nF par wt (fun r => nI (sk r)) (fun r => nI (fk r)) hd rea sig (fun k => mc k * 40 + mp k * 4 + mm k) mf md mv nx (WM cI cZ b nC nR nL nF par wt (fun r => nI (sk r)) (fun r => nI (fk r)) mc mp mm mf md mv mder mkn thr) ob ov (xs (i + 1)) (xs (i + 2)) (xs (i + 3)) (xs (i + 4)) (xs (i + 5)) hlt hC12 hL8 hF hcf hmd hCh hH hN) (vx_cwSW 7 hts gL_law_L_tell rfl rfl rfl (by decide +kernel) ⟨(Nat.le_of_ble_eq_true rfl), (Nat.le_of_ble_eq_true rfl)⟩) (gP.s (hg.on hS) ⟨hP, hD⟩) rfl rfl hl.1 rfl (lv_room (Nat.le_of_ble_eq_true rfl)) dL_law_464 ⟨by show cells + 4 ≤ 601024; omega, by show slots + 23 ≤ 7293034; omega⟩) hS (fun q _ h => h) (fun q h => h) (fun k9 u9 t9 H locs ht9 hvm9 hw9 hB9 hz9 hk9 hS => ?_)
  rw [ht9] at hB9
  obtain ⟨ov9, ux⟩ := u9
  rcases hw9 with ⟨rfl, r9, x, hx9, hu9, hpost⟩ | ⟨hx9, (⟨rfl, hR9⟩ | ⟨rfl, hR9⟩ | ⟨rfl, hR9⟩)⟩
  · skip
    obtain rfl : ux = some x := hx9
    have hu9 : ov9 0 = _ := hu9
    have hB9 : va_P D vwCl (WD cI cO a (va_up FA nF x.2.1) nC nR nL (nF + 1) par wt (fun r => nI (sk r)) (fun r => nI (fk r)) x.2.2.1 rea sig ++ (WF (va_up FA nF x.2.1) (va_up (fun k => mc k * 40 + mp k * 4 + mm k) nF (x.1.1.1 * 40 + x.1.1.2 * 4 + x.1.2.1)) (va_up mf nF nL) (va_up md nF x.1.2.2) (upd mv nF (xs (i + 4))) x.2.2.2 (nF + 1) ++ ((ob, .inl (cL, 1, .inr (.inl ov9))) : Nat × va_E) :: WM cI cZ b nC nR nL nF par wt (fun r => nI (sk r)) (fun r => nI (fk r)) mc mp mm mf md mv mder mkn thr)) H ∧ va_D A (WD cI cO a (va_up FA nF x.2.1) nC nR nL (nF + 1) par wt (fun r => nI (sk r)) (fun r => nI (fk r)) x.2.2.1 rea sig ++ (WF (va_up FA nF x.2.1) (va_up (fun k => mc k * 40 + mp k * 4 + mm k) nF (x.1.1.1 * 40 + x.1.1.2 * 4 + x.1.2.1)) (va_up mf nF nL) (va_up md nF x.1.2.2) (upd mv nF (xs (i + 4))) x.2.2.2 (nF + 1) ++ ((ob, .inl (cL, 1, .inr (.inl ov9))) : Nat × va_E) :: WM cI cZ b nC nR nL nF par wt (fun r => nI (sk r)) (fun r => nI (fk r)) mc mp mm mf md mv mder mkn thr)) := hB9
    obtain ⟨hP, hD⟩ := hB9
    obtain ⟨⟨hc9, hc⟩, ⟨hp9, hp⟩, ⟨hm9, hm⟩, hv, ⟨hd9, hd9b⟩, h80, rfl, hlk⟩ := hpost
    refine lv_istore (lv' := [(5, .int 0), (4, .int (nI i)), (3, .ref ob), (2, .ref (b 0)), (1, .ref (a 0)), (0, .ref b0)]) hx hb dL_law_467 hl (by decide) rfl (fun ls hl => ?_)
    refine lv_aload_n hx hb dL_law_469 rfl (lv_at hl 3 rfl) ?_
    refine lv_aload_n hx hb dL_law_470 rfl (lv_at hl 5 rfl) ?_
    refine lv_iload hx hb dL_law_471 (lv_at hl 1 rfl) ?_
    refine lv_iconst (v := 1) hx hb dL_law_473 (by decide) ?_
    refine lv_iadd hx hb dL_law_474 ?_
    refine lv_topi (fun dv edv => ?_)
    obtain rfl : dv = nI (i + 1) := by rw [edv]; exact nI_add i 1
    refine va_sld hx hb hX hb0 hbA hS (vp_in_nI (n := (i + 1)) (by omega) (by omega)) dL_law_475 ?_
    rw [nI_clamp (by omega)]
    rw [hc9]
    refine lv_aload_n hx hb dL_law_476 rfl (lv_at hl 5 rfl) ?_
    refine lv_iload hx hb dL_law_477 (lv_at hl 1 rfl) ?_
    refine lv_iconst (v := 2) hx hb dL_law_479 (by decide) ?_
    refine lv_iadd hx hb dL_law_480 ?_
    refine lv_topi (fun dv edv => ?_)
    obtain rfl : dv = nI (i + 2) := by rw [edv]; exact nI_add i 2
    refine va_sld hx hb hX hb0 hbA hS (vp_in_nI (n := (i + 2)) (by omega) (by omega)) dL_law_481 ?_
    rw [nI_clamp (by omega)]
    rw [hp9]
    refine lv_aload_n hx hb dL_law_482 rfl (lv_at hl 5 rfl) ?_
    refine lv_iload hx hb dL_law_483 (lv_at hl 1 rfl) ?_
    refine lv_iconst (v := 3) hx hb dL_law_485 (by decide) ?_
    refine lv_iadd hx hb dL_law_486 ?_
    refine lv_topi (fun dv edv => ?_)
    obtain rfl : dv = nI (i + 3) := by rw [edv]; exact nI_add i 3
    refine va_sld hx hb hX hb0 hbA hS (vp_in_nI (n := (i + 3)) (by omega) (by omega)) dL_law_487 ?_
    rw [nI_clamp (by omega)]
    rw [hm9]
    refine lv_aload_n hx hb dL_law_488 rfl (lv_at hl 5 rfl) ?_
    refine lv_iload hx hb dL_law_489 (lv_at hl 1 rfl) ?_
    refine lv_iconst (v := 4) hx hb dL_law_491 (by decide) ?_
    refine lv_iadd hx hb dL_law_492 ?_
    refine lv_topi (fun dv edv => ?_)
    obtain rfl : dv = nI (i + 4) := by rw [edv]; exact nI_add i 4
    refine va_sld hx hb hX hb0 hbA hS (vp_in_nI (n := (i + 4)) (by omega) (by omega)) dL_law_493 ?_
    rw [nI_clamp (by omega)]
    refine lv_aload_n hx hb dL_law_494 rfl (lv_at hl 5 rfl) ?_
    refine lv_iload hx hb dL_law_495 (lv_at hl 1 rfl) ?_
    refine lv_iconst (v := 5) hx hb dL_law_497 (by decide) ?_
    refine lv_iadd hx hb dL_law_498 ?_
    refine lv_topi (fun dv edv => ?_)
    obtain rfl : dv = nI (i + 5) := by rw [edv]; exact nI_add i 5
    refine va_sld hx hb hX hb0 hbA hS (vp_in_nI (n := (i + 5)) (by omega) (by omega)) dL_law_499 ?_
    rw [nI_clamp (by omega)]
    rw [hd9]
    have hP := va_P_perm hP (lperm (WD cI cO a (va_up FA nF x.2.1) nC nR nL (nF + 1) par wt (fun r => nI (sk r)) (fun r => nI (fk r)) x.2.2.1 rea sig) (WF (va_up FA nF x.2.1) (va_up (fun k => mc k * 40 + mp k * 4 + mm k) nF (x.1.1.1 * 40 + x.1.1.2 * 4 + x.1.2.1)) (va_up mf nF nL) (va_up md nF x.1.2.2) (upd mv nF (xs (i + 4))) x.2.2.2 (nF + 1)) (WM cI cZ b nC nR nL nF par wt (fun r => nI (sk r)) (fun r => nI (fk r)) mc mp mm mf md mv mder mkn thr) ((ob, .inl (cL, 1, .inr (.inl ov9))) : Nat × va_E))
    have hD := va_D_perm hD (lperm (WD cI cO a (va_up FA nF x.2.1) nC nR nL (nF + 1) par wt (fun r => nI (sk r)) (fun r => nI (fk r)) x.2.2.1 rea sig) (WF (va_up FA nF x.2.1) (va_up (fun k => mc k * 40 + mp k * 4 + mm k) nF (x.1.1.1 * 40 + x.1.1.2 * 4 + x.1.2.1)) (va_up mf nF nL) (va_up md nF x.1.2.2) (upd mv nF (xs (i + 4))) x.2.2.2 (nF + 1)) (WM cI cZ b nC nR nL nF par wt (fun r => nI (sk r)) (fun r => nI (fk r)) mc mp mm mf md mv mder mkn thr) ((ob, .inl (cL, 1, .inr (.inl ov9))) : Nat × va_E))
    refine va_calli (va_runV (As := [.int (nI x.1.1.1), .int (nI x.1.1.2), .int (nI x.1.2.1), .int (xs (i + 4)), .int (nI x.1.2.2)]) (rest := []) ⟨hx, hb, hml, hown, hts⟩ (c5_tell_0 l D cI cZ cO cL dt A b nC nR nL nF par wt (fun r => nI (sk r)) (fun r => nI (fk r)) mc mp mm mf md mv mder mkn thr (WD cI cO a (va_up FA nF x.2.1) nC nR nL (nF + 1) par wt (fun r => nI (sk r)) (fun r => nI (fk r)) x.2.2.1 rea sig ++ (WF (va_up FA nF x.2.1) (va_up (fun k => mc k * 40 + mp k * 4 + mm k) nF (x.1.1.1 * 40 + x.1.1.2 * 4 + x.1.2.1)) (va_up mf nF nL) (va_up md nF x.1.2.2) (upd mv nF (xs (i + 4))) x.2.2.2 (nF + 1) ++ [((ob, .inl (cL, 1, .inr (.inl ov9))) : Nat × va_E)])) x.1.1.1 x.1.1.2 x.1.2.1 x.1.2.2 (xs (i + 4)) ((key_iff hC12).mpr ⟨⟨x.1.1.1, rfl, hc⟩, ⟨x.1.1.2, rfl, hp⟩, ⟨x.1.2.1, rfl, hm⟩⟩) hv (cOk4.mpr ⟨x.1.2.2, rfl, Nat.lt_succ_of_le hd9b⟩) h80) (cwV 5 hts gL_law_X5_tell rfl rfl rfl (by decide +kernel) ⟨(Nat.le_of_ble_eq_true rfl), (Nat.le_of_ble_eq_true rfl)⟩) (gP.v (hg.on hS) hP 4 rfl 0 rfl ⟨hP, hD⟩) rfl rfl hl.1 rfl (lv_room (Nat.le_of_ble_eq_true rfl)) dL_law_500 ⟨by show cells + 4 + 0 ≤ 601024; omega, by show slots + 23 + 0 ≤ 7293034; omega⟩) hS (fun q _ h => h) (fun q h => h) (fun b9 u8 t8 H locs ht8 hvm8 hw8 hB8 hz8 hk8 hS => ?_)
    rw [ht8] at hB8
    obtain ⟨hP, hD⟩ := hB8
    have hP : va_P D vwCl (WM cI cZ b nC nR nL (nF + 1) par wt (fun r => nI (sk r)) (fun r => nI (fk r)) (va_up mc nF x.1.1.1) (va_up mp nF x.1.1.2) (va_up mm nF x.1.2.1) (va_up mf nF nL) (va_up md nF x.1.2.2) (upd mv nF (xs (i + 4))) mder mkn 0 ++ (WD cI cO a (va_up FA nF x.2.1) nC nR nL (nF + 1) par wt (fun r => nI (sk r)) (fun r => nI (fk r)) x.2.2.1 rea sig ++ (WF (va_up FA nF x.2.1) (va_up (fun k => mc k * 40 + mp k * 4 + mm k) nF (x.1.1.1 * 40 + x.1.1.2 * 4 + x.1.2.1)) (va_up mf nF nL) (va_up md nF x.1.2.2) (upd mv nF (xs (i + 4))) x.2.2.2 (nF + 1) ++ [((ob, .inl (cL, 1, .inr (.inl ov9))) : Nat × va_E)]))) H := hP
    have hD : va_D A (WM cI cZ b nC nR nL (nF + 1) par wt (fun r => nI (sk r)) (fun r => nI (fk r)) (va_up mc nF x.1.1.1) (va_up mp nF x.1.1.2) (va_up mm nF x.1.2.1) (va_up mf nF nL) (va_up md nF x.1.2.2) (upd mv nF (xs (i + 4))) mder mkn 0 ++ (WD cI cO a (va_up FA nF x.2.1) nC nR nL (nF + 1) par wt (fun r => nI (sk r)) (fun r => nI (fk r)) x.2.2.1 rea sig ++ (WF (va_up FA nF x.2.1) (va_up (fun k => mc k * 40 + mp k * 4 + mm k) nF (x.1.1.1 * 40 + x.1.1.2 * 4 + x.1.2.1)) (va_up mf nF nL) (va_up md nF x.1.2.2) (upd mv nF (xs (i + 4))) x.2.2.2 (nF + 1) ++ [((ob, .inl (cL, 1, .inr (.inl ov9))) : Nat × va_E)]))) := hD
    refine lv_istore (lv' := [(6, .int b9), (5, .int 0), (4, .int (nI i)), (3, .ref ob), (2, .ref (b 0)), (1, .ref (a 0)), (0, .ref b0)]) hx hb dL_law_503 hl (by decide) rfl (fun ls hl => ?_)
    refine lv_aload_n hx hb dL_law_505 rfl (lv_at hl 4 rfl) ?_
    refine g_csi (va_runV (As := []) (rest := []) ⟨hx, hb, hml, hown, hts⟩ (c5_thrown l D cI cZ cO cL dt A b nC nR nL (nF + 1) par wt (fun r => nI (sk r)) (fun r => nI (fk r)) (va_up mc nF x.1.1.1) (va_up mp nF x.1.1.2) (va_up mm nF x.1.2.1) (va_up mf nF nL) (va_up md nF x.1.2.2) (upd mv nF (xs (i + 4))) mder mkn 0 (WD cI cO a (va_up FA nF x.2.1) nC nR nL (nF + 1) par wt (fun r => nI (sk r)) (fun r => nI (fk r)) x.2.2.1 rea sig ++ (WF (va_up FA nF x.2.1) (va_up (fun k => mc k * 40 + mp k * 4 + mm k) nF (x.1.1.1 * 40 + x.1.1.2 * 4 + x.1.2.1)) (va_up mf nF nL) (va_up md nF x.1.2.2) (upd mv nF (xs (i + 4))) x.2.2.2 (nF + 1) ++ [((ob, .inl (cL, 1, .inr (.inl ov9))) : Nat × va_E)]))) (cwV 0 hts gL_law_X5_thrown rfl rfl rfl (by decide +kernel) ⟨(Nat.le_of_ble_eq_true rfl), (Nat.le_of_ble_eq_true rfl)⟩) (gP.v (hg.on hS) hP 4 rfl 0 rfl hP) rfl rfl hl.1 rfl (lv_room (Nat.le_of_ble_eq_true rfl)) dL_law_506 ⟨by show cells + 4 + 0 + 0 ≤ 601024; omega, by show slots + 23 + 0 + 0 ≤ 7293034; omega⟩) (fun t7 ht7 => ?_)
    obtain rfl : t7 = 0 := ht7
    have hP := va_P_perm hP (lperm (WD cI cO a (va_up FA nF x.2.1) nC nR nL (nF + 1) par wt (fun r => nI (sk r)) (fun r => nI (fk r)) x.2.2.1 rea sig) (WF (va_up FA nF x.2.1) (va_up (fun k => mc k * 40 + mp k * 4 + mm k) nF (x.1.1.1 * 40 + x.1.1.2 * 4 + x.1.2.1)) (va_up mf nF nL) (va_up md nF x.1.2.2) (upd mv nF (xs (i + 4))) x.2.2.2 (nF + 1)) (WM cI cZ b nC nR nL (nF + 1) par wt (fun r => nI (sk r)) (fun r => nI (fk r)) (va_up mc nF x.1.1.1) (va_up mp nF x.1.1.2) (va_up mm nF x.1.2.1) (va_up mf nF nL) (va_up md nF x.1.2.2) (upd mv nF (xs (i + 4))) mder mkn 0) ((ob, .inl (cL, 1, .inr (.inl ov9))) : Nat × va_E)).symm
    have hD := va_D_perm hD (lperm (WD cI cO a (va_up FA nF x.2.1) nC nR nL (nF + 1) par wt (fun r => nI (sk r)) (fun r => nI (fk r)) x.2.2.1 rea sig) (WF (va_up FA nF x.2.1) (va_up (fun k => mc k * 40 + mp k * 4 + mm k) nF (x.1.1.1 * 40 + x.1.1.2 * 4 + x.1.2.1)) (va_up mf nF nL) (va_up md nF x.1.2.2) (upd mv nF (xs (i + 4))) x.2.2.2 (nF + 1)) (WM cI cZ b nC nR nL (nF + 1) par wt (fun r => nI (sk r)) (fun r => nI (fk r)) (va_up mc nF x.1.1.1) (va_up mp nF x.1.1.2) (va_up mm nF x.1.2.1) (va_up mf nF nL) (va_up md nF x.1.2.2) (upd mv nF (xs (i + 4))) mder mkn 0) ((ob, .inl (cL, 1, .inr (.inl ov9))) : Nat × va_E)).symm
    have hag : (nI (nF + 1)).toInt64 = b9.toInt64 := by rw [hw8]
    refine lv_iload hx hb dL_law_509 (lv_at hl 1 rfl) ?_
    refine lv_icmp_eq (tgt := 516) hx hb dL_law_511 (by decide) (fun c_511 => ?_) (fun c_511 => ?_)
    · skip
      refine lv_iload hx hb dL_law_516 (lv_at hl 1 rfl) ?_
      refine lv_if_ne (tgt := 533) hx hb dL_law_518 (by decide) (fun c_518 => ?_) (fun c_518 => ?_)
      · skip
        exact absurd c_518 (by decide)
      · skip
        refine lv_aload_n hx hb dL_law_521 rfl (lv_at hl 3 rfl) ?_
        refine lv_iconst (v := 0) hx hb dL_law_522 (by decide) ?_
        refine va_lald hx hb hK hP (11 + (nF + 1)) 3 (WDR_at) rfl e_in0 dL_law_523 ?_
        rw [e_z0, hu9, hag]
        refine lv_iload hx hb dL_law_524 (lv_at hl 0 rfl) ?_
        refine lv_i2l (v := (b9).toInt64) hx hb dL_law_526 rfl ?_
        refine W.lcmp hx hb dL_law_527 ?_
        rw [lg_self]
        refine lv_if_eq (tgt := 533) hx hb dL_law_528 (by decide) (fun c_528 => ?_) (fun c_528 => ?_)
        · skip
          refine lv_goto (tgt := 1413) hx hb dL_law_533 (by decide) ?_
          rw [ck_up] at hP hD
          refine W.widen (k := cells + 4) (n := slots + 24) (by omega) (by omega) ?_
          exact kk _ _ _ ⟨(va_up FA nF x.2.1), nC, nR, nL, (nF + 1), par, wt, sk, fk, x.2.2.1, rea, sig, (va_up mc nF x.1.1.1), (va_up mp nF x.1.1.2), (va_up mm nF x.1.2.1), (va_up mf nF nL), (va_up md nF x.1.2.2), (upd mv nF (xs (i + 4))), x.2.2.2, mder, mkn, 0, ov9, L, lOk_tell hOk hc hp hm hd9b hv h80 hlk, hP, hD⟩ hS (lv_sub hl [2, 3, 4, 5, 6] rfl)
        · skip
          exact absurd c_528 (by decide)
    · skip
      exact absurd c_511 (by decide)
  · skip
    obtain rfl : ux = none := hx9
    have hB9 : va_P D vwCl (WD cI cO a FA nC nR nL nF par wt (fun r => nI (sk r)) (fun r => nI (fk r)) hd rea sig ++ (WF FA (fun k => mc k * 40 + mp k * 4 + mm k) mf md mv nx nF ++ ((ob, .inl (cL, 1, .inr (.inl ov9))) : Nat × va_E) :: WM cI cZ b nC nR nL nF par wt (fun r => nI (sk r)) (fun r => nI (fk r)) mc mp mm mf md mv mder mkn thr)) H ∧ va_D A (WD cI cO a FA nC nR nL nF par wt (fun r => nI (sk r)) (fun r => nI (fk r)) hd rea sig ++ (WF FA (fun k => mc k * 40 + mp k * 4 + mm k) mf md mv nx nF ++ ((ob, .inl (cL, 1, .inr (.inl ov9))) : Nat × va_E) :: WM cI cZ b nC nR nL nF par wt (fun r => nI (sk r)) (fun r => nI (fk r)) mc mp mm mf md mv mder mkn thr)) := hB9
    obtain ⟨hP, hD⟩ := hB9
    refine lv_istore (lv' := [(5, .int 1), (4, .int (nI i)), (3, .ref ob), (2, .ref (b 0)), (1, .ref (a 0)), (0, .ref b0)]) hx hb dL_law_467 hl (by decide) rfl (fun ls hl => ?_)
    refine lv_aload_n hx hb dL_law_469 rfl (lv_at hl 3 rfl) ?_
    refine lv_aload_n hx hb dL_law_470 rfl (lv_at hl 5 rfl) ?_
    refine lv_iload hx hb dL_law_471 (lv_at hl 1 rfl) ?_
    refine lv_iconst (v := 1) hx hb dL_law_473 (by decide) ?_
    refine lv_iadd hx hb dL_law_474 ?_
    refine lv_topi (fun dv edv => ?_)
    obtain rfl : dv = nI (i + 1) := by rw [edv]; exact nI_add i 1
    refine va_sld hx hb hX hb0 hbA hS (vp_in_nI (n := (i + 1)) (by omega) (by omega)) dL_law_475 ?_
    rw [nI_clamp (by omega)]
    refine lv_aload_n hx hb dL_law_476 rfl (lv_at hl 5 rfl) ?_
    refine lv_iload hx hb dL_law_477 (lv_at hl 1 rfl) ?_
    refine lv_iconst (v := 2) hx hb dL_law_479 (by decide) ?_
    refine lv_iadd hx hb dL_law_480 ?_
    refine lv_topi (fun dv edv => ?_)
    obtain rfl : dv = nI (i + 2) := by rw [edv]; exact nI_add i 2
    refine va_sld hx hb hX hb0 hbA hS (vp_in_nI (n := (i + 2)) (by omega) (by omega)) dL_law_481 ?_
    rw [nI_clamp (by omega)]
    refine lv_aload_n hx hb dL_law_482 rfl (lv_at hl 5 rfl) ?_
    refine lv_iload hx hb dL_law_483 (lv_at hl 1 rfl) ?_
    refine lv_iconst (v := 3) hx hb dL_law_485 (by decide) ?_
    refine lv_iadd hx hb dL_law_486 ?_
    refine lv_topi (fun dv edv => ?_)
    obtain rfl : dv = nI (i + 3) := by rw [edv]; exact nI_add i 3
    refine va_sld hx hb hX hb0 hbA hS (vp_in_nI (n := (i + 3)) (by omega) (by omega)) dL_law_487 ?_
    rw [nI_clamp (by omega)]
    refine lv_aload_n hx hb dL_law_488 rfl (lv_at hl 5 rfl) ?_
    refine lv_iload hx hb dL_law_489 (lv_at hl 1 rfl) ?_
    refine lv_iconst (v := 4) hx hb dL_law_491 (by decide) ?_
    refine lv_iadd hx hb dL_law_492 ?_
    refine lv_topi (fun dv edv => ?_)
    obtain rfl : dv = nI (i + 4) := by rw [edv]; exact nI_add i 4
    refine va_sld hx hb hX hb0 hbA hS (vp_in_nI (n := (i + 4)) (by omega) (by omega)) dL_law_493 ?_
    rw [nI_clamp (by omega)]
    refine lv_aload_n hx hb dL_law_494 rfl (lv_at hl 5 rfl) ?_
    refine lv_iload hx hb dL_law_495 (lv_at hl 1 rfl) ?_
    refine lv_iconst (v := 5) hx hb dL_law_497 (by decide) ?_
    refine lv_iadd hx hb dL_law_498 ?_
    refine lv_topi (fun dv edv => ?_)
    obtain rfl : dv = nI (i + 5) := by rw [edv]; exact nI_add i 5
    refine va_sld hx hb hX hb0 hbA hS (vp_in_nI (n := (i + 5)) (by omega) (by omega)) dL_law_499 ?_
    rw [nI_clamp (by omega)]
    have hP := va_P_perm hP (lperm (WD cI cO a FA nC nR nL nF par wt (fun r => nI (sk r)) (fun r => nI (fk r)) hd rea sig) (WF FA (fun k => mc k * 40 + mp k * 4 + mm k) mf md mv nx nF) (WM cI cZ b nC nR nL nF par wt (fun r => nI (sk r)) (fun r => nI (fk r)) mc mp mm mf md mv mder mkn thr) ((ob, .inl (cL, 1, .inr (.inl ov9))) : Nat × va_E))
    have hD := va_D_perm hD (lperm (WD cI cO a FA nC nR nL nF par wt (fun r => nI (sk r)) (fun r => nI (fk r)) hd rea sig) (WF FA (fun k => mc k * 40 + mp k * 4 + mm k) mf md mv nx nF) (WM cI cZ b nC nR nL nF par wt (fun r => nI (sk r)) (fun r => nI (fk r)) mc mp mm mf md mv mder mkn thr) ((ob, .inl (cL, 1, .inr (.inl ov9))) : Nat × va_E))
    refine va_calli (va_runV (As := [.int (xs (i + 1)), .int (xs (i + 2)), .int (xs (i + 3)), .int (xs (i + 4)), .int (xs (i + 5))]) (rest := []) ⟨hx, hb, hml, hown, hts⟩ (c5_tell_1 l D cI cZ cO cL dt A b nC nR nL nF par wt (fun r => nI (sk r)) (fun r => nI (fk r)) mc mp mm mf md mv mder mkn thr (WD cI cO a FA nC nR nL nF par wt (fun r => nI (sk r)) (fun r => nI (fk r)) hd rea sig ++ (WF FA (fun k => mc k * 40 + mp k * 4 + mm k) mf md mv nx nF ++ [((ob, .inl (cL, 1, .inr (.inl ov9))) : Nat × va_E)])) (xs (i + 1)) (xs (i + 2)) (xs (i + 3)) (xs (i + 4)) (xs (i + 5)) (fun z => hR9 ((key_iff hC12).mp z))) (cwV 5 hts gL_law_X5_tell rfl rfl rfl (by decide +kernel) ⟨(Nat.le_of_ble_eq_true rfl), (Nat.le_of_ble_eq_true rfl)⟩) (gP.v (hg.on hS) hP 4 rfl 0 rfl ⟨hP, hD⟩) rfl rfl hl.1 rfl (lv_room (Nat.le_of_ble_eq_true rfl)) dL_law_500 ⟨by show cells + 4 + 0 ≤ 601024; omega, by show slots + 23 + 0 ≤ 7293034; omega⟩) hS (fun q _ h => h) (fun q h => h) (fun b9 u8 t8 H locs ht8 hvm8 hw8 hB8 hz8 hk8 hS => ?_)
    rw [ht8] at hB8
    obtain ⟨hP, hD⟩ := hB8
    have hP : va_P D vwCl (WM cI cZ b nC nR nL nF par wt (fun r => nI (sk r)) (fun r => nI (fk r)) mc mp mm mf md mv mder mkn 1 ++ (WD cI cO a FA nC nR nL nF par wt (fun r => nI (sk r)) (fun r => nI (fk r)) hd rea sig ++ (WF FA (fun k => mc k * 40 + mp k * 4 + mm k) mf md mv nx nF ++ [((ob, .inl (cL, 1, .inr (.inl ov9))) : Nat × va_E)]))) H := hP
    have hD : va_D A (WM cI cZ b nC nR nL nF par wt (fun r => nI (sk r)) (fun r => nI (fk r)) mc mp mm mf md mv mder mkn 1 ++ (WD cI cO a FA nC nR nL nF par wt (fun r => nI (sk r)) (fun r => nI (fk r)) hd rea sig ++ (WF FA (fun k => mc k * 40 + mp k * 4 + mm k) mf md mv nx nF ++ [((ob, .inl (cL, 1, .inr (.inl ov9))) : Nat × va_E)]))) := hD
    refine lv_istore (lv' := [(6, .int b9), (5, .int 1), (4, .int (nI i)), (3, .ref ob), (2, .ref (b 0)), (1, .ref (a 0)), (0, .ref b0)]) hx hb dL_law_503 hl (by decide) rfl (fun ls hl => ?_)
    refine lv_aload_n hx hb dL_law_505 rfl (lv_at hl 4 rfl) ?_
    refine g_csi (va_runV (As := []) (rest := []) ⟨hx, hb, hml, hown, hts⟩ (c5_thrown l D cI cZ cO cL dt A b nC nR nL nF par wt (fun r => nI (sk r)) (fun r => nI (fk r)) mc mp mm mf md mv mder mkn 1 (WD cI cO a FA nC nR nL nF par wt (fun r => nI (sk r)) (fun r => nI (fk r)) hd rea sig ++ (WF FA (fun k => mc k * 40 + mp k * 4 + mm k) mf md mv nx nF ++ [((ob, .inl (cL, 1, .inr (.inl ov9))) : Nat × va_E)]))) (cwV 0 hts gL_law_X5_thrown rfl rfl rfl (by decide +kernel) ⟨(Nat.le_of_ble_eq_true rfl), (Nat.le_of_ble_eq_true rfl)⟩) (gP.v (hg.on hS) hP 4 rfl 0 rfl hP) rfl rfl hl.1 rfl (lv_room (Nat.le_of_ble_eq_true rfl)) dL_law_506 ⟨by show cells + 4 + 0 + 0 ≤ 601024; omega, by show slots + 23 + 0 + 0 ≤ 7293034; omega⟩) (fun t7 ht7 => ?_)
    obtain rfl : t7 = 1 := ht7
    have hP := va_P_perm hP (lperm (WD cI cO a FA nC nR nL nF par wt (fun r => nI (sk r)) (fun r => nI (fk r)) hd rea sig) (WF FA (fun k => mc k * 40 + mp k * 4 + mm k) mf md mv nx nF) (WM cI cZ b nC nR nL nF par wt (fun r => nI (sk r)) (fun r => nI (fk r)) mc mp mm mf md mv mder mkn 1) ((ob, .inl (cL, 1, .inr (.inl ov9))) : Nat × va_E)).symm
    have hD := va_D_perm hD (lperm (WD cI cO a FA nC nR nL nF par wt (fun r => nI (sk r)) (fun r => nI (fk r)) hd rea sig) (WF FA (fun k => mc k * 40 + mp k * 4 + mm k) mf md mv nx nF) (WM cI cZ b nC nR nL nF par wt (fun r => nI (sk r)) (fun r => nI (fk r)) mc mp mm mf md mv mder mkn 1) ((ob, .inl (cL, 1, .inr (.inl ov9))) : Nat × va_E)).symm
    refine lv_iload hx hb dL_law_509 (lv_at hl 1 rfl) ?_
    refine lv_icmp_eq (tgt := 516) hx hb dL_law_511 (by decide) (fun c_511 => ?_) (fun c_511 => ?_)
    · skip
      refine lv_iload hx hb dL_law_516 (lv_at hl 1 rfl) ?_
      refine lv_if_ne (tgt := 533) hx hb dL_law_518 (by decide) (fun c_518 => ?_) (fun c_518 => ?_)
      · skip
        refine lv_goto (tgt := 1413) hx hb dL_law_533 (by decide) ?_
        refine W.widen (k := cells + 4) (n := slots + 24) (by omega) (by omega) ?_
        exact kk _ _ _ ⟨FA, nC, nR, nL, nF, par, wt, sk, fk, hd, rea, sig, mc, mp, mm, mf, md, mv, nx, mder, mkn, 1, ov9, L, hOk, hP, hD⟩ hS (lv_sub hl [2, 3, 4, 5, 6] rfl)
      · skip
        exact absurd c_518 (by decide)
    · skip
      exact absurd c_511 (by decide)
  · skip
    obtain rfl : ux = none := hx9
    by_cases hsp : (-1000000) ≤ xs (i + 4) ∧ xs (i + 4) ≤ (1000000)
    · skip
      have hB9 : va_P D vwCl (WD cI cO a FA nC nR nL nF par wt (fun r => nI (sk r)) (fun r => nI (fk r)) hd rea sig ++ (WF FA (fun k => mc k * 40 + mp k * 4 + mm k) mf md mv nx nF ++ ((ob, .inl (cL, 1, .inr (.inl ov9))) : Nat × va_E) :: WM cI cZ b nC nR nL nF par wt (fun r => nI (sk r)) (fun r => nI (fk r)) mc mp mm mf md mv mder mkn thr)) H ∧ va_D A (WD cI cO a FA nC nR nL nF par wt (fun r => nI (sk r)) (fun r => nI (fk r)) hd rea sig ++ (WF FA (fun k => mc k * 40 + mp k * 4 + mm k) mf md mv nx nF ++ ((ob, .inl (cL, 1, .inr (.inl ov9))) : Nat × va_E) :: WM cI cZ b nC nR nL nF par wt (fun r => nI (sk r)) (fun r => nI (fk r)) mc mp mm mf md mv mder mkn thr)) := hB9
      obtain ⟨hP, hD⟩ := hB9
      refine lv_istore (lv' := [(5, .int 2), (4, .int (nI i)), (3, .ref ob), (2, .ref (b 0)), (1, .ref (a 0)), (0, .ref b0)]) hx hb dL_law_467 hl (by decide) rfl (fun ls hl => ?_)
      refine lv_aload_n hx hb dL_law_469 rfl (lv_at hl 3 rfl) ?_
      refine lv_aload_n hx hb dL_law_470 rfl (lv_at hl 5 rfl) ?_
      refine lv_iload hx hb dL_law_471 (lv_at hl 1 rfl) ?_
      refine lv_iconst (v := 1) hx hb dL_law_473 (by decide) ?_
      refine lv_iadd hx hb dL_law_474 ?_
      refine lv_topi (fun dv edv => ?_)
      obtain rfl : dv = nI (i + 1) := by rw [edv]; exact nI_add i 1
      refine va_sld hx hb hX hb0 hbA hS (vp_in_nI (n := (i + 1)) (by omega) (by omega)) dL_law_475 ?_
      rw [nI_clamp (by omega)]
      refine lv_aload_n hx hb dL_law_476 rfl (lv_at hl 5 rfl) ?_
      refine lv_iload hx hb dL_law_477 (lv_at hl 1 rfl) ?_
      refine lv_iconst (v := 2) hx hb dL_law_479 (by decide) ?_
      refine lv_iadd hx hb dL_law_480 ?_
      refine lv_topi (fun dv edv => ?_)
      obtain rfl : dv = nI (i + 2) := by rw [edv]; exact nI_add i 2
      refine va_sld hx hb hX hb0 hbA hS (vp_in_nI (n := (i + 2)) (by omega) (by omega)) dL_law_481 ?_
      rw [nI_clamp (by omega)]
      refine lv_aload_n hx hb dL_law_482 rfl (lv_at hl 5 rfl) ?_
      refine lv_iload hx hb dL_law_483 (lv_at hl 1 rfl) ?_
      refine lv_iconst (v := 3) hx hb dL_law_485 (by decide) ?_
      refine lv_iadd hx hb dL_law_486 ?_
      refine lv_topi (fun dv edv => ?_)
      obtain rfl : dv = nI (i + 3) := by rw [edv]; exact nI_add i 3
      refine va_sld hx hb hX hb0 hbA hS (vp_in_nI (n := (i + 3)) (by omega) (by omega)) dL_law_487 ?_
      rw [nI_clamp (by omega)]
      refine lv_aload_n hx hb dL_law_488 rfl (lv_at hl 5 rfl) ?_
      refine lv_iload hx hb dL_law_489 (lv_at hl 1 rfl) ?_
      refine lv_iconst (v := 4) hx hb dL_law_491 (by decide) ?_
      refine lv_iadd hx hb dL_law_492 ?_
      refine lv_topi (fun dv edv => ?_)
      obtain rfl : dv = nI (i + 4) := by rw [edv]; exact nI_add i 4
      refine va_sld hx hb hX hb0 hbA hS (vp_in_nI (n := (i + 4)) (by omega) (by omega)) dL_law_493 ?_
      rw [nI_clamp (by omega)]
      refine lv_aload_n hx hb dL_law_494 rfl (lv_at hl 5 rfl) ?_
      refine lv_iload hx hb dL_law_495 (lv_at hl 1 rfl) ?_
      refine lv_iconst (v := 5) hx hb dL_law_497 (by decide) ?_
      refine lv_iadd hx hb dL_law_498 ?_
      refine lv_topi (fun dv edv => ?_)
      obtain rfl : dv = nI (i + 5) := by rw [edv]; exact nI_add i 5
      refine va_sld hx hb hX hb0 hbA hS (vp_in_nI (n := (i + 5)) (by omega) (by omega)) dL_law_499 ?_
      rw [nI_clamp (by omega)]
      have hP := va_P_perm hP (lperm (WD cI cO a FA nC nR nL nF par wt (fun r => nI (sk r)) (fun r => nI (fk r)) hd rea sig) (WF FA (fun k => mc k * 40 + mp k * 4 + mm k) mf md mv nx nF) (WM cI cZ b nC nR nL nF par wt (fun r => nI (sk r)) (fun r => nI (fk r)) mc mp mm mf md mv mder mkn thr) ((ob, .inl (cL, 1, .inr (.inl ov9))) : Nat × va_E))
      have hD := va_D_perm hD (lperm (WD cI cO a FA nC nR nL nF par wt (fun r => nI (sk r)) (fun r => nI (fk r)) hd rea sig) (WF FA (fun k => mc k * 40 + mp k * 4 + mm k) mf md mv nx nF) (WM cI cZ b nC nR nL nF par wt (fun r => nI (sk r)) (fun r => nI (fk r)) mc mp mm mf md mv mder mkn thr) ((ob, .inl (cL, 1, .inr (.inl ov9))) : Nat × va_E))
      refine va_calli (va_runV (As := [.int (xs (i + 1)), .int (xs (i + 2)), .int (xs (i + 3)), .int (xs (i + 4)), .int (xs (i + 5))]) (rest := []) ⟨hx, hb, hml, hown, hts⟩ (c5_tell_2b l D cI cZ cO cL dt A b nC nR nL nF par wt (fun r => nI (sk r)) (fun r => nI (fk r)) mc mp mm mf md mv mder mkn thr (WD cI cO a FA nC nR nL nF par wt (fun r => nI (sk r)) (fun r => nI (fk r)) hd rea sig ++ (WF FA (fun k => mc k * 40 + mp k * 4 + mm k) mf md mv nx nF ++ [((ob, .inl (cL, 1, .inr (.inl ov9))) : Nat × va_E)])) (xs (i + 1)) (xs (i + 2)) (xs (i + 3)) (xs (i + 4)) (xs (i + 5)) ((key_iff hC12).mpr hR9.1) hsp (fun z => hR9.2 ⟨hsp, cOk4.mp z⟩)) (cwV 5 hts gL_law_X5_tell rfl rfl rfl (by decide +kernel) ⟨(Nat.le_of_ble_eq_true rfl), (Nat.le_of_ble_eq_true rfl)⟩) (gP.v (hg.on hS) hP 4 rfl 0 rfl ⟨hP, hD⟩) rfl rfl hl.1 rfl (lv_room (Nat.le_of_ble_eq_true rfl)) dL_law_500 ⟨by show cells + 4 + 0 ≤ 601024; omega, by show slots + 23 + 0 ≤ 7293034; omega⟩) hS (fun q _ h => h) (fun q h => h) (fun b9 u8 t8 H locs ht8 hvm8 hw8 hB8 hz8 hk8 hS => ?_)
      rw [ht8] at hB8
      obtain ⟨hP, hD⟩ := hB8
      have hP : va_P D vwCl (WM cI cZ b nC nR nL nF par wt (fun r => nI (sk r)) (fun r => nI (fk r)) mc mp mm mf md mv mder mkn 2 ++ (WD cI cO a FA nC nR nL nF par wt (fun r => nI (sk r)) (fun r => nI (fk r)) hd rea sig ++ (WF FA (fun k => mc k * 40 + mp k * 4 + mm k) mf md mv nx nF ++ [((ob, .inl (cL, 1, .inr (.inl ov9))) : Nat × va_E)]))) H := hP
      have hD : va_D A (WM cI cZ b nC nR nL nF par wt (fun r => nI (sk r)) (fun r => nI (fk r)) mc mp mm mf md mv mder mkn 2 ++ (WD cI cO a FA nC nR nL nF par wt (fun r => nI (sk r)) (fun r => nI (fk r)) hd rea sig ++ (WF FA (fun k => mc k * 40 + mp k * 4 + mm k) mf md mv nx nF ++ [((ob, .inl (cL, 1, .inr (.inl ov9))) : Nat × va_E)]))) := hD
      refine lv_istore (lv' := [(6, .int b9), (5, .int 2), (4, .int (nI i)), (3, .ref ob), (2, .ref (b 0)), (1, .ref (a 0)), (0, .ref b0)]) hx hb dL_law_503 hl (by decide) rfl (fun ls hl => ?_)
      refine lv_aload_n hx hb dL_law_505 rfl (lv_at hl 4 rfl) ?_
      refine g_csi (va_runV (As := []) (rest := []) ⟨hx, hb, hml, hown, hts⟩ (c5_thrown l D cI cZ cO cL dt A b nC nR nL nF par wt (fun r => nI (sk r)) (fun r => nI (fk r)) mc mp mm mf md mv mder mkn 2 (WD cI cO a FA nC nR nL nF par wt (fun r => nI (sk r)) (fun r => nI (fk r)) hd rea sig ++ (WF FA (fun k => mc k * 40 + mp k * 4 + mm k) mf md mv nx nF ++ [((ob, .inl (cL, 1, .inr (.inl ov9))) : Nat × va_E)]))) (cwV 0 hts gL_law_X5_thrown rfl rfl rfl (by decide +kernel) ⟨(Nat.le_of_ble_eq_true rfl), (Nat.le_of_ble_eq_true rfl)⟩) (gP.v (hg.on hS) hP 4 rfl 0 rfl hP) rfl rfl hl.1 rfl (lv_room (Nat.le_of_ble_eq_true rfl)) dL_law_506 ⟨by show cells + 4 + 0 + 0 ≤ 601024; omega, by show slots + 23 + 0 + 0 ≤ 7293034; omega⟩) (fun t7 ht7 => ?_)
      obtain rfl : t7 = 2 := ht7
      have hP := va_P_perm hP (lperm (WD cI cO a FA nC nR nL nF par wt (fun r => nI (sk r)) (fun r => nI (fk r)) hd rea sig) (WF FA (fun k => mc k * 40 + mp k * 4 + mm k) mf md mv nx nF) (WM cI cZ b nC nR nL nF par wt (fun r => nI (sk r)) (fun r => nI (fk r)) mc mp mm mf md mv mder mkn 2) ((ob, .inl (cL, 1, .inr (.inl ov9))) : Nat × va_E)).symm
      have hD := va_D_perm hD (lperm (WD cI cO a FA nC nR nL nF par wt (fun r => nI (sk r)) (fun r => nI (fk r)) hd rea sig) (WF FA (fun k => mc k * 40 + mp k * 4 + mm k) mf md mv nx nF) (WM cI cZ b nC nR nL nF par wt (fun r => nI (sk r)) (fun r => nI (fk r)) mc mp mm mf md mv mder mkn 2) ((ob, .inl (cL, 1, .inr (.inl ov9))) : Nat × va_E)).symm
      refine lv_iload hx hb dL_law_509 (lv_at hl 1 rfl) ?_
      refine lv_icmp_eq (tgt := 516) hx hb dL_law_511 (by decide) (fun c_511 => ?_) (fun c_511 => ?_)
      · skip
        refine lv_iload hx hb dL_law_516 (lv_at hl 1 rfl) ?_
        refine lv_if_ne (tgt := 533) hx hb dL_law_518 (by decide) (fun c_518 => ?_) (fun c_518 => ?_)
        · skip
          refine lv_goto (tgt := 1413) hx hb dL_law_533 (by decide) ?_
          refine W.widen (k := cells + 4) (n := slots + 24) (by omega) (by omega) ?_
          exact kk _ _ _ ⟨FA, nC, nR, nL, nF, par, wt, sk, fk, hd, rea, sig, mc, mp, mm, mf, md, mv, nx, mder, mkn, 2, ov9, L, hOk, hP, hD⟩ hS (lv_sub hl [2, 3, 4, 5, 6] rfl)
        · skip
          exact absurd c_518 (by decide)
      · skip
        exact absurd c_511 (by decide)
    · skip
      have hB9 : va_P D vwCl (WD cI cO a FA nC nR nL nF par wt (fun r => nI (sk r)) (fun r => nI (fk r)) hd rea sig ++ (WF FA (fun k => mc k * 40 + mp k * 4 + mm k) mf md mv nx nF ++ ((ob, .inl (cL, 1, .inr (.inl ov9))) : Nat × va_E) :: WM cI cZ b nC nR nL nF par wt (fun r => nI (sk r)) (fun r => nI (fk r)) mc mp mm mf md mv mder mkn thr)) H ∧ va_D A (WD cI cO a FA nC nR nL nF par wt (fun r => nI (sk r)) (fun r => nI (fk r)) hd rea sig ++ (WF FA (fun k => mc k * 40 + mp k * 4 + mm k) mf md mv nx nF ++ ((ob, .inl (cL, 1, .inr (.inl ov9))) : Nat × va_E) :: WM cI cZ b nC nR nL nF par wt (fun r => nI (sk r)) (fun r => nI (fk r)) mc mp mm mf md mv mder mkn thr)) := hB9
      obtain ⟨hP, hD⟩ := hB9
      refine lv_istore (lv' := [(5, .int 2), (4, .int (nI i)), (3, .ref ob), (2, .ref (b 0)), (1, .ref (a 0)), (0, .ref b0)]) hx hb dL_law_467 hl (by decide) rfl (fun ls hl => ?_)
      refine lv_aload_n hx hb dL_law_469 rfl (lv_at hl 3 rfl) ?_
      refine lv_aload_n hx hb dL_law_470 rfl (lv_at hl 5 rfl) ?_
      refine lv_iload hx hb dL_law_471 (lv_at hl 1 rfl) ?_
      refine lv_iconst (v := 1) hx hb dL_law_473 (by decide) ?_
      refine lv_iadd hx hb dL_law_474 ?_
      refine lv_topi (fun dv edv => ?_)
      obtain rfl : dv = nI (i + 1) := by rw [edv]; exact nI_add i 1
      refine va_sld hx hb hX hb0 hbA hS (vp_in_nI (n := (i + 1)) (by omega) (by omega)) dL_law_475 ?_
      rw [nI_clamp (by omega)]
      refine lv_aload_n hx hb dL_law_476 rfl (lv_at hl 5 rfl) ?_
      refine lv_iload hx hb dL_law_477 (lv_at hl 1 rfl) ?_
      refine lv_iconst (v := 2) hx hb dL_law_479 (by decide) ?_
      refine lv_iadd hx hb dL_law_480 ?_
      refine lv_topi (fun dv edv => ?_)
      obtain rfl : dv = nI (i + 2) := by rw [edv]; exact nI_add i 2
      refine va_sld hx hb hX hb0 hbA hS (vp_in_nI (n := (i + 2)) (by omega) (by omega)) dL_law_481 ?_
      rw [nI_clamp (by omega)]
      refine lv_aload_n hx hb dL_law_482 rfl (lv_at hl 5 rfl) ?_
      refine lv_iload hx hb dL_law_483 (lv_at hl 1 rfl) ?_
      refine lv_iconst (v := 3) hx hb dL_law_485 (by decide) ?_
      refine lv_iadd hx hb dL_law_486 ?_
      refine lv_topi (fun dv edv => ?_)
      obtain rfl : dv = nI (i + 3) := by rw [edv]; exact nI_add i 3
      refine va_sld hx hb hX hb0 hbA hS (vp_in_nI (n := (i + 3)) (by omega) (by omega)) dL_law_487 ?_
      rw [nI_clamp (by omega)]
      refine lv_aload_n hx hb dL_law_488 rfl (lv_at hl 5 rfl) ?_
      refine lv_iload hx hb dL_law_489 (lv_at hl 1 rfl) ?_
      refine lv_iconst (v := 4) hx hb dL_law_491 (by decide) ?_
      refine lv_iadd hx hb dL_law_492 ?_
      refine lv_topi (fun dv edv => ?_)
      obtain rfl : dv = nI (i + 4) := by rw [edv]; exact nI_add i 4
      refine va_sld hx hb hX hb0 hbA hS (vp_in_nI (n := (i + 4)) (by omega) (by omega)) dL_law_493 ?_
      rw [nI_clamp (by omega)]
      refine lv_aload_n hx hb dL_law_494 rfl (lv_at hl 5 rfl) ?_
      refine lv_iload hx hb dL_law_495 (lv_at hl 1 rfl) ?_
      refine lv_iconst (v := 5) hx hb dL_law_497 (by decide) ?_
      refine lv_iadd hx hb dL_law_498 ?_
      refine lv_topi (fun dv edv => ?_)
      obtain rfl : dv = nI (i + 5) := by rw [edv]; exact nI_add i 5
      refine va_sld hx hb hX hb0 hbA hS (vp_in_nI (n := (i + 5)) (by omega) (by omega)) dL_law_499 ?_
      rw [nI_clamp (by omega)]
      have hP := va_P_perm hP (lperm (WD cI cO a FA nC nR nL nF par wt (fun r => nI (sk r)) (fun r => nI (fk r)) hd rea sig) (WF FA (fun k => mc k * 40 + mp k * 4 + mm k) mf md mv nx nF) (WM cI cZ b nC nR nL nF par wt (fun r => nI (sk r)) (fun r => nI (fk r)) mc mp mm mf md mv mder mkn thr) ((ob, .inl (cL, 1, .inr (.inl ov9))) : Nat × va_E))
      have hD := va_D_perm hD (lperm (WD cI cO a FA nC nR nL nF par wt (fun r => nI (sk r)) (fun r => nI (fk r)) hd rea sig) (WF FA (fun k => mc k * 40 + mp k * 4 + mm k) mf md mv nx nF) (WM cI cZ b nC nR nL nF par wt (fun r => nI (sk r)) (fun r => nI (fk r)) mc mp mm mf md mv mder mkn thr) ((ob, .inl (cL, 1, .inr (.inl ov9))) : Nat × va_E))
      refine va_calli (va_runV (As := [.int (xs (i + 1)), .int (xs (i + 2)), .int (xs (i + 3)), .int (xs (i + 4)), .int (xs (i + 5))]) (rest := []) ⟨hx, hb, hml, hown, hts⟩ (c5_tell_2a l D cI cZ cO cL dt A b nC nR nL nF par wt (fun r => nI (sk r)) (fun r => nI (fk r)) mc mp mm mf md mv mder mkn thr (WD cI cO a FA nC nR nL nF par wt (fun r => nI (sk r)) (fun r => nI (fk r)) hd rea sig ++ (WF FA (fun k => mc k * 40 + mp k * 4 + mm k) mf md mv nx nF ++ [((ob, .inl (cL, 1, .inr (.inl ov9))) : Nat × va_E)])) (xs (i + 1)) (xs (i + 2)) (xs (i + 3)) (xs (i + 4)) (xs (i + 5)) ((key_iff hC12).mpr hR9.1) hsp) (cwV 5 hts gL_law_X5_tell rfl rfl rfl (by decide +kernel) ⟨(Nat.le_of_ble_eq_true rfl), (Nat.le_of_ble_eq_true rfl)⟩) (gP.v (hg.on hS) hP 4 rfl 0 rfl ⟨hP, hD⟩) rfl rfl hl.1 rfl (lv_room (Nat.le_of_ble_eq_true rfl)) dL_law_500 ⟨by show cells + 4 + 0 ≤ 601024; omega, by show slots + 23 + 0 ≤ 7293034; omega⟩) hS (fun q _ h => h) (fun q h => h) (fun b9 u8 t8 H locs ht8 hvm8 hw8 hB8 hz8 hk8 hS => ?_)
      rw [ht8] at hB8
      obtain ⟨hP, hD⟩ := hB8
      have hP : va_P D vwCl (WM cI cZ b nC nR nL nF par wt (fun r => nI (sk r)) (fun r => nI (fk r)) mc mp mm mf md mv mder mkn 2 ++ (WD cI cO a FA nC nR nL nF par wt (fun r => nI (sk r)) (fun r => nI (fk r)) hd rea sig ++ (WF FA (fun k => mc k * 40 + mp k * 4 + mm k) mf md mv nx nF ++ [((ob, .inl (cL, 1, .inr (.inl ov9))) : Nat × va_E)]))) H := hP
      have hD : va_D A (WM cI cZ b nC nR nL nF par wt (fun r => nI (sk r)) (fun r => nI (fk r)) mc mp mm mf md mv mder mkn 2 ++ (WD cI cO a FA nC nR nL nF par wt (fun r => nI (sk r)) (fun r => nI (fk r)) hd rea sig ++ (WF FA (fun k => mc k * 40 + mp k * 4 + mm k) mf md mv nx nF ++ [((ob, .inl (cL, 1, .inr (.inl ov9))) : Nat × va_E)]))) := hD
      refine lv_istore (lv' := [(6, .int b9), (5, .int 2), (4, .int (nI i)), (3, .ref ob), (2, .ref (b 0)), (1, .ref (a 0)), (0, .ref b0)]) hx hb dL_law_503 hl (by decide) rfl (fun ls hl => ?_)
      refine lv_aload_n hx hb dL_law_505 rfl (lv_at hl 4 rfl) ?_
      refine g_csi (va_runV (As := []) (rest := []) ⟨hx, hb, hml, hown, hts⟩ (c5_thrown l D cI cZ cO cL dt A b nC nR nL nF par wt (fun r => nI (sk r)) (fun r => nI (fk r)) mc mp mm mf md mv mder mkn 2 (WD cI cO a FA nC nR nL nF par wt (fun r => nI (sk r)) (fun r => nI (fk r)) hd rea sig ++ (WF FA (fun k => mc k * 40 + mp k * 4 + mm k) mf md mv nx nF ++ [((ob, .inl (cL, 1, .inr (.inl ov9))) : Nat × va_E)]))) (cwV 0 hts gL_law_X5_thrown rfl rfl rfl (by decide +kernel) ⟨(Nat.le_of_ble_eq_true rfl), (Nat.le_of_ble_eq_true rfl)⟩) (gP.v (hg.on hS) hP 4 rfl 0 rfl hP) rfl rfl hl.1 rfl (lv_room (Nat.le_of_ble_eq_true rfl)) dL_law_506 ⟨by show cells + 4 + 0 + 0 ≤ 601024; omega, by show slots + 23 + 0 + 0 ≤ 7293034; omega⟩) (fun t7 ht7 => ?_)
      obtain rfl : t7 = 2 := ht7
      have hP := va_P_perm hP (lperm (WD cI cO a FA nC nR nL nF par wt (fun r => nI (sk r)) (fun r => nI (fk r)) hd rea sig) (WF FA (fun k => mc k * 40 + mp k * 4 + mm k) mf md mv nx nF) (WM cI cZ b nC nR nL nF par wt (fun r => nI (sk r)) (fun r => nI (fk r)) mc mp mm mf md mv mder mkn 2) ((ob, .inl (cL, 1, .inr (.inl ov9))) : Nat × va_E)).symm
      have hD := va_D_perm hD (lperm (WD cI cO a FA nC nR nL nF par wt (fun r => nI (sk r)) (fun r => nI (fk r)) hd rea sig) (WF FA (fun k => mc k * 40 + mp k * 4 + mm k) mf md mv nx nF) (WM cI cZ b nC nR nL nF par wt (fun r => nI (sk r)) (fun r => nI (fk r)) mc mp mm mf md mv mder mkn 2) ((ob, .inl (cL, 1, .inr (.inl ov9))) : Nat × va_E)).symm
      refine lv_iload hx hb dL_law_509 (lv_at hl 1 rfl) ?_
      refine lv_icmp_eq (tgt := 516) hx hb dL_law_511 (by decide) (fun c_511 => ?_) (fun c_511 => ?_)
      · skip
        refine lv_iload hx hb dL_law_516 (lv_at hl 1 rfl) ?_
        refine lv_if_ne (tgt := 533) hx hb dL_law_518 (by decide) (fun c_518 => ?_) (fun c_518 => ?_)
        · skip
          refine lv_goto (tgt := 1413) hx hb dL_law_533 (by decide) ?_
          refine W.widen (k := cells + 4) (n := slots + 24) (by omega) (by omega) ?_
          exact kk _ _ _ ⟨FA, nC, nR, nL, nF, par, wt, sk, fk, hd, rea, sig, mc, mp, mm, mf, md, mv, nx, mder, mkn, 2, ov9, L, hOk, hP, hD⟩ hS (lv_sub hl [2, 3, 4, 5, 6] rfl)
        · skip
          exact absurd c_518 (by decide)
      · skip
        exact absurd c_511 (by decide)
  · skip
    obtain rfl : ux = none := hx9
    have hB9 : va_P D vwCl (WD cI cO a FA nC nR nL nF par wt (fun r => nI (sk r)) (fun r => nI (fk r)) hd rea sig ++ (WF FA (fun k => mc k * 40 + mp k * 4 + mm k) mf md mv nx nF ++ ((ob, .inl (cL, 1, .inr (.inl ov9))) : Nat × va_E) :: WM cI cZ b nC nR nL nF par wt (fun r => nI (sk r)) (fun r => nI (fk r)) mc mp mm mf md mv mder mkn thr)) H ∧ va_D A (WD cI cO a FA nC nR nL nF par wt (fun r => nI (sk r)) (fun r => nI (fk r)) hd rea sig ++ (WF FA (fun k => mc k * 40 + mp k * 4 + mm k) mf md mv nx nF ++ ((ob, .inl (cL, 1, .inr (.inl ov9))) : Nat × va_E) :: WM cI cZ b nC nR nL nF par wt (fun r => nI (sk r)) (fun r => nI (fk r)) mc mp mm mf md mv mder mkn thr)) := hB9
    obtain ⟨hP, hD⟩ := hB9
    have h809 := hR9.2.2
    refine lv_istore (lv' := [(5, .int 3), (4, .int (nI i)), (3, .ref ob), (2, .ref (b 0)), (1, .ref (a 0)), (0, .ref b0)]) hx hb dL_law_467 hl (by decide) rfl (fun ls hl => ?_)
    refine lv_aload_n hx hb dL_law_469 rfl (lv_at hl 3 rfl) ?_
    refine lv_aload_n hx hb dL_law_470 rfl (lv_at hl 5 rfl) ?_
    refine lv_iload hx hb dL_law_471 (lv_at hl 1 rfl) ?_
    refine lv_iconst (v := 1) hx hb dL_law_473 (by decide) ?_
    refine lv_iadd hx hb dL_law_474 ?_
    refine lv_topi (fun dv edv => ?_)
    obtain rfl : dv = nI (i + 1) := by rw [edv]; exact nI_add i 1
    refine va_sld hx hb hX hb0 hbA hS (vp_in_nI (n := (i + 1)) (by omega) (by omega)) dL_law_475 ?_
    rw [nI_clamp (by omega)]
    refine lv_aload_n hx hb dL_law_476 rfl (lv_at hl 5 rfl) ?_
    refine lv_iload hx hb dL_law_477 (lv_at hl 1 rfl) ?_
    refine lv_iconst (v := 2) hx hb dL_law_479 (by decide) ?_
    refine lv_iadd hx hb dL_law_480 ?_
    refine lv_topi (fun dv edv => ?_)
    obtain rfl : dv = nI (i + 2) := by rw [edv]; exact nI_add i 2
    refine va_sld hx hb hX hb0 hbA hS (vp_in_nI (n := (i + 2)) (by omega) (by omega)) dL_law_481 ?_
    rw [nI_clamp (by omega)]
    refine lv_aload_n hx hb dL_law_482 rfl (lv_at hl 5 rfl) ?_
    refine lv_iload hx hb dL_law_483 (lv_at hl 1 rfl) ?_
    refine lv_iconst (v := 3) hx hb dL_law_485 (by decide) ?_
    refine lv_iadd hx hb dL_law_486 ?_
    refine lv_topi (fun dv edv => ?_)
    obtain rfl : dv = nI (i + 3) := by rw [edv]; exact nI_add i 3
    refine va_sld hx hb hX hb0 hbA hS (vp_in_nI (n := (i + 3)) (by omega) (by omega)) dL_law_487 ?_
    rw [nI_clamp (by omega)]
    refine lv_aload_n hx hb dL_law_488 rfl (lv_at hl 5 rfl) ?_
    refine lv_iload hx hb dL_law_489 (lv_at hl 1 rfl) ?_
    refine lv_iconst (v := 4) hx hb dL_law_491 (by decide) ?_
    refine lv_iadd hx hb dL_law_492 ?_
    refine lv_topi (fun dv edv => ?_)
    obtain rfl : dv = nI (i + 4) := by rw [edv]; exact nI_add i 4
    refine va_sld hx hb hX hb0 hbA hS (vp_in_nI (n := (i + 4)) (by omega) (by omega)) dL_law_493 ?_
    rw [nI_clamp (by omega)]
    refine lv_aload_n hx hb dL_law_494 rfl (lv_at hl 5 rfl) ?_
    refine lv_iload hx hb dL_law_495 (lv_at hl 1 rfl) ?_
    refine lv_iconst (v := 5) hx hb dL_law_497 (by decide) ?_
    refine lv_iadd hx hb dL_law_498 ?_
    refine lv_topi (fun dv edv => ?_)
    obtain rfl : dv = nI (i + 5) := by rw [edv]; exact nI_add i 5
    refine va_sld hx hb hX hb0 hbA hS (vp_in_nI (n := (i + 5)) (by omega) (by omega)) dL_law_499 ?_
    rw [nI_clamp (by omega)]
    have hP := va_P_perm hP (lperm (WD cI cO a FA nC nR nL nF par wt (fun r => nI (sk r)) (fun r => nI (fk r)) hd rea sig) (WF FA (fun k => mc k * 40 + mp k * 4 + mm k) mf md mv nx nF) (WM cI cZ b nC nR nL nF par wt (fun r => nI (sk r)) (fun r => nI (fk r)) mc mp mm mf md mv mder mkn thr) ((ob, .inl (cL, 1, .inr (.inl ov9))) : Nat × va_E))
    have hD := va_D_perm hD (lperm (WD cI cO a FA nC nR nL nF par wt (fun r => nI (sk r)) (fun r => nI (fk r)) hd rea sig) (WF FA (fun k => mc k * 40 + mp k * 4 + mm k) mf md mv nx nF) (WM cI cZ b nC nR nL nF par wt (fun r => nI (sk r)) (fun r => nI (fk r)) mc mp mm mf md mv mder mkn thr) ((ob, .inl (cL, 1, .inr (.inl ov9))) : Nat × va_E))
    refine va_calli (va_runV (As := [.int (xs (i + 1)), .int (xs (i + 2)), .int (xs (i + 3)), .int (xs (i + 4)), .int (xs (i + 5))]) (rest := []) ⟨hx, hb, hml, hown, hts⟩ (c5_tell_3 l D cI cZ cO cL dt A b nC nR nL nF par wt (fun r => nI (sk r)) (fun r => nI (fk r)) mc mp mm mf md mv mder mkn thr (WD cI cO a FA nC nR nL nF par wt (fun r => nI (sk r)) (fun r => nI (fk r)) hd rea sig ++ (WF FA (fun k => mc k * 40 + mp k * 4 + mm k) mf md mv nx nF ++ [((ob, .inl (cL, 1, .inr (.inl ov9))) : Nat × va_E)])) (xs (i + 1)) (xs (i + 2)) (xs (i + 3)) (xs (i + 4)) (xs (i + 5)) ((key_iff hC12).mpr hR9.1) hR9.2.1.1 (cOk4.mpr hR9.2.1.2) (by omega)) (cwV 5 hts gL_law_X5_tell rfl rfl rfl (by decide +kernel) ⟨(Nat.le_of_ble_eq_true rfl), (Nat.le_of_ble_eq_true rfl)⟩) (gP.v (hg.on hS) hP 4 rfl 0 rfl ⟨hP, hD⟩) rfl rfl hl.1 rfl (lv_room (Nat.le_of_ble_eq_true rfl)) dL_law_500 ⟨by show cells + 4 + 0 ≤ 601024; omega, by show slots + 23 + 0 ≤ 7293034; omega⟩) hS (fun q _ h => h) (fun q h => h) (fun b9 u8 t8 H locs ht8 hvm8 hw8 hB8 hz8 hk8 hS => ?_)
    rw [ht8] at hB8
    obtain ⟨hP, hD⟩ := hB8
    have hP : va_P D vwCl (WM cI cZ b nC nR nL nF par wt (fun r => nI (sk r)) (fun r => nI (fk r)) mc mp mm mf md mv mder mkn 3 ++ (WD cI cO a FA nC nR nL nF par wt (fun r => nI (sk r)) (fun r => nI (fk r)) hd rea sig ++ (WF FA (fun k => mc k * 40 + mp k * 4 + mm k) mf md mv nx nF ++ [((ob, .inl (cL, 1, .inr (.inl ov9))) : Nat × va_E)]))) H := hP
    have hD : va_D A (WM cI cZ b nC nR nL nF par wt (fun r => nI (sk r)) (fun r => nI (fk r)) mc mp mm mf md mv mder mkn 3 ++ (WD cI cO a FA nC nR nL nF par wt (fun r => nI (sk r)) (fun r => nI (fk r)) hd rea sig ++ (WF FA (fun k => mc k * 40 + mp k * 4 + mm k) mf md mv nx nF ++ [((ob, .inl (cL, 1, .inr (.inl ov9))) : Nat × va_E)]))) := hD
    refine lv_istore (lv' := [(6, .int b9), (5, .int 3), (4, .int (nI i)), (3, .ref ob), (2, .ref (b 0)), (1, .ref (a 0)), (0, .ref b0)]) hx hb dL_law_503 hl (by decide) rfl (fun ls hl => ?_)
    refine lv_aload_n hx hb dL_law_505 rfl (lv_at hl 4 rfl) ?_
    refine g_csi (va_runV (As := []) (rest := []) ⟨hx, hb, hml, hown, hts⟩ (c5_thrown l D cI cZ cO cL dt A b nC nR nL nF par wt (fun r => nI (sk r)) (fun r => nI (fk r)) mc mp mm mf md mv mder mkn 3 (WD cI cO a FA nC nR nL nF par wt (fun r => nI (sk r)) (fun r => nI (fk r)) hd rea sig ++ (WF FA (fun k => mc k * 40 + mp k * 4 + mm k) mf md mv nx nF ++ [((ob, .inl (cL, 1, .inr (.inl ov9))) : Nat × va_E)]))) (cwV 0 hts gL_law_X5_thrown rfl rfl rfl (by decide +kernel) ⟨(Nat.le_of_ble_eq_true rfl), (Nat.le_of_ble_eq_true rfl)⟩) (gP.v (hg.on hS) hP 4 rfl 0 rfl hP) rfl rfl hl.1 rfl (lv_room (Nat.le_of_ble_eq_true rfl)) dL_law_506 ⟨by show cells + 4 + 0 + 0 ≤ 601024; omega, by show slots + 23 + 0 + 0 ≤ 7293034; omega⟩) (fun t7 ht7 => ?_)
    obtain rfl : t7 = 3 := ht7
    have hP := va_P_perm hP (lperm (WD cI cO a FA nC nR nL nF par wt (fun r => nI (sk r)) (fun r => nI (fk r)) hd rea sig) (WF FA (fun k => mc k * 40 + mp k * 4 + mm k) mf md mv nx nF) (WM cI cZ b nC nR nL nF par wt (fun r => nI (sk r)) (fun r => nI (fk r)) mc mp mm mf md mv mder mkn 3) ((ob, .inl (cL, 1, .inr (.inl ov9))) : Nat × va_E)).symm
    have hD := va_D_perm hD (lperm (WD cI cO a FA nC nR nL nF par wt (fun r => nI (sk r)) (fun r => nI (fk r)) hd rea sig) (WF FA (fun k => mc k * 40 + mp k * 4 + mm k) mf md mv nx nF) (WM cI cZ b nC nR nL nF par wt (fun r => nI (sk r)) (fun r => nI (fk r)) mc mp mm mf md mv mder mkn 3) ((ob, .inl (cL, 1, .inr (.inl ov9))) : Nat × va_E)).symm
    refine lv_iload hx hb dL_law_509 (lv_at hl 1 rfl) ?_
    refine lv_icmp_eq (tgt := 516) hx hb dL_law_511 (by decide) (fun c_511 => ?_) (fun c_511 => ?_)
    · skip
      refine lv_iload hx hb dL_law_516 (lv_at hl 1 rfl) ?_
      refine lv_if_ne (tgt := 533) hx hb dL_law_518 (by decide) (fun c_518 => ?_) (fun c_518 => ?_)
      · skip
        refine lv_goto (tgt := 1413) hx hb dL_law_533 (by decide) ?_
        refine W.widen (k := cells + 4) (n := slots + 24) (by omega) (by omega) ?_
        exact kk _ _ _ ⟨FA, nC, nR, nL, nF, par, wt, sk, fk, hd, rea, sig, mc, mp, mm, mf, md, mv, nx, mder, mkn, 3, ov9, L, hOk, hP, hD⟩ hS (lv_sub hl [2, 3, 4, 5, 6] rfl)
      · skip
        exact absurd c_518 (by decide)
    · skip
      exact absurd c_511 (by decide)
