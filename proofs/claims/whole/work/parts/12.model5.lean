set_option maxHeartbeats 4000000 in
set_option maxRecDepth 100000 in
/-- a stock that does not roll forward -/
theorem c5_isOffByRoll (l : Launch) (D : va_G) (cI cZ cO cL : ClassId) (dt : Nat) (A : Nat → Prop) (b : Nat → Nat) (mC mR mL mF : Nat) (mpar mwt mstk mflw : Nat → Int32) (mc mp mm mf md : Nat → Nat) (mv mder mkn : Nat → Int32) (thr : Int32) (R : va_W) (r : Nat) (p m f : Int32) (hF : mF ≤ 80) (hC : mC ≤ 12) (hmf : ∀ k, mf k < 2 ^ 31) (hmd : ∀ k, md k < 2 ^ 31) (hr5 : r < 5) : Met l yX5_isOffByRoll wsX5_isOffByRoll ({ frames := 2, cells := 0, slots := 0, locals := 51 } : Room) (gP D cI cZ cO cL dt A [.ref (b 0), .int (nI r), .int p, .int m, .int f] (fun H => va_P D vwCl (WM cI cZ b mC mR mL mF mpar mwt mstk mflw mc mp mm mf md mv mder mkn thr ++ R) H)) (vp_Si (fun z => z = bI (rollOff p (hM mc mp mm mf md mF (mstk r) p m f) (hM mc mp mm mf md mF (mstk r) (p - 1) m f) (hM mc mp mm mf md mF (mflw r) p m f) md mv = true))) 0 0 (fun _ => False) := by
  refine Met.ofW (cc := cX5_isOffByRoll) (maxL := 9) (ret := (some .boolean)) (by decide) rfl ?_
  intro p9 e9 s m9 args below meth c9 s₁ B hml hv
  obtain ⟨rfl, hg, hP⟩ := hv
  have hx := B.exec
  have hb := B.bytes
  have hr := B.returns
  have hts := atoms_spec (ws := wsX5_isOffByRoll) B.pre
  have hown : s.vm.findClass RX5 = some m9.cls := findClass_of_methodNamed B.named
  have hlocks := B.notSynchronized
  have hK := hg.1
  have w_0 := hts (.fieldLink RX5 16 "DimfactsModel" "stock" "[I") (by decide +kernel)
  have win_X5 : ∀ w ∈ wsX50, w ∈ wsX5_isOffByRoll := by decide +kernel
  have w_2 := hts (.fieldLink RX5 19 "DimfactsModel" "flow" "[I") (by decide +kernel)
  have w_3 := hts (.fieldLink RX5 38 "DimfactsModel" "value" "[I") (by decide +kernel)
  have hl := lv_entry ([.ref (b 0), .int (nI r), .int p, .int m, .int f]) (n := 9) (Nat.le_of_ble_eq_true rfl)
  rw [lg_entry_eq]
  generalize (lg_sl ([.ref (b 0), .int (nI r), .int p, .int m, .int f]) ++ List.replicate (9 - (lg_sl ([.ref (b 0), .int (nI r), .int p, .int m, .int f])).length) Slot.unset).toArray = ls at hl ⊢
  have hl : lv_has ls 9 [(0, .ref (b 0)), (1, .int (nI r)), (2, .int p), (3, .int m), (4, .int f)] := hl
  refine lv_aload_n hx hb dX5_isOffByRoll_0 rfl (lv_at hl 0 rfl) ?_
  refine lv_aload_n hx hb dX5_isOffByRoll_1 rfl (lv_at hl 0 rfl) ?_
  refine va_get (D := D) (ci := 4) (v := .ref (b 3)) (C := RX5) (T := TX5) (N := 17) hx hb hts win_X5 hown hK hP (0) (rfl) rfl 4 (by decide) w_0 (fun _ h9 => h9) rfl dX5_isOffByRoll_2 ?_
  refine lv_iload_n hx hb dX5_isOffByRoll_5 rfl (lv_at hl 1 rfl) ?_
  refine g_iald hx hb hK hP (3) 0 (n := 5) (f := mstk) (rfl) rfl r rfl (by omega) (by decide) dX5_isOffByRoll_6 ?_
  refine lv_iload_n hx hb dX5_isOffByRoll_7 rfl (lv_at hl 2 rfl) ?_
  refine lv_iload_n hx hb dX5_isOffByRoll_8 rfl (lv_at hl 3 rfl) ?_
  refine lv_iload hx hb dX5_isOffByRoll_9 (lv_at hl 4 rfl) ?_
  refine g_csi (va_runV (As := [.int (mstk r), .int p, .int m, .int f]) (rest := []) ⟨hx, hb, hml, hown, hts⟩ (c5_holds l D cI cZ cO cL dt A b mC mR mL mF mpar mwt mstk mflw mc mp mm mf md mv mder mkn thr R (mstk r) p m f hF hmf hmd) (cwV 4 hts gX5_isOffByRoll_X5_holds rfl rfl rfl (by decide +kernel) ⟨Nat.le_of_ble_eq_true rfl, Nat.le_of_ble_eq_true rfl⟩) (gP.v hg hP 4 rfl (0) (rfl) hP) rfl rfl hl.1 rfl (lv_room (Nat.le_of_ble_eq_true rfl)) dX5_isOffByRoll_11 ⟨Nat.le_of_ble_eq_true rfl, Nat.le_of_ble_eq_true rfl⟩) (fun r_1 hr_1 => ?_)
  obtain ⟨o_r_1, hA⟩ : ∃ z, hM mc mp mm mf md mF (mstk r) p m f = z := ⟨_, rfl⟩
  rcases o_r_1 with _ | ja
  · skip
    obtain rfl : r_1 = (-1) := hr_1.trans (congrArg oI hA)
    refine lv_istore (lv' := [(5, .int (-1)), (0, .ref (b 0)), (1, .int (nI r)), (2, .int p), (3, .int m), (4, .int f)]) hx hb dX5_isOffByRoll_14 hl (by decide) rfl (fun ls hl => ?_)
    refine lv_aload_n hx hb dX5_isOffByRoll_16 rfl (lv_at hl 1 rfl) ?_
    refine lv_aload_n hx hb dX5_isOffByRoll_17 rfl (lv_at hl 1 rfl) ?_
    refine va_get (D := D) (ci := 4) (v := .ref (b 3)) (C := RX5) (T := TX5) (N := 17) hx hb hts win_X5 hown hK hP (0) (rfl) rfl 4 (by decide) w_0 (fun _ h9 => h9) rfl dX5_isOffByRoll_18 ?_
    refine lv_iload_n hx hb dX5_isOffByRoll_21 rfl (lv_at hl 2 rfl) ?_
    refine g_iald hx hb hK hP (3) 0 (n := 5) (f := mstk) (rfl) rfl r rfl (by omega) (by decide) dX5_isOffByRoll_22 ?_
    refine lv_iload_n hx hb dX5_isOffByRoll_23 rfl (lv_at hl 3 rfl) ?_
    refine lv_iconst (v := 1) hx hb dX5_isOffByRoll_24 (by decide) ?_
    refine lv_isub hx hb dX5_isOffByRoll_25 ?_
    refine lv_iload_n hx hb dX5_isOffByRoll_26 rfl (lv_at hl 4 rfl) ?_
    refine lv_iload hx hb dX5_isOffByRoll_27 (lv_at hl 5 rfl) ?_
    refine g_csi (va_runV (As := [.int (mstk r), .int (p - 1), .int m, .int f]) (rest := []) ⟨hx, hb, hml, hown, hts⟩ (c5_holds l D cI cZ cO cL dt A b mC mR mL mF mpar mwt mstk mflw mc mp mm mf md mv mder mkn thr R (mstk r) (p - 1) m f hF hmf hmd) (cwV 4 hts gX5_isOffByRoll_X5_holds rfl rfl rfl (by decide +kernel) ⟨Nat.le_of_ble_eq_true rfl, Nat.le_of_ble_eq_true rfl⟩) (gP.v hg hP 4 rfl (0) (rfl) hP) rfl rfl hl.1 rfl (lv_room (Nat.le_of_ble_eq_true rfl)) dX5_isOffByRoll_29 ⟨Nat.le_of_ble_eq_true rfl, Nat.le_of_ble_eq_true rfl⟩) (fun r_2 hr_2 => ?_)
    obtain ⟨o_r_2, hB⟩ : ∃ z, hM mc mp mm mf md mF (mstk r) (p - 1) m f = z := ⟨_, rfl⟩
    rcases o_r_2 with _ | jb
    · skip
      obtain rfl : r_2 = (-1) := hr_2.trans (congrArg oI hB)
      refine lv_istore (lv' := [(6, .int (-1)), (5, .int (-1)), (0, .ref (b 0)), (1, .int (nI r)), (2, .int p), (3, .int m), (4, .int f)]) hx hb dX5_isOffByRoll_32 hl (by decide) rfl (fun ls hl => ?_)
      refine lv_aload_n hx hb dX5_isOffByRoll_34 rfl (lv_at hl 2 rfl) ?_
      refine lv_aload_n hx hb dX5_isOffByRoll_35 rfl (lv_at hl 2 rfl) ?_
      refine va_get (D := D) (ci := 4) (v := .ref (b 4)) (C := RX5) (T := TX5) (N := 17) hx hb hts win_X5 hown hK hP (0) (rfl) rfl 5 (by decide) w_2 (fun _ h9 => h9) rfl dX5_isOffByRoll_36 ?_
      refine lv_iload_n hx hb dX5_isOffByRoll_39 rfl (lv_at hl 3 rfl) ?_
      refine g_iald hx hb hK hP (4) 0 (n := 5) (f := mflw) (rfl) rfl r rfl (by omega) (by decide) dX5_isOffByRoll_40 ?_
      refine lv_iload_n hx hb dX5_isOffByRoll_41 rfl (lv_at hl 4 rfl) ?_
      refine lv_iload_n hx hb dX5_isOffByRoll_42 rfl (lv_at hl 5 rfl) ?_
      refine lv_iload hx hb dX5_isOffByRoll_43 (lv_at hl 6 rfl) ?_
      refine g_csi (va_runV (As := [.int (mflw r), .int p, .int m, .int f]) (rest := []) ⟨hx, hb, hml, hown, hts⟩ (c5_holds l D cI cZ cO cL dt A b mC mR mL mF mpar mwt mstk mflw mc mp mm mf md mv mder mkn thr R (mflw r) p m f hF hmf hmd) (cwV 4 hts gX5_isOffByRoll_X5_holds rfl rfl rfl (by decide +kernel) ⟨Nat.le_of_ble_eq_true rfl, Nat.le_of_ble_eq_true rfl⟩) (gP.v hg hP 4 rfl (0) (rfl) hP) rfl rfl hl.1 rfl (lv_room (Nat.le_of_ble_eq_true rfl)) dX5_isOffByRoll_45 ⟨Nat.le_of_ble_eq_true rfl, Nat.le_of_ble_eq_true rfl⟩) (fun r_3 hr_3 => ?_)
      obtain ⟨o_r_3, hC2⟩ : ∃ z, hM mc mp mm mf md mF (mflw r) p m f = z := ⟨_, rfl⟩
      rcases o_r_3 with _ | jc
      · skip
        obtain rfl : r_3 = (-1) := hr_3.trans (congrArg oI hC2)
        refine lv_istore (lv' := [(7, .int (-1)), (6, .int (-1)), (5, .int (-1)), (0, .ref (b 0)), (1, .int (nI r)), (2, .int p), (3, .int m), (4, .int f)]) hx hb dX5_isOffByRoll_48 hl (by decide) rfl (fun ls hl => ?_)
        refine lv_iload_n hx hb dX5_isOffByRoll_50 rfl (lv_at hl 5 rfl) ?_
        refine lv_if_le (tgt := 76) hx hb dX5_isOffByRoll_51 (by decide) (fun c_51 => ?_) (fun c_51 => ?_)
        · skip
          refine lv_iconst (v := 0) hx hb dX5_isOffByRoll_76 (by decide) ?_
          refine lv_istore (lv' := [(8, .int 0), (7, .int (-1)), (6, .int (-1)), (5, .int (-1)), (0, .ref (b 0)), (1, .int (nI r)), (2, .int p), (3, .int m), (4, .int f)]) hx hb dX5_isOffByRoll_77 hl (by decide) rfl (fun ls hl => ?_)
          refine lv_iload hx hb dX5_isOffByRoll_79 (lv_at hl 0 rfl) ?_
          refine lv_if_eq (tgt := 136) hx hb dX5_isOffByRoll_81 (by decide) (fun c_81 => ?_) (fun c_81 => ?_)
          · skip
            refine lv_iconst (v := 0) hx hb dX5_isOffByRoll_136 (by decide) ?_
            exact W.zret (v := 0) hx hb hr (rfl) (fun t ht hW => ⟨0, rfl, (bI_f (by unfold rollOff; rw [hA, hB, hC2]; first | (simp; done) | (simp only [Bool.and_eq_true, decide_eq_true_eq]; intro q; first | exact absurd q.1 (i_len c_51) | exact c_129 q.2))), ht⟩) (fun q h => nomatch h) dX5_isOffByRoll_137
          · skip
            exact absurd c_81 (by decide)
        · skip
          refine lv_iload hx hb dX5_isOffByRoll_54 (lv_at hl 2 rfl) ?_
          refine lv_iconst (v := (-1)) hx hb dX5_isOffByRoll_56 (by decide) ?_
          refine lv_icmp_eq (tgt := 76) hx hb dX5_isOffByRoll_57 (by decide) (fun c_57 => ?_) (fun c_57 => ?_)
          · skip
            refine lv_iconst (v := 0) hx hb dX5_isOffByRoll_76 (by decide) ?_
            refine lv_istore (lv' := [(8, .int 0), (7, .int (-1)), (6, .int (-1)), (5, .int (-1)), (0, .ref (b 0)), (1, .int (nI r)), (2, .int p), (3, .int m), (4, .int f)]) hx hb dX5_isOffByRoll_77 hl (by decide) rfl (fun ls hl => ?_)
            refine lv_iload hx hb dX5_isOffByRoll_79 (lv_at hl 0 rfl) ?_
            refine lv_if_eq (tgt := 136) hx hb dX5_isOffByRoll_81 (by decide) (fun c_81 => ?_) (fun c_81 => ?_)
            · skip
              refine lv_iconst (v := 0) hx hb dX5_isOffByRoll_136 (by decide) ?_
              exact W.zret (v := 0) hx hb hr (rfl) (fun t ht hW => ⟨0, rfl, (bI_f (by unfold rollOff; rw [hA, hB, hC2]; first | (simp; done) | (simp only [Bool.and_eq_true, decide_eq_true_eq]; intro q; first | exact absurd q.1 (i_len c_51) | exact c_129 q.2))), ht⟩) (fun q h => nomatch h) dX5_isOffByRoll_137
            · skip
              exact absurd c_81 (by decide)
          · skip
            exact absurd c_57 (by decide)
      · skip
        obtain rfl : r_3 = nI jc := hr_3.trans (congrArg oI hC2)
        have hjc := (sel_lt hC2).1
        refine lv_istore (lv' := [(7, .int (nI jc)), (6, .int (-1)), (5, .int (-1)), (0, .ref (b 0)), (1, .int (nI r)), (2, .int p), (3, .int m), (4, .int f)]) hx hb dX5_isOffByRoll_48 hl (by decide) rfl (fun ls hl => ?_)
        refine lv_iload_n hx hb dX5_isOffByRoll_50 rfl (lv_at hl 5 rfl) ?_
        refine lv_if_le (tgt := 76) hx hb dX5_isOffByRoll_51 (by decide) (fun c_51 => ?_) (fun c_51 => ?_)
        · skip
          refine lv_iconst (v := 0) hx hb dX5_isOffByRoll_76 (by decide) ?_
          refine lv_istore (lv' := [(8, .int 0), (7, .int (nI jc)), (6, .int (-1)), (5, .int (-1)), (0, .ref (b 0)), (1, .int (nI r)), (2, .int p), (3, .int m), (4, .int f)]) hx hb dX5_isOffByRoll_77 hl (by decide) rfl (fun ls hl => ?_)
          refine lv_iload hx hb dX5_isOffByRoll_79 (lv_at hl 0 rfl) ?_
          refine lv_if_eq (tgt := 136) hx hb dX5_isOffByRoll_81 (by decide) (fun c_81 => ?_) (fun c_81 => ?_)
          · skip
            refine lv_iconst (v := 0) hx hb dX5_isOffByRoll_136 (by decide) ?_
            exact W.zret (v := 0) hx hb hr (rfl) (fun t ht hW => ⟨0, rfl, (bI_f (by unfold rollOff; rw [hA, hB, hC2]; first | (simp; done) | (simp only [Bool.and_eq_true, decide_eq_true_eq]; intro q; first | exact absurd q.1 (i_len c_51) | exact c_129 q.2))), ht⟩) (fun q h => nomatch h) dX5_isOffByRoll_137
          · skip
            exact absurd c_81 (by decide)
        · skip
          refine lv_iload hx hb dX5_isOffByRoll_54 (lv_at hl 2 rfl) ?_
          refine lv_iconst (v := (-1)) hx hb dX5_isOffByRoll_56 (by decide) ?_
          refine lv_icmp_eq (tgt := 76) hx hb dX5_isOffByRoll_57 (by decide) (fun c_57 => ?_) (fun c_57 => ?_)
          · skip
            refine lv_iconst (v := 0) hx hb dX5_isOffByRoll_76 (by decide) ?_
            refine lv_istore (lv' := [(8, .int 0), (7, .int (nI jc)), (6, .int (-1)), (5, .int (-1)), (0, .ref (b 0)), (1, .int (nI r)), (2, .int p), (3, .int m), (4, .int f)]) hx hb dX5_isOffByRoll_77 hl (by decide) rfl (fun ls hl => ?_)
            refine lv_iload hx hb dX5_isOffByRoll_79 (lv_at hl 0 rfl) ?_
            refine lv_if_eq (tgt := 136) hx hb dX5_isOffByRoll_81 (by decide) (fun c_81 => ?_) (fun c_81 => ?_)
            · skip
              refine lv_iconst (v := 0) hx hb dX5_isOffByRoll_136 (by decide) ?_
              exact W.zret (v := 0) hx hb hr (rfl) (fun t ht hW => ⟨0, rfl, (bI_f (by unfold rollOff; rw [hA, hB, hC2]; first | (simp; done) | (simp only [Bool.and_eq_true, decide_eq_true_eq]; intro q; first | exact absurd q.1 (i_len c_51) | exact c_129 q.2))), ht⟩) (fun q h => nomatch h) dX5_isOffByRoll_137
            · skip
              exact absurd c_81 (by decide)
          · skip
            exact absurd c_57 (by decide)
    · skip
      obtain rfl : r_2 = nI jb := hr_2.trans (congrArg oI hB)
      have hjb := (sel_lt hB).1
      refine lv_istore (lv' := [(6, .int (nI jb)), (5, .int (-1)), (0, .ref (b 0)), (1, .int (nI r)), (2, .int p), (3, .int m), (4, .int f)]) hx hb dX5_isOffByRoll_32 hl (by decide) rfl (fun ls hl => ?_)
      refine lv_aload_n hx hb dX5_isOffByRoll_34 rfl (lv_at hl 2 rfl) ?_
      refine lv_aload_n hx hb dX5_isOffByRoll_35 rfl (lv_at hl 2 rfl) ?_
      refine va_get (D := D) (ci := 4) (v := .ref (b 4)) (C := RX5) (T := TX5) (N := 17) hx hb hts win_X5 hown hK hP (0) (rfl) rfl 5 (by decide) w_2 (fun _ h9 => h9) rfl dX5_isOffByRoll_36 ?_
      refine lv_iload_n hx hb dX5_isOffByRoll_39 rfl (lv_at hl 3 rfl) ?_
      refine g_iald hx hb hK hP (4) 0 (n := 5) (f := mflw) (rfl) rfl r rfl (by omega) (by decide) dX5_isOffByRoll_40 ?_
      refine lv_iload_n hx hb dX5_isOffByRoll_41 rfl (lv_at hl 4 rfl) ?_
      refine lv_iload_n hx hb dX5_isOffByRoll_42 rfl (lv_at hl 5 rfl) ?_
      refine lv_iload hx hb dX5_isOffByRoll_43 (lv_at hl 6 rfl) ?_
      refine g_csi (va_runV (As := [.int (mflw r), .int p, .int m, .int f]) (rest := []) ⟨hx, hb, hml, hown, hts⟩ (c5_holds l D cI cZ cO cL dt A b mC mR mL mF mpar mwt mstk mflw mc mp mm mf md mv mder mkn thr R (mflw r) p m f hF hmf hmd) (cwV 4 hts gX5_isOffByRoll_X5_holds rfl rfl rfl (by decide +kernel) ⟨Nat.le_of_ble_eq_true rfl, Nat.le_of_ble_eq_true rfl⟩) (gP.v hg hP 4 rfl (0) (rfl) hP) rfl rfl hl.1 rfl (lv_room (Nat.le_of_ble_eq_true rfl)) dX5_isOffByRoll_45 ⟨Nat.le_of_ble_eq_true rfl, Nat.le_of_ble_eq_true rfl⟩) (fun r_4 hr_4 => ?_)
      obtain ⟨o_r_4, hC2⟩ : ∃ z, hM mc mp mm mf md mF (mflw r) p m f = z := ⟨_, rfl⟩
      rcases o_r_4 with _ | jc
      · skip
        obtain rfl : r_4 = (-1) := hr_4.trans (congrArg oI hC2)
        refine lv_istore (lv' := [(7, .int (-1)), (6, .int (nI jb)), (5, .int (-1)), (0, .ref (b 0)), (1, .int (nI r)), (2, .int p), (3, .int m), (4, .int f)]) hx hb dX5_isOffByRoll_48 hl (by decide) rfl (fun ls hl => ?_)
        refine lv_iload_n hx hb dX5_isOffByRoll_50 rfl (lv_at hl 5 rfl) ?_
        refine lv_if_le (tgt := 76) hx hb dX5_isOffByRoll_51 (by decide) (fun c_51 => ?_) (fun c_51 => ?_)
        · skip
          refine lv_iconst (v := 0) hx hb dX5_isOffByRoll_76 (by decide) ?_
          refine lv_istore (lv' := [(8, .int 0), (7, .int (-1)), (6, .int (nI jb)), (5, .int (-1)), (0, .ref (b 0)), (1, .int (nI r)), (2, .int p), (3, .int m), (4, .int f)]) hx hb dX5_isOffByRoll_77 hl (by decide) rfl (fun ls hl => ?_)
          refine lv_iload hx hb dX5_isOffByRoll_79 (lv_at hl 0 rfl) ?_
          refine lv_if_eq (tgt := 136) hx hb dX5_isOffByRoll_81 (by decide) (fun c_81 => ?_) (fun c_81 => ?_)
          · skip
            refine lv_iconst (v := 0) hx hb dX5_isOffByRoll_136 (by decide) ?_
            exact W.zret (v := 0) hx hb hr (rfl) (fun t ht hW => ⟨0, rfl, (bI_f (by unfold rollOff; rw [hA, hB, hC2]; first | (simp; done) | (simp only [Bool.and_eq_true, decide_eq_true_eq]; intro q; first | exact absurd q.1 (i_len c_51) | exact c_129 q.2))), ht⟩) (fun q h => nomatch h) dX5_isOffByRoll_137
          · skip
            exact absurd c_81 (by decide)
        · skip
          refine lv_iload hx hb dX5_isOffByRoll_54 (lv_at hl 2 rfl) ?_
          refine lv_iconst (v := (-1)) hx hb dX5_isOffByRoll_56 (by decide) ?_
          refine lv_icmp_eq (tgt := 76) hx hb dX5_isOffByRoll_57 (by decide) (fun c_57 => ?_) (fun c_57 => ?_)
          · skip
            refine lv_iconst (v := 0) hx hb dX5_isOffByRoll_76 (by decide) ?_
            refine lv_istore (lv' := [(8, .int 0), (7, .int (-1)), (6, .int (nI jb)), (5, .int (-1)), (0, .ref (b 0)), (1, .int (nI r)), (2, .int p), (3, .int m), (4, .int f)]) hx hb dX5_isOffByRoll_77 hl (by decide) rfl (fun ls hl => ?_)
            refine lv_iload hx hb dX5_isOffByRoll_79 (lv_at hl 0 rfl) ?_
            refine lv_if_eq (tgt := 136) hx hb dX5_isOffByRoll_81 (by decide) (fun c_81 => ?_) (fun c_81 => ?_)
            · skip
              refine lv_iconst (v := 0) hx hb dX5_isOffByRoll_136 (by decide) ?_
              exact W.zret (v := 0) hx hb hr (rfl) (fun t ht hW => ⟨0, rfl, (bI_f (by unfold rollOff; rw [hA, hB, hC2]; first | (simp; done) | (simp only [Bool.and_eq_true, decide_eq_true_eq]; intro q; first | exact absurd q.1 (i_len c_51) | exact c_129 q.2))), ht⟩) (fun q h => nomatch h) dX5_isOffByRoll_137
            · skip
              exact absurd c_81 (by decide)
          · skip
            exact absurd c_57 (by decide)
      · skip
        obtain rfl : r_4 = nI jc := hr_4.trans (congrArg oI hC2)
        have hjc := (sel_lt hC2).1
        refine lv_istore (lv' := [(7, .int (nI jc)), (6, .int (nI jb)), (5, .int (-1)), (0, .ref (b 0)), (1, .int (nI r)), (2, .int p), (3, .int m), (4, .int f)]) hx hb dX5_isOffByRoll_48 hl (by decide) rfl (fun ls hl => ?_)
        refine lv_iload_n hx hb dX5_isOffByRoll_50 rfl (lv_at hl 5 rfl) ?_
        refine lv_if_le (tgt := 76) hx hb dX5_isOffByRoll_51 (by decide) (fun c_51 => ?_) (fun c_51 => ?_)
        · skip
          refine lv_iconst (v := 0) hx hb dX5_isOffByRoll_76 (by decide) ?_
          refine lv_istore (lv' := [(8, .int 0), (7, .int (nI jc)), (6, .int (nI jb)), (5, .int (-1)), (0, .ref (b 0)), (1, .int (nI r)), (2, .int p), (3, .int m), (4, .int f)]) hx hb dX5_isOffByRoll_77 hl (by decide) rfl (fun ls hl => ?_)
          refine lv_iload hx hb dX5_isOffByRoll_79 (lv_at hl 0 rfl) ?_
          refine lv_if_eq (tgt := 136) hx hb dX5_isOffByRoll_81 (by decide) (fun c_81 => ?_) (fun c_81 => ?_)
          · skip
            refine lv_iconst (v := 0) hx hb dX5_isOffByRoll_136 (by decide) ?_
            exact W.zret (v := 0) hx hb hr (rfl) (fun t ht hW => ⟨0, rfl, (bI_f (by unfold rollOff; rw [hA, hB, hC2]; first | (simp; done) | (simp only [Bool.and_eq_true, decide_eq_true_eq]; intro q; first | exact absurd q.1 (i_len c_51) | exact c_129 q.2))), ht⟩) (fun q h => nomatch h) dX5_isOffByRoll_137
          · skip
            exact absurd c_81 (by decide)
        · skip
          refine lv_iload hx hb dX5_isOffByRoll_54 (lv_at hl 2 rfl) ?_
          refine lv_iconst (v := (-1)) hx hb dX5_isOffByRoll_56 (by decide) ?_
          refine lv_icmp_eq (tgt := 76) hx hb dX5_isOffByRoll_57 (by decide) (fun c_57 => ?_) (fun c_57 => ?_)
          · skip
            refine lv_iconst (v := 0) hx hb dX5_isOffByRoll_76 (by decide) ?_
            refine lv_istore (lv' := [(8, .int 0), (7, .int (nI jc)), (6, .int (nI jb)), (5, .int (-1)), (0, .ref (b 0)), (1, .int (nI r)), (2, .int p), (3, .int m), (4, .int f)]) hx hb dX5_isOffByRoll_77 hl (by decide) rfl (fun ls hl => ?_)
            refine lv_iload hx hb dX5_isOffByRoll_79 (lv_at hl 0 rfl) ?_
            refine lv_if_eq (tgt := 136) hx hb dX5_isOffByRoll_81 (by decide) (fun c_81 => ?_) (fun c_81 => ?_)
            · skip
              refine lv_iconst (v := 0) hx hb dX5_isOffByRoll_136 (by decide) ?_
              exact W.zret (v := 0) hx hb hr (rfl) (fun t ht hW => ⟨0, rfl, (bI_f (by unfold rollOff; rw [hA, hB, hC2]; first | (simp; done) | (simp only [Bool.and_eq_true, decide_eq_true_eq]; intro q; first | exact absurd q.1 (i_len c_51) | exact c_129 q.2))), ht⟩) (fun q h => nomatch h) dX5_isOffByRoll_137
            · skip
              exact absurd c_81 (by decide)
          · skip
            exact absurd c_57 (by decide)
  · skip
    obtain rfl : r_1 = nI ja := hr_1.trans (congrArg oI hA)
    have hja := (sel_lt hA).1
    refine lv_istore (lv' := [(5, .int (nI ja)), (0, .ref (b 0)), (1, .int (nI r)), (2, .int p), (3, .int m), (4, .int f)]) hx hb dX5_isOffByRoll_14 hl (by decide) rfl (fun ls hl => ?_)
    refine lv_aload_n hx hb dX5_isOffByRoll_16 rfl (lv_at hl 1 rfl) ?_
    refine lv_aload_n hx hb dX5_isOffByRoll_17 rfl (lv_at hl 1 rfl) ?_
    refine va_get (D := D) (ci := 4) (v := .ref (b 3)) (C := RX5) (T := TX5) (N := 17) hx hb hts win_X5 hown hK hP (0) (rfl) rfl 4 (by decide) w_0 (fun _ h9 => h9) rfl dX5_isOffByRoll_18 ?_
    refine lv_iload_n hx hb dX5_isOffByRoll_21 rfl (lv_at hl 2 rfl) ?_
    refine g_iald hx hb hK hP (3) 0 (n := 5) (f := mstk) (rfl) rfl r rfl (by omega) (by decide) dX5_isOffByRoll_22 ?_
    refine lv_iload_n hx hb dX5_isOffByRoll_23 rfl (lv_at hl 3 rfl) ?_
    refine lv_iconst (v := 1) hx hb dX5_isOffByRoll_24 (by decide) ?_
    refine lv_isub hx hb dX5_isOffByRoll_25 ?_
    refine lv_iload_n hx hb dX5_isOffByRoll_26 rfl (lv_at hl 4 rfl) ?_
    refine lv_iload hx hb dX5_isOffByRoll_27 (lv_at hl 5 rfl) ?_
    refine g_csi (va_runV (As := [.int (mstk r), .int (p - 1), .int m, .int f]) (rest := []) ⟨hx, hb, hml, hown, hts⟩ (c5_holds l D cI cZ cO cL dt A b mC mR mL mF mpar mwt mstk mflw mc mp mm mf md mv mder mkn thr R (mstk r) (p - 1) m f hF hmf hmd) (cwV 4 hts gX5_isOffByRoll_X5_holds rfl rfl rfl (by decide +kernel) ⟨Nat.le_of_ble_eq_true rfl, Nat.le_of_ble_eq_true rfl⟩) (gP.v hg hP 4 rfl (0) (rfl) hP) rfl rfl hl.1 rfl (lv_room (Nat.le_of_ble_eq_true rfl)) dX5_isOffByRoll_29 ⟨Nat.le_of_ble_eq_true rfl, Nat.le_of_ble_eq_true rfl⟩) (fun r_5 hr_5 => ?_)
    obtain ⟨o_r_5, hB⟩ : ∃ z, hM mc mp mm mf md mF (mstk r) (p - 1) m f = z := ⟨_, rfl⟩
    rcases o_r_5 with _ | jb
    · skip
      obtain rfl : r_5 = (-1) := hr_5.trans (congrArg oI hB)
      refine lv_istore (lv' := [(6, .int (-1)), (5, .int (nI ja)), (0, .ref (b 0)), (1, .int (nI r)), (2, .int p), (3, .int m), (4, .int f)]) hx hb dX5_isOffByRoll_32 hl (by decide) rfl (fun ls hl => ?_)
      refine lv_aload_n hx hb dX5_isOffByRoll_34 rfl (lv_at hl 2 rfl) ?_
      refine lv_aload_n hx hb dX5_isOffByRoll_35 rfl (lv_at hl 2 rfl) ?_
      refine va_get (D := D) (ci := 4) (v := .ref (b 4)) (C := RX5) (T := TX5) (N := 17) hx hb hts win_X5 hown hK hP (0) (rfl) rfl 5 (by decide) w_2 (fun _ h9 => h9) rfl dX5_isOffByRoll_36 ?_
      refine lv_iload_n hx hb dX5_isOffByRoll_39 rfl (lv_at hl 3 rfl) ?_
      refine g_iald hx hb hK hP (4) 0 (n := 5) (f := mflw) (rfl) rfl r rfl (by omega) (by decide) dX5_isOffByRoll_40 ?_
      refine lv_iload_n hx hb dX5_isOffByRoll_41 rfl (lv_at hl 4 rfl) ?_
      refine lv_iload_n hx hb dX5_isOffByRoll_42 rfl (lv_at hl 5 rfl) ?_
      refine lv_iload hx hb dX5_isOffByRoll_43 (lv_at hl 6 rfl) ?_
      refine g_csi (va_runV (As := [.int (mflw r), .int p, .int m, .int f]) (rest := []) ⟨hx, hb, hml, hown, hts⟩ (c5_holds l D cI cZ cO cL dt A b mC mR mL mF mpar mwt mstk mflw mc mp mm mf md mv mder mkn thr R (mflw r) p m f hF hmf hmd) (cwV 4 hts gX5_isOffByRoll_X5_holds rfl rfl rfl (by decide +kernel) ⟨Nat.le_of_ble_eq_true rfl, Nat.le_of_ble_eq_true rfl⟩) (gP.v hg hP 4 rfl (0) (rfl) hP) rfl rfl hl.1 rfl (lv_room (Nat.le_of_ble_eq_true rfl)) dX5_isOffByRoll_45 ⟨Nat.le_of_ble_eq_true rfl, Nat.le_of_ble_eq_true rfl⟩) (fun r_6 hr_6 => ?_)
      obtain ⟨o_r_6, hC2⟩ : ∃ z, hM mc mp mm mf md mF (mflw r) p m f = z := ⟨_, rfl⟩
      rcases o_r_6 with _ | jc
      · skip
        obtain rfl : r_6 = (-1) := hr_6.trans (congrArg oI hC2)
        refine lv_istore (lv' := [(7, .int (-1)), (6, .int (-1)), (5, .int (nI ja)), (0, .ref (b 0)), (1, .int (nI r)), (2, .int p), (3, .int m), (4, .int f)]) hx hb dX5_isOffByRoll_48 hl (by decide) rfl (fun ls hl => ?_)
        refine lv_iload_n hx hb dX5_isOffByRoll_50 rfl (lv_at hl 5 rfl) ?_
        refine lv_if_le (tgt := 76) hx hb dX5_isOffByRoll_51 (by decide) (fun c_51 => ?_) (fun c_51 => ?_)
        · skip
          refine lv_iconst (v := 0) hx hb dX5_isOffByRoll_76 (by decide) ?_
          refine lv_istore (lv' := [(8, .int 0), (7, .int (-1)), (6, .int (-1)), (5, .int (nI ja)), (0, .ref (b 0)), (1, .int (nI r)), (2, .int p), (3, .int m), (4, .int f)]) hx hb dX5_isOffByRoll_77 hl (by decide) rfl (fun ls hl => ?_)
          refine lv_iload hx hb dX5_isOffByRoll_79 (lv_at hl 0 rfl) ?_
          refine lv_if_eq (tgt := 136) hx hb dX5_isOffByRoll_81 (by decide) (fun c_81 => ?_) (fun c_81 => ?_)
          · skip
            refine lv_iconst (v := 0) hx hb dX5_isOffByRoll_136 (by decide) ?_
            exact W.zret (v := 0) hx hb hr (rfl) (fun t ht hW => ⟨0, rfl, (bI_f (by unfold rollOff; rw [hA, hB, hC2]; first | (simp; done) | (simp only [Bool.and_eq_true, decide_eq_true_eq]; intro q; first | exact absurd q.1 (i_len c_51) | exact c_129 q.2))), ht⟩) (fun q h => nomatch h) dX5_isOffByRoll_137
          · skip
            exact absurd c_81 (by decide)
        · skip
          refine lv_iload hx hb dX5_isOffByRoll_54 (lv_at hl 2 rfl) ?_
          refine lv_iconst (v := (-1)) hx hb dX5_isOffByRoll_56 (by decide) ?_
          refine lv_icmp_eq (tgt := 76) hx hb dX5_isOffByRoll_57 (by decide) (fun c_57 => ?_) (fun c_57 => ?_)
          · skip
            exact absurd c_57 (nI_nm1 (by omega))
          · skip
            refine lv_iload hx hb dX5_isOffByRoll_60 (lv_at hl 1 rfl) ?_
            refine lv_iconst (v := (-1)) hx hb dX5_isOffByRoll_62 (by decide) ?_
            refine lv_icmp_eq (tgt := 76) hx hb dX5_isOffByRoll_63 (by decide) (fun c_63 => ?_) (fun c_63 => ?_)
            · skip
              refine lv_iconst (v := 0) hx hb dX5_isOffByRoll_76 (by decide) ?_
              refine lv_istore (lv' := [(8, .int 0), (7, .int (-1)), (6, .int (-1)), (5, .int (nI ja)), (0, .ref (b 0)), (1, .int (nI r)), (2, .int p), (3, .int m), (4, .int f)]) hx hb dX5_isOffByRoll_77 hl (by decide) rfl (fun ls hl => ?_)
              refine lv_iload hx hb dX5_isOffByRoll_79 (lv_at hl 0 rfl) ?_
              refine lv_if_eq (tgt := 136) hx hb dX5_isOffByRoll_81 (by decide) (fun c_81 => ?_) (fun c_81 => ?_)
              · skip
                refine lv_iconst (v := 0) hx hb dX5_isOffByRoll_136 (by decide) ?_
                exact W.zret (v := 0) hx hb hr (rfl) (fun t ht hW => ⟨0, rfl, (bI_f (by unfold rollOff; rw [hA, hB, hC2]; first | (simp; done) | (simp only [Bool.and_eq_true, decide_eq_true_eq]; intro q; first | exact absurd q.1 (i_len c_51) | exact c_129 q.2))), ht⟩) (fun q h => nomatch h) dX5_isOffByRoll_137
              · skip
                exact absurd c_81 (by decide)
            · skip
              exact absurd c_63 (by decide)
      · skip
        obtain rfl : r_6 = nI jc := hr_6.trans (congrArg oI hC2)
        have hjc := (sel_lt hC2).1
        refine lv_istore (lv' := [(7, .int (nI jc)), (6, .int (-1)), (5, .int (nI ja)), (0, .ref (b 0)), (1, .int (nI r)), (2, .int p), (3, .int m), (4, .int f)]) hx hb dX5_isOffByRoll_48 hl (by decide) rfl (fun ls hl => ?_)
        refine lv_iload_n hx hb dX5_isOffByRoll_50 rfl (lv_at hl 5 rfl) ?_
        refine lv_if_le (tgt := 76) hx hb dX5_isOffByRoll_51 (by decide) (fun c_51 => ?_) (fun c_51 => ?_)
        · skip
          refine lv_iconst (v := 0) hx hb dX5_isOffByRoll_76 (by decide) ?_
          refine lv_istore (lv' := [(8, .int 0), (7, .int (nI jc)), (6, .int (-1)), (5, .int (nI ja)), (0, .ref (b 0)), (1, .int (nI r)), (2, .int p), (3, .int m), (4, .int f)]) hx hb dX5_isOffByRoll_77 hl (by decide) rfl (fun ls hl => ?_)
          refine lv_iload hx hb dX5_isOffByRoll_79 (lv_at hl 0 rfl) ?_
          refine lv_if_eq (tgt := 136) hx hb dX5_isOffByRoll_81 (by decide) (fun c_81 => ?_) (fun c_81 => ?_)
          · skip
            refine lv_iconst (v := 0) hx hb dX5_isOffByRoll_136 (by decide) ?_
            exact W.zret (v := 0) hx hb hr (rfl) (fun t ht hW => ⟨0, rfl, (bI_f (by unfold rollOff; rw [hA, hB, hC2]; first | (simp; done) | (simp only [Bool.and_eq_true, decide_eq_true_eq]; intro q; first | exact absurd q.1 (i_len c_51) | exact c_129 q.2))), ht⟩) (fun q h => nomatch h) dX5_isOffByRoll_137
          · skip
            exact absurd c_81 (by decide)
        · skip
          refine lv_iload hx hb dX5_isOffByRoll_54 (lv_at hl 2 rfl) ?_
          refine lv_iconst (v := (-1)) hx hb dX5_isOffByRoll_56 (by decide) ?_
          refine lv_icmp_eq (tgt := 76) hx hb dX5_isOffByRoll_57 (by decide) (fun c_57 => ?_) (fun c_57 => ?_)
          · skip
            exact absurd c_57 (nI_nm1 (by omega))
          · skip
            refine lv_iload hx hb dX5_isOffByRoll_60 (lv_at hl 1 rfl) ?_
            refine lv_iconst (v := (-1)) hx hb dX5_isOffByRoll_62 (by decide) ?_
            refine lv_icmp_eq (tgt := 76) hx hb dX5_isOffByRoll_63 (by decide) (fun c_63 => ?_) (fun c_63 => ?_)
            · skip
              refine lv_iconst (v := 0) hx hb dX5_isOffByRoll_76 (by decide) ?_
              refine lv_istore (lv' := [(8, .int 0), (7, .int (nI jc)), (6, .int (-1)), (5, .int (nI ja)), (0, .ref (b 0)), (1, .int (nI r)), (2, .int p), (3, .int m), (4, .int f)]) hx hb dX5_isOffByRoll_77 hl (by decide) rfl (fun ls hl => ?_)
              refine lv_iload hx hb dX5_isOffByRoll_79 (lv_at hl 0 rfl) ?_
              refine lv_if_eq (tgt := 136) hx hb dX5_isOffByRoll_81 (by decide) (fun c_81 => ?_) (fun c_81 => ?_)
              · skip
                refine lv_iconst (v := 0) hx hb dX5_isOffByRoll_136 (by decide) ?_
                exact W.zret (v := 0) hx hb hr (rfl) (fun t ht hW => ⟨0, rfl, (bI_f (by unfold rollOff; rw [hA, hB, hC2]; first | (simp; done) | (simp only [Bool.and_eq_true, decide_eq_true_eq]; intro q; first | exact absurd q.1 (i_len c_51) | exact c_129 q.2))), ht⟩) (fun q h => nomatch h) dX5_isOffByRoll_137
              · skip
                exact absurd c_81 (by decide)
            · skip
              exact absurd c_63 (by decide)
    · skip
      obtain rfl : r_5 = nI jb := hr_5.trans (congrArg oI hB)
      have hjb := (sel_lt hB).1
      refine lv_istore (lv' := [(6, .int (nI jb)), (5, .int (nI ja)), (0, .ref (b 0)), (1, .int (nI r)), (2, .int p), (3, .int m), (4, .int f)]) hx hb dX5_isOffByRoll_32 hl (by decide) rfl (fun ls hl => ?_)
      refine lv_aload_n hx hb dX5_isOffByRoll_34 rfl (lv_at hl 2 rfl) ?_
      refine lv_aload_n hx hb dX5_isOffByRoll_35 rfl (lv_at hl 2 rfl) ?_
      refine va_get (D := D) (ci := 4) (v := .ref (b 4)) (C := RX5) (T := TX5) (N := 17) hx hb hts win_X5 hown hK hP (0) (rfl) rfl 5 (by decide) w_2 (fun _ h9 => h9) rfl dX5_isOffByRoll_36 ?_
      refine lv_iload_n hx hb dX5_isOffByRoll_39 rfl (lv_at hl 3 rfl) ?_
      refine g_iald hx hb hK hP (4) 0 (n := 5) (f := mflw) (rfl) rfl r rfl (by omega) (by decide) dX5_isOffByRoll_40 ?_
      refine lv_iload_n hx hb dX5_isOffByRoll_41 rfl (lv_at hl 4 rfl) ?_
      refine lv_iload_n hx hb dX5_isOffByRoll_42 rfl (lv_at hl 5 rfl) ?_
      refine lv_iload hx hb dX5_isOffByRoll_43 (lv_at hl 6 rfl) ?_
      refine g_csi (va_runV (As := [.int (mflw r), .int p, .int m, .int f]) (rest := []) ⟨hx, hb, hml, hown, hts⟩ (c5_holds l D cI cZ cO cL dt A b mC mR mL mF mpar mwt mstk mflw mc mp mm mf md mv mder mkn thr R (mflw r) p m f hF hmf hmd) (cwV 4 hts gX5_isOffByRoll_X5_holds rfl rfl rfl (by decide +kernel) ⟨Nat.le_of_ble_eq_true rfl, Nat.le_of_ble_eq_true rfl⟩) (gP.v hg hP 4 rfl (0) (rfl) hP) rfl rfl hl.1 rfl (lv_room (Nat.le_of_ble_eq_true rfl)) dX5_isOffByRoll_45 ⟨Nat.le_of_ble_eq_true rfl, Nat.le_of_ble_eq_true rfl⟩) (fun r_7 hr_7 => ?_)
      obtain ⟨o_r_7, hC2⟩ : ∃ z, hM mc mp mm mf md mF (mflw r) p m f = z := ⟨_, rfl⟩
      rcases o_r_7 with _ | jc
      · skip
        obtain rfl : r_7 = (-1) := hr_7.trans (congrArg oI hC2)
        refine lv_istore (lv' := [(7, .int (-1)), (6, .int (nI jb)), (5, .int (nI ja)), (0, .ref (b 0)), (1, .int (nI r)), (2, .int p), (3, .int m), (4, .int f)]) hx hb dX5_isOffByRoll_48 hl (by decide) rfl (fun ls hl => ?_)
        refine lv_iload_n hx hb dX5_isOffByRoll_50 rfl (lv_at hl 5 rfl) ?_
        refine lv_if_le (tgt := 76) hx hb dX5_isOffByRoll_51 (by decide) (fun c_51 => ?_) (fun c_51 => ?_)
        · skip
          refine lv_iconst (v := 0) hx hb dX5_isOffByRoll_76 (by decide) ?_
          refine lv_istore (lv' := [(8, .int 0), (7, .int (-1)), (6, .int (nI jb)), (5, .int (nI ja)), (0, .ref (b 0)), (1, .int (nI r)), (2, .int p), (3, .int m), (4, .int f)]) hx hb dX5_isOffByRoll_77 hl (by decide) rfl (fun ls hl => ?_)
          refine lv_iload hx hb dX5_isOffByRoll_79 (lv_at hl 0 rfl) ?_
          refine lv_if_eq (tgt := 136) hx hb dX5_isOffByRoll_81 (by decide) (fun c_81 => ?_) (fun c_81 => ?_)
          · skip
            refine lv_iconst (v := 0) hx hb dX5_isOffByRoll_136 (by decide) ?_
            exact W.zret (v := 0) hx hb hr (rfl) (fun t ht hW => ⟨0, rfl, (bI_f (by unfold rollOff; rw [hA, hB, hC2]; first | (simp; done) | (simp only [Bool.and_eq_true, decide_eq_true_eq]; intro q; first | exact absurd q.1 (i_len c_51) | exact c_129 q.2))), ht⟩) (fun q h => nomatch h) dX5_isOffByRoll_137
          · skip
            exact absurd c_81 (by decide)
        · skip
          refine lv_iload hx hb dX5_isOffByRoll_54 (lv_at hl 2 rfl) ?_
          refine lv_iconst (v := (-1)) hx hb dX5_isOffByRoll_56 (by decide) ?_
          refine lv_icmp_eq (tgt := 76) hx hb dX5_isOffByRoll_57 (by decide) (fun c_57 => ?_) (fun c_57 => ?_)
          · skip
            exact absurd c_57 (nI_nm1 (by omega))
          · skip
            refine lv_iload hx hb dX5_isOffByRoll_60 (lv_at hl 1 rfl) ?_
            refine lv_iconst (v := (-1)) hx hb dX5_isOffByRoll_62 (by decide) ?_
            refine lv_icmp_eq (tgt := 76) hx hb dX5_isOffByRoll_63 (by decide) (fun c_63 => ?_) (fun c_63 => ?_)
            · skip
              exact absurd c_63 (nI_nm1 (by omega))
            · skip
              refine lv_iload hx hb dX5_isOffByRoll_66 (lv_at hl 0 rfl) ?_
              refine lv_iconst (v := (-1)) hx hb dX5_isOffByRoll_68 (by decide) ?_
              refine lv_icmp_eq (tgt := 76) hx hb dX5_isOffByRoll_69 (by decide) (fun c_69 => ?_) (fun c_69 => ?_)
              · skip
                refine lv_iconst (v := 0) hx hb dX5_isOffByRoll_76 (by decide) ?_
                refine lv_istore (lv' := [(8, .int 0), (7, .int (-1)), (6, .int (nI jb)), (5, .int (nI ja)), (0, .ref (b 0)), (1, .int (nI r)), (2, .int p), (3, .int m), (4, .int f)]) hx hb dX5_isOffByRoll_77 hl (by decide) rfl (fun ls hl => ?_)
                refine lv_iload hx hb dX5_isOffByRoll_79 (lv_at hl 0 rfl) ?_
                refine lv_if_eq (tgt := 136) hx hb dX5_isOffByRoll_81 (by decide) (fun c_81 => ?_) (fun c_81 => ?_)
                · skip
                  refine lv_iconst (v := 0) hx hb dX5_isOffByRoll_136 (by decide) ?_
                  exact W.zret (v := 0) hx hb hr (rfl) (fun t ht hW => ⟨0, rfl, (bI_f (by unfold rollOff; rw [hA, hB, hC2]; first | (simp; done) | (simp only [Bool.and_eq_true, decide_eq_true_eq]; intro q; first | exact absurd q.1 (i_len c_51) | exact c_129 q.2))), ht⟩) (fun q h => nomatch h) dX5_isOffByRoll_137
                · skip
                  exact absurd c_81 (by decide)
              · skip
                exact absurd c_69 (by decide)
      · skip
        obtain rfl : r_7 = nI jc := hr_7.trans (congrArg oI hC2)
        have hjc := (sel_lt hC2).1
        refine lv_istore (lv' := [(7, .int (nI jc)), (6, .int (nI jb)), (5, .int (nI ja)), (0, .ref (b 0)), (1, .int (nI r)), (2, .int p), (3, .int m), (4, .int f)]) hx hb dX5_isOffByRoll_48 hl (by decide) rfl (fun ls hl => ?_)
        refine lv_iload_n hx hb dX5_isOffByRoll_50 rfl (lv_at hl 5 rfl) ?_
        refine lv_if_le (tgt := 76) hx hb dX5_isOffByRoll_51 (by decide) (fun c_51 => ?_) (fun c_51 => ?_)
        · skip
          refine lv_iconst (v := 0) hx hb dX5_isOffByRoll_76 (by decide) ?_
          refine lv_istore (lv' := [(8, .int 0), (7, .int (nI jc)), (6, .int (nI jb)), (5, .int (nI ja)), (0, .ref (b 0)), (1, .int (nI r)), (2, .int p), (3, .int m), (4, .int f)]) hx hb dX5_isOffByRoll_77 hl (by decide) rfl (fun ls hl => ?_)
          refine lv_iload hx hb dX5_isOffByRoll_79 (lv_at hl 0 rfl) ?_
          refine lv_if_eq (tgt := 136) hx hb dX5_isOffByRoll_81 (by decide) (fun c_81 => ?_) (fun c_81 => ?_)
          · skip
            refine lv_iconst (v := 0) hx hb dX5_isOffByRoll_136 (by decide) ?_
            exact W.zret (v := 0) hx hb hr (rfl) (fun t ht hW => ⟨0, rfl, (bI_f (by unfold rollOff; rw [hA, hB, hC2]; first | (simp; done) | (simp only [Bool.and_eq_true, decide_eq_true_eq]; intro q; first | exact absurd q.1 (i_len c_51) | exact c_129 q.2))), ht⟩) (fun q h => nomatch h) dX5_isOffByRoll_137
          · skip
            exact absurd c_81 (by decide)
        · skip
          refine lv_iload hx hb dX5_isOffByRoll_54 (lv_at hl 2 rfl) ?_
          refine lv_iconst (v := (-1)) hx hb dX5_isOffByRoll_56 (by decide) ?_
          refine lv_icmp_eq (tgt := 76) hx hb dX5_isOffByRoll_57 (by decide) (fun c_57 => ?_) (fun c_57 => ?_)
          · skip
            exact absurd c_57 (nI_nm1 (by omega))
          · skip
            refine lv_iload hx hb dX5_isOffByRoll_60 (lv_at hl 1 rfl) ?_
            refine lv_iconst (v := (-1)) hx hb dX5_isOffByRoll_62 (by decide) ?_
            refine lv_icmp_eq (tgt := 76) hx hb dX5_isOffByRoll_63 (by decide) (fun c_63 => ?_) (fun c_63 => ?_)
            · skip
              exact absurd c_63 (nI_nm1 (by omega))
            · skip
              refine lv_iload hx hb dX5_isOffByRoll_66 (lv_at hl 0 rfl) ?_
              refine lv_iconst (v := (-1)) hx hb dX5_isOffByRoll_68 (by decide) ?_
              refine lv_icmp_eq (tgt := 76) hx hb dX5_isOffByRoll_69 (by decide) (fun c_69 => ?_) (fun c_69 => ?_)
              · skip
                exact absurd c_69 (nI_nm1 (by omega))
              · skip
                refine lv_iconst (v := 1) hx hb dX5_isOffByRoll_72 (by decide) ?_
                refine lv_goto (tgt := 77) hx hb dX5_isOffByRoll_73 (by decide) ?_
                refine lv_istore (lv' := [(8, .int 1), (7, .int (nI jc)), (6, .int (nI jb)), (5, .int (nI ja)), (0, .ref (b 0)), (1, .int (nI r)), (2, .int p), (3, .int m), (4, .int f)]) hx hb dX5_isOffByRoll_77 hl (by decide) rfl (fun ls hl => ?_)
                refine lv_iload hx hb dX5_isOffByRoll_79 (lv_at hl 0 rfl) ?_
                refine lv_if_eq (tgt := 136) hx hb dX5_isOffByRoll_81 (by decide) (fun c_81 => ?_) (fun c_81 => ?_)
                · skip
                  exact absurd c_81 (by decide)
                · skip
                  refine lv_aload_n hx hb dX5_isOffByRoll_84 rfl (lv_at hl 4 rfl) ?_
                  refine va_get (D := D) (ci := 4) (v := .ref (b 9)) (C := RX5) (T := TX5) (N := 17) hx hb hts win_X5 hown hK hP (0) (rfl) rfl 12 (by decide) w_3 (fun _ h9 => h9) rfl dX5_isOffByRoll_85 ?_
                  refine lv_iload hx hb dX5_isOffByRoll_88 (lv_at hl 3 rfl) ?_
                  refine g_iald hx hb hK hP (9) 0 (n := 80) (f := mv) (rfl) rfl ja rfl (by omega) (by decide) dX5_isOffByRoll_90 ?_
                  refine lv_aload_n hx hb dX5_isOffByRoll_91 rfl (lv_at hl 4 rfl) ?_
                  refine va_get (D := D) (ci := 4) (v := .ref (b 9)) (C := RX5) (T := TX5) (N := 17) hx hb hts win_X5 hown hK hP (0) (rfl) rfl 12 (by decide) w_3 (fun _ h9 => h9) rfl dX5_isOffByRoll_92 ?_
                  refine lv_iload hx hb dX5_isOffByRoll_95 (lv_at hl 2 rfl) ?_
                  refine g_iald hx hb hK hP (9) 0 (n := 80) (f := mv) (rfl) rfl jb rfl (by omega) (by decide) dX5_isOffByRoll_97 ?_
                  refine lv_aload_n hx hb dX5_isOffByRoll_98 rfl (lv_at hl 4 rfl) ?_
                  refine va_get (D := D) (ci := 4) (v := .ref (b 9)) (C := RX5) (T := TX5) (N := 17) hx hb hts win_X5 hown hK hP (0) (rfl) rfl 12 (by decide) w_3 (fun _ h9 => h9) rfl dX5_isOffByRoll_99 ?_
                  refine lv_iload hx hb dX5_isOffByRoll_102 (lv_at hl 1 rfl) ?_
                  refine g_iald hx hb hK hP (9) 0 (n := 80) (f := mv) (rfl) rfl jc rfl (by omega) (by decide) dX5_isOffByRoll_104 ?_
                  refine lv_iadd hx hb dX5_isOffByRoll_105 ?_
                  refine lv_aload_n hx hb dX5_isOffByRoll_106 rfl (lv_at hl 4 rfl) ?_
                  refine lv_iload hx hb dX5_isOffByRoll_107 (lv_at hl 3 rfl) ?_
                  refine g_csi (va_runV (As := [.int (nI ja)]) (rest := [.int ((mv jb) + (mv jc)), .int (mv ja)]) ⟨hx, hb, hml, hown, hts⟩ (c5_doubtOf l D cI cZ cO cL dt A b mC mR mL mF mpar mwt mstk mflw mc mp mm mf md mv mder mkn thr R ja (by omega) hmd) (cwV 1 hts gX5_isOffByRoll_X5_doubtOf rfl rfl rfl (by decide +kernel) ⟨Nat.le_of_ble_eq_true rfl, Nat.le_of_ble_eq_true rfl⟩) (gP.v hg hP 4 rfl (0) (rfl) hP) rfl rfl hl.1 rfl (lv_room (Nat.le_of_ble_eq_true rfl)) dX5_isOffByRoll_109 ⟨Nat.le_of_ble_eq_true rfl, Nat.le_of_ble_eq_true rfl⟩) (fun r_8 hr_8 => ?_)
                  obtain rfl : r_8 = nI (10 ^ md ja) := hr_8
                  refine lv_aload_n hx hb dX5_isOffByRoll_112 rfl (lv_at hl 4 rfl) ?_
                  refine lv_iload hx hb dX5_isOffByRoll_113 (lv_at hl 2 rfl) ?_
                  refine g_csi (va_runV (As := [.int (nI jb)]) (rest := [.int (nI (10 ^ md ja)), .int ((mv jb) + (mv jc)), .int (mv ja)]) ⟨hx, hb, hml, hown, hts⟩ (c5_doubtOf l D cI cZ cO cL dt A b mC mR mL mF mpar mwt mstk mflw mc mp mm mf md mv mder mkn thr R jb (by omega) hmd) (cwV 1 hts gX5_isOffByRoll_X5_doubtOf rfl rfl rfl (by decide +kernel) ⟨Nat.le_of_ble_eq_true rfl, Nat.le_of_ble_eq_true rfl⟩) (gP.v hg hP 4 rfl (0) (rfl) hP) rfl rfl hl.1 rfl (lv_room (Nat.le_of_ble_eq_true rfl)) dX5_isOffByRoll_115 ⟨Nat.le_of_ble_eq_true rfl, Nat.le_of_ble_eq_true rfl⟩) (fun r_9 hr_9 => ?_)
                  obtain rfl : r_9 = nI (10 ^ md jb) := hr_9
                  refine lv_iadd hx hb dX5_isOffByRoll_118 ?_
                  refine lv_aload_n hx hb dX5_isOffByRoll_119 rfl (lv_at hl 4 rfl) ?_
                  refine lv_iload hx hb dX5_isOffByRoll_120 (lv_at hl 1 rfl) ?_
                  refine g_csi (va_runV (As := [.int (nI jc)]) (rest := [.int ((nI (10 ^ md ja)) + (nI (10 ^ md jb))), .int ((mv jb) + (mv jc)), .int (mv ja)]) ⟨hx, hb, hml, hown, hts⟩ (c5_doubtOf l D cI cZ cO cL dt A b mC mR mL mF mpar mwt mstk mflw mc mp mm mf md mv mder mkn thr R jc (by omega) hmd) (cwV 1 hts gX5_isOffByRoll_X5_doubtOf rfl rfl rfl (by decide +kernel) ⟨Nat.le_of_ble_eq_true rfl, Nat.le_of_ble_eq_true rfl⟩) (gP.v hg hP 4 rfl (0) (rfl) hP) rfl rfl hl.1 rfl (lv_room (Nat.le_of_ble_eq_true rfl)) dX5_isOffByRoll_122 ⟨Nat.le_of_ble_eq_true rfl, Nat.le_of_ble_eq_true rfl⟩) (fun r_10 hr_10 => ?_)
                  obtain rfl : r_10 = nI (10 ^ md jc) := hr_10
                  refine lv_iadd hx hb dX5_isOffByRoll_125 ?_
                  refine g_csi (va_runS (As := [.int (mv ja), .int ((mv jb) + (mv jc)), .int (((nI (10 ^ md ja)) + (nI (10 ^ md jb))) + (nI (10 ^ md jc)))]) (rest := []) ⟨hx, hb, hml, hown, hts⟩ (c5_isFar l D cI cZ cO cL dt A (mv ja) ((mv jb) + (mv jc)) (((nI (10 ^ md ja)) + (nI (10 ^ md jb))) + (nI (10 ^ md jc))) (WM cI cZ b mC mR mL mF mpar mwt mstk mflw mc mp mm mf md mv mder mkn thr ++ R)) (va_cwS 3 hts gX5_isOffByRoll_X5_isFar rfl rfl rfl (by decide +kernel) ⟨Nat.le_of_ble_eq_true rfl, Nat.le_of_ble_eq_true rfl⟩) (gP.s hg hP) rfl rfl hl.1 rfl (lv_room (Nat.le_of_ble_eq_true rfl)) dX5_isOffByRoll_126 ⟨Nat.le_of_ble_eq_true rfl, Nat.le_of_ble_eq_true rfl⟩) (fun r_11 hr_11 => ?_)
                  obtain rfl : r_11 = bI (((nI (10 ^ md ja)) + (nI (10 ^ md jb))) + (nI (10 ^ md jc)) < 2 * farI (mv ja) ((mv jb) + (mv jc))) := hr_11
                  refine lv_if_eq (tgt := 136) hx hb dX5_isOffByRoll_129 (by decide) (fun c_129 => ?_) (fun c_129 => ?_)
                  · skip
                    have c_129 := bI_z c_129
                    refine lv_iconst (v := 0) hx hb dX5_isOffByRoll_136 (by decide) ?_
                    exact W.zret (v := 0) hx hb hr (rfl) (fun t ht hW => ⟨0, rfl, (bI_f (by unfold rollOff; rw [hA, hB, hC2]; first | (simp; done) | (simp only [Bool.and_eq_true, decide_eq_true_eq]; intro q; first | exact absurd q.1 (i_len c_51) | exact c_129 q.2))), ht⟩) (fun q h => nomatch h) dX5_isOffByRoll_137
                  · skip
                    have c_129 := bI_n c_129
                    refine lv_iconst (v := 1) hx hb dX5_isOffByRoll_132 (by decide) ?_
                    refine lv_goto (tgt := 137) hx hb dX5_isOffByRoll_133 (by decide) ?_
                    exact W.zret (v := 1) hx hb hr (rfl) (fun t ht hW => ⟨1, rfl, (bI_t (by unfold rollOff; rw [hA, hB, hC2]; simp only [Bool.and_eq_true, decide_eq_true_eq]; exact ⟨i_nle c_51, c_129⟩)), ht⟩) (fun q h => nomatch h) dX5_isOffByRoll_137
