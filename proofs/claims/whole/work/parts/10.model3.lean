set_option maxHeartbeats 4000000 in
set_option maxRecDepth 100000 in
/-- a sum that is off -/
theorem c5_isOffBySum (l : Launch) (D : va_G) (cI cZ cO cL : ClassId) (dt : Nat) (A : Nat → Prop) (b : Nat → Nat) (mC mR mL mF : Nat) (mpar mwt mstk mflw : Nat → Int32) (mc mp mm mf md : Nat → Nat) (mv mder mkn : Nat → Int32) (thr : Int32) (R : va_W) (c p m f : Int32) (hF : mF ≤ 80) (hC : mC ≤ 12) (hmf : ∀ k, mf k < 2 ^ 31) (hmd : ∀ k, md k < 2 ^ 31) : Met l yX5_isOffBySum wsX5_isOffBySum ({ frames := 3, cells := 0, slots := 0, locals := 78 } : Room) (gP D cI cZ cO cL dt A [.ref (b 0), .int c, .int p, .int m, .int f] (fun H => va_P D vwCl (WM cI cZ b mC mR mL mF mpar mwt mstk mflw mc mp mm mf md mv mder mkn thr ++ R) H)) (vp_Si (fun r => r = bI (sumOff mC mpar mwt (fun k => hM mc mp mm mf md mF (nI k) p m f) md mv c (hM mc mp mm mf md mF c p m f) = true))) 0 0 (fun _ => False) := by
  refine Met.ofW (cc := cX5_isOffBySum) (maxL := 10) (ret := (some .boolean)) (by decide) rfl ?_
  intro p9 e9 s m9 args below meth c9 s₁ B hml hv
  obtain ⟨rfl, hg, hP⟩ := hv
  have hx := B.exec
  have hb := B.bytes
  have hr := B.returns
  have hts := atoms_spec (ws := wsX5_isOffBySum) B.pre
  have hown : s.vm.findClass RX5 = some m9.cls := findClass_of_methodNamed B.named
  have hlocks := B.notSynchronized
  have hK := hg.1
  have w_0 := hts (.fieldLink RX5 54 "DimfactsModel" "concepts" "I") (by decide +kernel)
  have win_X5 : ∀ w ∈ wsX50, w ∈ wsX5_isOffBySum := by decide +kernel
  have w_2 := hts (.fieldLink RX5 7 "DimfactsModel" "parent" "[I") (by decide +kernel)
  have w_3 := hts (.fieldLink RX5 38 "DimfactsModel" "value" "[I") (by decide +kernel)
  have hl := lv_entry ([.ref (b 0), .int c, .int p, .int m, .int f]) (n := 10) (Nat.le_of_ble_eq_true rfl)
  rw [lg_entry_eq]
  generalize (lg_sl ([.ref (b 0), .int c, .int p, .int m, .int f]) ++ List.replicate (10 - (lg_sl ([.ref (b 0), .int c, .int p, .int m, .int f])).length) Slot.unset).toArray = ls at hl ⊢
  have hl : lv_has ls 10 [(0, .ref (b 0)), (1, .int c), (2, .int p), (3, .int m), (4, .int f)] := hl
  refine lv_aload_n hx hb dX5_isOffBySum_0 rfl (lv_at hl 0 rfl) ?_
  refine lv_iload_n hx hb dX5_isOffBySum_1 rfl (lv_at hl 1 rfl) ?_
  refine lv_iload_n hx hb dX5_isOffBySum_2 rfl (lv_at hl 2 rfl) ?_
  refine lv_iload_n hx hb dX5_isOffBySum_3 rfl (lv_at hl 3 rfl) ?_
  refine lv_iload hx hb dX5_isOffBySum_4 (lv_at hl 4 rfl) ?_
  refine g_csi (va_runV (As := [.int c, .int p, .int m, .int f]) (rest := []) ⟨hx, hb, hml, hown, hts⟩ (c5_holds l D cI cZ cO cL dt A b mC mR mL mF mpar mwt mstk mflw mc mp mm mf md mv mder mkn thr R c p m f hF hmf hmd) (cwV 4 hts gX5_isOffBySum_X5_holds rfl rfl rfl (by decide +kernel) ⟨Nat.le_of_ble_eq_true rfl, Nat.le_of_ble_eq_true rfl⟩) (gP.v hg hP 4 rfl (0) (rfl) hP) rfl rfl hl.1 rfl (lv_room (Nat.le_of_ble_eq_true rfl)) dX5_isOffBySum_6 ⟨Nat.le_of_ble_eq_true rfl, Nat.le_of_ble_eq_true rfl⟩) (fun r_1 hr_1 => ?_)
  obtain ⟨o_r_1, hO⟩ : ∃ z, hM mc mp mm mf md mF c p m f = z := ⟨_, rfl⟩
  rcases o_r_1 with _ | o
  · skip
    obtain rfl : r_1 = (-1) := hr_1.trans (congrArg oI hO)
    refine lv_istore (lv' := [(5, .int (-1)), (0, .ref (b 0)), (1, .int c), (2, .int p), (3, .int m), (4, .int f)]) hx hb dX5_isOffBySum_9 hl (by decide) rfl (fun ls hl => ?_)
    refine lv_iload hx hb dX5_isOffBySum_11 (lv_at hl 0 rfl) ?_
    refine lv_iconst (v := (-1)) hx hb dX5_isOffBySum_13 (by decide) ?_
    refine lv_icmp_ne (tgt := 21) hx hb dX5_isOffBySum_14 (by decide) (fun c_14 => ?_) (fun c_14 => ?_)
    · skip
      exact absurd c_14 (by decide)
    · skip
      refine lv_iconst (v := 0) hx hb dX5_isOffBySum_17 (by decide) ?_
      refine lv_goto (tgt := 27) hx hb dX5_isOffBySum_18 (by decide) ?_
      refine lv_istore (lv' := [(6, .int 0), (5, .int (-1)), (0, .ref (b 0)), (1, .int c), (2, .int p), (3, .int m), (4, .int f)]) hx hb dX5_isOffBySum_27 hl (by decide) rfl (fun ls hl => ?_)
      refine lv_iconst (v := 0) hx hb dX5_isOffBySum_29 (by decide) ?_
      refine lv_istore (lv' := [(7, .int 0), (6, .int 0), (5, .int (-1)), (0, .ref (b 0)), (1, .int c), (2, .int p), (3, .int m), (4, .int f)]) hx hb dX5_isOffBySum_30 hl (by decide) rfl (fun ls hl => ?_)
      refine lv_iconst (v := 0) hx hb dX5_isOffBySum_32 (by decide) ?_
      refine lv_istore (lv' := [(8, .int 0), (7, .int 0), (6, .int 0), (5, .int (-1)), (0, .ref (b 0)), (1, .int c), (2, .int p), (3, .int m), (4, .int f)]) hx hb dX5_isOffBySum_33 hl (by decide) rfl (fun ls hl => ?_)
      have lp35 : ∀ (n35 k : Nat)  (x6 : Int32) (x7 : Int32), mC < k + n35 → k ≤ mC → x6 = 0 + dbtN mpar (fun k => hM mc mp mm mf md mF (nI k) p m f) md c k → x7 = nI (cntN mpar (fun k => hM mc mp mm mf md mF (nI k) p m f) c k) → ∀ ls : Array Slot, lv_has ls 10 [(8, .int (nI k)), (6, .int x6), (7, .int x7), (5, .int (-1)), (4, .int f), (3, .int m), (2, .int p), (1, .int c), (0, .ref (b 0))] → W p9 l e9 (headSpec wsX5_isOffBySum ({ frames := 3, cells := 0, slots := 0, locals := 78 } : Room)).room s m9 ([.ref (b 0), .int c, .int p, .int m, .int f] : List Value).toArray below meth c9 s.heap [] 0 0 (MQ below (vp_Si (fun r => r = bI (sumOff mC mpar mwt (fun k => hM mc mp mm mf md mF (nI k) p m f) md mv c (hM mc mp mm mf md mF c p m f) = true))) ([.ref (b 0), .int c, .int p, .int m, .int f] : List Value).toArray s 0 0 (fun _ => False)) (F0 m9 35 ls []) := by
        intro n35
        induction n35 with
        | zero => intro k  x6 x7 h1 h2; exact absurd h1 (by omega)
        | succ n35 ih35 =>
          intro k  x6 x7 hn35 hk35 e35_6 e35_7  ls hl
          refine lv_iload hx hb dX5_isOffBySum_35 (lv_at hl 0 rfl) ?_
          refine lv_aload_n hx hb dX5_isOffBySum_37 rfl (lv_at hl 8 rfl) ?_
          refine va_get (D := D) (ci := 4) (v := .int (nI mC)) (C := RX5) (T := TX5) (N := 17) hx hb hts win_X5 hown hK hP (0) (rfl) rfl 0 (by decide) w_0 (fun _ h9 => h9) rfl dX5_isOffBySum_38 ?_
          refine lv_icmp_ge (tgt := 114) hx hb dX5_isOffBySum_41 (by decide) (fun c_41 => ?_) (fun c_41 => ?_)
          · skip
            have hkF : k = mC := by have := (nI_leI (a := mC) (b := k) (by omega) (by omega)).mp c_41; omega
            rw [hkF] at e35_6
            rw [hkF] at e35_7
            refine lv_iload hx hb dX5_isOffBySum_114 (lv_at hl 3 rfl) ?_
            refine lv_iconst (v := (-1)) hx hb dX5_isOffBySum_116 (by decide) ?_
            refine lv_icmp_eq (tgt := 153) hx hb dX5_isOffBySum_117 (by decide) (fun c_117 => ?_) (fun c_117 => ?_)
            · skip
              refine lv_iconst (v := 0) hx hb dX5_isOffBySum_153 (by decide) ?_
              exact W.zret (v := 0) hx hb hr (rfl) (fun t ht hW => ⟨0, rfl, (bI_f (by unfold sumOff; rw [hO]; simp)), ht⟩) (fun q h => nomatch h) dX5_isOffBySum_154
            · skip
              exact absurd c_117 (by decide)
          · skip
            have hkF : k < mC := by have := mt (nI_leI (a := mC) (b := k) (by omega) (by omega)).mpr c_41; omega
            refine lv_aload_n hx hb dX5_isOffBySum_44 rfl (lv_at hl 8 rfl) ?_
            refine va_get (D := D) (ci := 4) (v := .ref (b 1)) (C := RX5) (T := TX5) (N := 17) hx hb hts win_X5 hown hK hP (0) (rfl) rfl 1 (by decide) w_2 (fun _ h9 => h9) rfl dX5_isOffBySum_45 ?_
            refine lv_iload hx hb dX5_isOffBySum_48 (lv_at hl 0 rfl) ?_
            refine g_iald hx hb hK hP (1) 0 (n := 12) (f := mpar) (rfl) rfl k rfl (by omega) (by decide) dX5_isOffBySum_50 ?_
            refine lv_iload_n hx hb dX5_isOffBySum_51 rfl (lv_at hl 7 rfl) ?_
            refine lv_icmp_ne (tgt := 68) hx hb dX5_isOffBySum_52 (by decide) (fun c_52 => ?_) (fun c_52 => ?_)
            · skip
              refine lv_iconst (v := (-1)) hx hb dX5_isOffBySum_68 (by decide) ?_
              refine lv_istore (lv' := [(9, .int (-1)), (8, .int (nI k)), (6, .int x6), (7, .int x7), (5, .int (-1)), (4, .int f), (3, .int m), (2, .int p), (1, .int c), (0, .ref (b 0))]) hx hb dX5_isOffBySum_69 hl (by decide) rfl (fun ls hl => ?_)
              refine lv_iload hx hb dX5_isOffBySum_71 (lv_at hl 3 rfl) ?_
              refine lv_iload hx hb dX5_isOffBySum_73 (lv_at hl 0 rfl) ?_
              refine lv_iconst (v := (-1)) hx hb dX5_isOffBySum_75 (by decide) ?_
              refine lv_icmp_ne (tgt := 83) hx hb dX5_isOffBySum_76 (by decide) (fun c_76 => ?_) (fun c_76 => ?_)
              · skip
                exact absurd c_76 (by decide)
              · skip
                refine lv_iconst (v := 0) hx hb dX5_isOffBySum_79 (by decide) ?_
                refine lv_goto (tgt := 84) hx hb dX5_isOffBySum_80 (by decide) ?_
                refine lv_iadd hx hb dX5_isOffBySum_84 ?_
                refine lv_istore (lv' := [(7, .int (x7 + 0)), (9, .int (-1)), (8, .int (nI k)), (6, .int x6), (5, .int (-1)), (4, .int f), (3, .int m), (2, .int p), (1, .int c), (0, .ref (b 0))]) hx hb dX5_isOffBySum_85 hl (by decide) rfl (fun ls hl => ?_)
                refine lv_iload hx hb dX5_isOffBySum_87 (lv_at hl 3 rfl) ?_
                refine lv_iload hx hb dX5_isOffBySum_89 (lv_at hl 1 rfl) ?_
                refine lv_iconst (v := (-1)) hx hb dX5_isOffBySum_91 (by decide) ?_
                refine lv_icmp_ne (tgt := 99) hx hb dX5_isOffBySum_92 (by decide) (fun c_92 => ?_) (fun c_92 => ?_)
                · skip
                  exact absurd c_92 (by decide)
                · skip
                  refine lv_iconst (v := 0) hx hb dX5_isOffBySum_95 (by decide) ?_
                  refine lv_goto (tgt := 105) hx hb dX5_isOffBySum_96 (by decide) ?_
                  refine lv_iadd hx hb dX5_isOffBySum_105 ?_
                  refine lv_istore (lv' := [(6, .int (x6 + 0)), (7, .int (x7 + 0)), (9, .int (-1)), (8, .int (nI k)), (5, .int (-1)), (4, .int f), (3, .int m), (2, .int p), (1, .int c), (0, .ref (b 0))]) hx hb dX5_isOffBySum_106 hl (by decide) rfl (fun ls hl => ?_)
                  refine lv_iinc (v := nI (k + 1)) (lv' := [(8, .int (nI (k + 1))), (6, .int (x6 + 0)), (7, .int (x7 + 0)), (9, .int (-1)), (5, .int (-1)), (4, .int f), (3, .int m), (2, .int p), (1, .int c), (0, .ref (b 0))]) hx hb dX5_isOffBySum_108 hl (k := 3) rfl (nI_1 k) (by decide) rfl (fun ls hl => ?_)
                  refine lv_goto (tgt := 35) hx hb dX5_isOffBySum_111 (by decide) ?_
                  exact ih35 (k + 1)  (x6 + 0) (x7 + 0) (by omega) (by omega) (by first | (simp [dbtN, cntN, c_52, hS, e35_6, e35_7, Int32.add_assoc, nI_1]; done) | (simp [dbtN, cntN, c_52, e35_6, e35_7, Int32.add_assoc, nI_1]; done)) (by first | (simp [dbtN, cntN, c_52, hS, e35_6, e35_7, Int32.add_assoc, nI_1]; done) | (simp [dbtN, cntN, c_52, e35_6, e35_7, Int32.add_assoc, nI_1]; done))  _ (lv_sub hl [0, 1, 2, 4, 5, 6, 7, 8, 9] rfl)
            · skip
              refine lv_aload_n hx hb dX5_isOffBySum_55 rfl (lv_at hl 8 rfl) ?_
              refine lv_iload hx hb dX5_isOffBySum_56 (lv_at hl 0 rfl) ?_
              refine lv_iload_n hx hb dX5_isOffBySum_58 rfl (lv_at hl 6 rfl) ?_
              refine lv_iload_n hx hb dX5_isOffBySum_59 rfl (lv_at hl 5 rfl) ?_
              refine lv_iload hx hb dX5_isOffBySum_60 (lv_at hl 4 rfl) ?_
              refine g_csi (va_runV (As := [.int (nI k), .int p, .int m, .int f]) (rest := []) ⟨hx, hb, hml, hown, hts⟩ (c5_holds l D cI cZ cO cL dt A b mC mR mL mF mpar mwt mstk mflw mc mp mm mf md mv mder mkn thr R (nI k) p m f hF hmf hmd) (cwV 4 hts gX5_isOffBySum_X5_holds rfl rfl rfl (by decide +kernel) ⟨Nat.le_of_ble_eq_true rfl, Nat.le_of_ble_eq_true rfl⟩) (gP.v hg hP 4 rfl (0) (rfl) hP) rfl rfl hl.1 rfl (lv_room (Nat.le_of_ble_eq_true rfl)) dX5_isOffBySum_62 ⟨Nat.le_of_ble_eq_true rfl, Nat.le_of_ble_eq_true rfl⟩) (fun r_2 hr_2 => ?_)
              obtain ⟨o_r_2, hS⟩ : ∃ z, hM mc mp mm mf md mF (nI k) p m f = z := ⟨_, rfl⟩
              rcases o_r_2 with _ | j
              · skip
                obtain rfl : r_2 = (-1) := hr_2.trans (congrArg oI hS)
                refine lv_goto (tgt := 69) hx hb dX5_isOffBySum_65 (by decide) ?_
                refine lv_istore (lv' := [(9, .int (-1)), (8, .int (nI k)), (6, .int x6), (7, .int x7), (5, .int (-1)), (4, .int f), (3, .int m), (2, .int p), (1, .int c), (0, .ref (b 0))]) hx hb dX5_isOffBySum_69 hl (by decide) rfl (fun ls hl => ?_)
                refine lv_iload hx hb dX5_isOffBySum_71 (lv_at hl 3 rfl) ?_
                refine lv_iload hx hb dX5_isOffBySum_73 (lv_at hl 0 rfl) ?_
                refine lv_iconst (v := (-1)) hx hb dX5_isOffBySum_75 (by decide) ?_
                refine lv_icmp_ne (tgt := 83) hx hb dX5_isOffBySum_76 (by decide) (fun c_76 => ?_) (fun c_76 => ?_)
                · skip
                  exact absurd c_76 (by decide)
                · skip
                  refine lv_iconst (v := 0) hx hb dX5_isOffBySum_79 (by decide) ?_
                  refine lv_goto (tgt := 84) hx hb dX5_isOffBySum_80 (by decide) ?_
                  refine lv_iadd hx hb dX5_isOffBySum_84 ?_
                  refine lv_istore (lv' := [(7, .int (x7 + 0)), (9, .int (-1)), (8, .int (nI k)), (6, .int x6), (5, .int (-1)), (4, .int f), (3, .int m), (2, .int p), (1, .int c), (0, .ref (b 0))]) hx hb dX5_isOffBySum_85 hl (by decide) rfl (fun ls hl => ?_)
                  refine lv_iload hx hb dX5_isOffBySum_87 (lv_at hl 3 rfl) ?_
                  refine lv_iload hx hb dX5_isOffBySum_89 (lv_at hl 1 rfl) ?_
                  refine lv_iconst (v := (-1)) hx hb dX5_isOffBySum_91 (by decide) ?_
                  refine lv_icmp_ne (tgt := 99) hx hb dX5_isOffBySum_92 (by decide) (fun c_92 => ?_) (fun c_92 => ?_)
                  · skip
                    exact absurd c_92 (by decide)
                  · skip
                    refine lv_iconst (v := 0) hx hb dX5_isOffBySum_95 (by decide) ?_
                    refine lv_goto (tgt := 105) hx hb dX5_isOffBySum_96 (by decide) ?_
                    refine lv_iadd hx hb dX5_isOffBySum_105 ?_
                    refine lv_istore (lv' := [(6, .int (x6 + 0)), (7, .int (x7 + 0)), (9, .int (-1)), (8, .int (nI k)), (5, .int (-1)), (4, .int f), (3, .int m), (2, .int p), (1, .int c), (0, .ref (b 0))]) hx hb dX5_isOffBySum_106 hl (by decide) rfl (fun ls hl => ?_)
                    refine lv_iinc (v := nI (k + 1)) (lv' := [(8, .int (nI (k + 1))), (6, .int (x6 + 0)), (7, .int (x7 + 0)), (9, .int (-1)), (5, .int (-1)), (4, .int f), (3, .int m), (2, .int p), (1, .int c), (0, .ref (b 0))]) hx hb dX5_isOffBySum_108 hl (k := 3) rfl (nI_1 k) (by decide) rfl (fun ls hl => ?_)
                    refine lv_goto (tgt := 35) hx hb dX5_isOffBySum_111 (by decide) ?_
                    exact ih35 (k + 1)  (x6 + 0) (x7 + 0) (by omega) (by omega) (by first | (simp [dbtN, cntN, c_52, hS, e35_6, e35_7, Int32.add_assoc, nI_1]; done) | (simp [dbtN, cntN, c_52, e35_6, e35_7, Int32.add_assoc, nI_1]; done)) (by first | (simp [dbtN, cntN, c_52, hS, e35_6, e35_7, Int32.add_assoc, nI_1]; done) | (simp [dbtN, cntN, c_52, e35_6, e35_7, Int32.add_assoc, nI_1]; done))  _ (lv_sub hl [0, 1, 2, 4, 5, 6, 7, 8, 9] rfl)
              · skip
                obtain rfl : r_2 = nI j := hr_2.trans (congrArg oI hS)
                have hj := (sel_lt hS).1
                refine lv_goto (tgt := 69) hx hb dX5_isOffBySum_65 (by decide) ?_
                refine lv_istore (lv' := [(9, .int (nI j)), (8, .int (nI k)), (6, .int x6), (7, .int x7), (5, .int (-1)), (4, .int f), (3, .int m), (2, .int p), (1, .int c), (0, .ref (b 0))]) hx hb dX5_isOffBySum_69 hl (by decide) rfl (fun ls hl => ?_)
                refine lv_iload hx hb dX5_isOffBySum_71 (lv_at hl 3 rfl) ?_
                refine lv_iload hx hb dX5_isOffBySum_73 (lv_at hl 0 rfl) ?_
                refine lv_iconst (v := (-1)) hx hb dX5_isOffBySum_75 (by decide) ?_
                refine lv_icmp_ne (tgt := 83) hx hb dX5_isOffBySum_76 (by decide) (fun c_76 => ?_) (fun c_76 => ?_)
                · skip
                  refine lv_iconst (v := 1) hx hb dX5_isOffBySum_83 (by decide) ?_
                  refine lv_iadd hx hb dX5_isOffBySum_84 ?_
                  refine lv_istore (lv' := [(7, .int (x7 + 1)), (9, .int (nI j)), (8, .int (nI k)), (6, .int x6), (5, .int (-1)), (4, .int f), (3, .int m), (2, .int p), (1, .int c), (0, .ref (b 0))]) hx hb dX5_isOffBySum_85 hl (by decide) rfl (fun ls hl => ?_)
                  refine lv_iload hx hb dX5_isOffBySum_87 (lv_at hl 3 rfl) ?_
                  refine lv_iload hx hb dX5_isOffBySum_89 (lv_at hl 1 rfl) ?_
                  refine lv_iconst (v := (-1)) hx hb dX5_isOffBySum_91 (by decide) ?_
                  refine lv_icmp_ne (tgt := 99) hx hb dX5_isOffBySum_92 (by decide) (fun c_92 => ?_) (fun c_92 => ?_)
                  · skip
                    refine lv_aload_n hx hb dX5_isOffBySum_99 rfl (lv_at hl 9 rfl) ?_
                    refine lv_iload hx hb dX5_isOffBySum_100 (lv_at hl 1 rfl) ?_
                    refine g_csi (va_runV (As := [.int (nI j)]) (rest := [.int x6]) ⟨hx, hb, hml, hown, hts⟩ (c5_doubtOf l D cI cZ cO cL dt A b mC mR mL mF mpar mwt mstk mflw mc mp mm mf md mv mder mkn thr R j (by omega) hmd) (cwV 1 hts gX5_isOffBySum_X5_doubtOf rfl rfl rfl (by decide +kernel) ⟨Nat.le_of_ble_eq_true rfl, Nat.le_of_ble_eq_true rfl⟩) (gP.v hg hP 4 rfl (0) (rfl) hP) rfl rfl hl.1 rfl (lv_room (Nat.le_of_ble_eq_true rfl)) dX5_isOffBySum_102 ⟨Nat.le_of_ble_eq_true rfl, Nat.le_of_ble_eq_true rfl⟩) (fun r_3 hr_3 => ?_)
                    obtain rfl : r_3 = nI (10 ^ md j) := hr_3
                    refine lv_iadd hx hb dX5_isOffBySum_105 ?_
                    refine lv_istore (lv' := [(6, .int (x6 + (nI (10 ^ md j)))), (7, .int (x7 + 1)), (9, .int (nI j)), (8, .int (nI k)), (5, .int (-1)), (4, .int f), (3, .int m), (2, .int p), (1, .int c), (0, .ref (b 0))]) hx hb dX5_isOffBySum_106 hl (by decide) rfl (fun ls hl => ?_)
                    refine lv_iinc (v := nI (k + 1)) (lv' := [(8, .int (nI (k + 1))), (6, .int (x6 + (nI (10 ^ md j)))), (7, .int (x7 + 1)), (9, .int (nI j)), (5, .int (-1)), (4, .int f), (3, .int m), (2, .int p), (1, .int c), (0, .ref (b 0))]) hx hb dX5_isOffBySum_108 hl (k := 3) rfl (nI_1 k) (by decide) rfl (fun ls hl => ?_)
                    refine lv_goto (tgt := 35) hx hb dX5_isOffBySum_111 (by decide) ?_
                    exact ih35 (k + 1)  (x6 + (nI (10 ^ md j))) (x7 + 1) (by omega) (by omega) (by first | (simp [dbtN, cntN, c_52, hS, e35_6, e35_7, Int32.add_assoc, nI_1]; done) | (simp [dbtN, cntN, c_52, e35_6, e35_7, Int32.add_assoc, nI_1]; done)) (by first | (simp [dbtN, cntN, c_52, hS, e35_6, e35_7, Int32.add_assoc, nI_1]; done) | (simp [dbtN, cntN, c_52, e35_6, e35_7, Int32.add_assoc, nI_1]; done))  _ (lv_sub hl [0, 1, 2, 4, 5, 6, 7, 8, 9] rfl)
                  · skip
                    exact absurd c_92 (nI_nm1 (by omega))
                · skip
                  exact absurd c_76 (nI_nm1 (by omega))
      exact lp35 (mC + 1) 0  0 0 (by omega) (by omega) (Int32.add_zero _).symm rfl  _ (lv_sub hl [0, 2, 1, 3, 8, 7, 6, 5, 4] rfl)
  · skip
    obtain rfl : r_1 = nI o := hr_1.trans (congrArg oI hO)
    have ho := (sel_lt hO).1
    refine lv_istore (lv' := [(5, .int (nI o)), (0, .ref (b 0)), (1, .int c), (2, .int p), (3, .int m), (4, .int f)]) hx hb dX5_isOffBySum_9 hl (by decide) rfl (fun ls hl => ?_)
    refine lv_iload hx hb dX5_isOffBySum_11 (lv_at hl 0 rfl) ?_
    refine lv_iconst (v := (-1)) hx hb dX5_isOffBySum_13 (by decide) ?_
    refine lv_icmp_ne (tgt := 21) hx hb dX5_isOffBySum_14 (by decide) (fun c_14 => ?_) (fun c_14 => ?_)
    · skip
      refine lv_aload_n hx hb dX5_isOffBySum_21 rfl (lv_at hl 1 rfl) ?_
      refine lv_iload hx hb dX5_isOffBySum_22 (lv_at hl 0 rfl) ?_
      refine g_csi (va_runV (As := [.int (nI o)]) (rest := []) ⟨hx, hb, hml, hown, hts⟩ (c5_doubtOf l D cI cZ cO cL dt A b mC mR mL mF mpar mwt mstk mflw mc mp mm mf md mv mder mkn thr R o (by omega) hmd) (cwV 1 hts gX5_isOffBySum_X5_doubtOf rfl rfl rfl (by decide +kernel) ⟨Nat.le_of_ble_eq_true rfl, Nat.le_of_ble_eq_true rfl⟩) (gP.v hg hP 4 rfl (0) (rfl) hP) rfl rfl hl.1 rfl (lv_room (Nat.le_of_ble_eq_true rfl)) dX5_isOffBySum_24 ⟨Nat.le_of_ble_eq_true rfl, Nat.le_of_ble_eq_true rfl⟩) (fun r_4 hr_4 => ?_)
      obtain rfl : r_4 = nI (10 ^ md o) := hr_4
      refine lv_istore (lv' := [(6, .int (nI (10 ^ md o))), (5, .int (nI o)), (0, .ref (b 0)), (1, .int c), (2, .int p), (3, .int m), (4, .int f)]) hx hb dX5_isOffBySum_27 hl (by decide) rfl (fun ls hl => ?_)
      refine lv_iconst (v := 0) hx hb dX5_isOffBySum_29 (by decide) ?_
      refine lv_istore (lv' := [(7, .int 0), (6, .int (nI (10 ^ md o))), (5, .int (nI o)), (0, .ref (b 0)), (1, .int c), (2, .int p), (3, .int m), (4, .int f)]) hx hb dX5_isOffBySum_30 hl (by decide) rfl (fun ls hl => ?_)
      refine lv_iconst (v := 0) hx hb dX5_isOffBySum_32 (by decide) ?_
      refine lv_istore (lv' := [(8, .int 0), (7, .int 0), (6, .int (nI (10 ^ md o))), (5, .int (nI o)), (0, .ref (b 0)), (1, .int c), (2, .int p), (3, .int m), (4, .int f)]) hx hb dX5_isOffBySum_33 hl (by decide) rfl (fun ls hl => ?_)
      have lp35 : ∀ (n35 k : Nat)  (x6 : Int32) (x7 : Int32), mC < k + n35 → k ≤ mC → x6 = (nI (10 ^ md o)) + dbtN mpar (fun k => hM mc mp mm mf md mF (nI k) p m f) md c k → x7 = nI (cntN mpar (fun k => hM mc mp mm mf md mF (nI k) p m f) c k) → ∀ ls : Array Slot, lv_has ls 10 [(8, .int (nI k)), (6, .int x6), (7, .int x7), (5, .int (nI o)), (4, .int f), (3, .int m), (2, .int p), (1, .int c), (0, .ref (b 0))] → W p9 l e9 (headSpec wsX5_isOffBySum ({ frames := 3, cells := 0, slots := 0, locals := 78 } : Room)).room s m9 ([.ref (b 0), .int c, .int p, .int m, .int f] : List Value).toArray below meth c9 s.heap [] 0 0 (MQ below (vp_Si (fun r => r = bI (sumOff mC mpar mwt (fun k => hM mc mp mm mf md mF (nI k) p m f) md mv c (hM mc mp mm mf md mF c p m f) = true))) ([.ref (b 0), .int c, .int p, .int m, .int f] : List Value).toArray s 0 0 (fun _ => False)) (F0 m9 35 ls []) := by
        intro n35
        induction n35 with
        | zero => intro k  x6 x7 h1 h2; exact absurd h1 (by omega)
        | succ n35 ih35 =>
          intro k  x6 x7 hn35 hk35 e35_6 e35_7  ls hl
          refine lv_iload hx hb dX5_isOffBySum_35 (lv_at hl 0 rfl) ?_
          refine lv_aload_n hx hb dX5_isOffBySum_37 rfl (lv_at hl 8 rfl) ?_
          refine va_get (D := D) (ci := 4) (v := .int (nI mC)) (C := RX5) (T := TX5) (N := 17) hx hb hts win_X5 hown hK hP (0) (rfl) rfl 0 (by decide) w_0 (fun _ h9 => h9) rfl dX5_isOffBySum_38 ?_
          refine lv_icmp_ge (tgt := 114) hx hb dX5_isOffBySum_41 (by decide) (fun c_41 => ?_) (fun c_41 => ?_)
          · skip
            have hkF : k = mC := by have := (nI_leI (a := mC) (b := k) (by omega) (by omega)).mp c_41; omega
            rw [hkF] at e35_6
            rw [hkF] at e35_7
            refine lv_iload hx hb dX5_isOffBySum_114 (lv_at hl 3 rfl) ?_
            refine lv_iconst (v := (-1)) hx hb dX5_isOffBySum_116 (by decide) ?_
            refine lv_icmp_eq (tgt := 153) hx hb dX5_isOffBySum_117 (by decide) (fun c_117 => ?_) (fun c_117 => ?_)
            · skip
              exact absurd c_117 (nI_nm1 (by omega))
            · skip
              refine lv_iload hx hb dX5_isOffBySum_120 (lv_at hl 2 rfl) ?_
              refine lv_if_le (tgt := 153) hx hb dX5_isOffBySum_122 (by decide) (fun c_122 => ?_) (fun c_122 => ?_)
              · skip
                have h0 : cntN mpar (fun k => hM mc mp mm mf md mF (nI k) p m f) c mC = 0 := by rw [e35_7] at c_122; have := (nI_leI (b := 0) (by have := cntN_le (par := mpar) (h := (fun k => hM mc mp mm mf md mF (nI k) p m f)) (c := c) mC; omega) (by decide)).mp c_122; omega
                refine lv_iconst (v := 0) hx hb dX5_isOffBySum_153 (by decide) ?_
                exact W.zret (v := 0) hx hb hr (rfl) (fun t ht hW => ⟨0, rfl, (bI_f (by unfold sumOff; rw [hO]; simp only [Bool.and_eq_true, decide_eq_true_eq]; intro q; first | exact absurd q.1 (by omega) | exact c_146 (by rw [e35_6]; exact q.2))), ht⟩) (fun q h => nomatch h) dX5_isOffBySum_154
              · skip
                have h0 : 0 < cntN mpar (fun k => hM mc mp mm mf md mF (nI k) p m f) c mC := by rw [e35_7] at c_122; have := mt (nI_leI (a := cntN mpar (fun k => hM mc mp mm mf md mF (nI k) p m f) c mC) (b := 0) (by have := cntN_le (par := mpar) (h := (fun k => hM mc mp mm mf md mF (nI k) p m f)) (c := c) mC; omega) (by decide)).mpr c_122; omega
                refine lv_aload_n hx hb dX5_isOffBySum_125 rfl (lv_at hl 8 rfl) ?_
                refine va_get (D := D) (ci := 4) (v := .ref (b 9)) (C := RX5) (T := TX5) (N := 17) hx hb hts win_X5 hown hK hP (0) (rfl) rfl 12 (by decide) w_3 (fun _ h9 => h9) rfl dX5_isOffBySum_126 ?_
                refine lv_iload hx hb dX5_isOffBySum_129 (lv_at hl 3 rfl) ?_
                refine g_iald hx hb hK hP (9) 0 (n := 80) (f := mv) (rfl) rfl o rfl (by omega) (by decide) dX5_isOffBySum_131 ?_
                refine lv_aload_n hx hb dX5_isOffBySum_132 rfl (lv_at hl 8 rfl) ?_
                refine lv_iload_n hx hb dX5_isOffBySum_133 rfl (lv_at hl 7 rfl) ?_
                refine lv_iload_n hx hb dX5_isOffBySum_134 rfl (lv_at hl 6 rfl) ?_
                refine lv_iload_n hx hb dX5_isOffBySum_135 rfl (lv_at hl 5 rfl) ?_
                refine lv_iload hx hb dX5_isOffBySum_136 (lv_at hl 4 rfl) ?_
                refine g_csi (va_runV (As := [.int c, .int p, .int m, .int f]) (rest := [.int (mv o)]) ⟨hx, hb, hml, hown, hts⟩ (c5_sumOf l D cI cZ cO cL dt A b mC mR mL mF mpar mwt mstk mflw mc mp mm mf md mv mder mkn thr R c p m f hF hC hmf hmd) (cwV 4 hts gX5_isOffBySum_X5_sumOf rfl rfl rfl (by decide +kernel) ⟨Nat.le_of_ble_eq_true rfl, Nat.le_of_ble_eq_true rfl⟩) (gP.v hg hP 4 rfl (0) (rfl) hP) rfl rfl hl.1 rfl (lv_room (Nat.le_of_ble_eq_true rfl)) dX5_isOffBySum_138 ⟨Nat.le_of_ble_eq_true rfl, Nat.le_of_ble_eq_true rfl⟩) (fun r_5 hr_5 => ?_)
                obtain rfl : r_5 = sumN mpar mwt (fun k => hM mc mp mm mf md mF (nI k) p m f) mv c mC := hr_5
                refine lv_iload hx hb dX5_isOffBySum_141 (lv_at hl 1 rfl) ?_
                refine g_csi (va_runS (As := [.int (mv o), .int (sumN mpar mwt (fun k => hM mc mp mm mf md mF (nI k) p m f) mv c mC), .int x6]) (rest := []) ⟨hx, hb, hml, hown, hts⟩ (c5_isFar l D cI cZ cO cL dt A (mv o) (sumN mpar mwt (fun k => hM mc mp mm mf md mF (nI k) p m f) mv c mC) x6 (WM cI cZ b mC mR mL mF mpar mwt mstk mflw mc mp mm mf md mv mder mkn thr ++ R)) (va_cwS 3 hts gX5_isOffBySum_X5_isFar rfl rfl rfl (by decide +kernel) ⟨Nat.le_of_ble_eq_true rfl, Nat.le_of_ble_eq_true rfl⟩) (gP.s hg hP) rfl rfl hl.1 rfl (lv_room (Nat.le_of_ble_eq_true rfl)) dX5_isOffBySum_143 ⟨Nat.le_of_ble_eq_true rfl, Nat.le_of_ble_eq_true rfl⟩) (fun r_6 hr_6 => ?_)
                obtain rfl : r_6 = bI (x6 < 2 * farI (mv o) (sumN mpar mwt (fun k => hM mc mp mm mf md mF (nI k) p m f) mv c mC)) := hr_6
                refine lv_if_eq (tgt := 153) hx hb dX5_isOffBySum_146 (by decide) (fun c_146 => ?_) (fun c_146 => ?_)
                · skip
                  have c_146 := bI_z c_146
                  refine lv_iconst (v := 0) hx hb dX5_isOffBySum_153 (by decide) ?_
                  exact W.zret (v := 0) hx hb hr (rfl) (fun t ht hW => ⟨0, rfl, (bI_f (by unfold sumOff; rw [hO]; simp only [Bool.and_eq_true, decide_eq_true_eq]; intro q; first | exact absurd q.1 (by omega) | exact c_146 (by rw [e35_6]; exact q.2))), ht⟩) (fun q h => nomatch h) dX5_isOffBySum_154
                · skip
                  have c_146 := bI_n c_146
                  refine lv_iconst (v := 1) hx hb dX5_isOffBySum_149 (by decide) ?_
                  refine lv_goto (tgt := 154) hx hb dX5_isOffBySum_150 (by decide) ?_
                  exact W.zret (v := 1) hx hb hr (rfl) (fun t ht hW => ⟨1, rfl, (bI_t (by unfold sumOff; rw [hO]; simp only [Bool.and_eq_true, decide_eq_true_eq]; exact ⟨h0, by rw [← e35_6]; exact c_146⟩)), ht⟩) (fun q h => nomatch h) dX5_isOffBySum_154
          · skip
            have hkF : k < mC := by have := mt (nI_leI (a := mC) (b := k) (by omega) (by omega)).mpr c_41; omega
            refine lv_aload_n hx hb dX5_isOffBySum_44 rfl (lv_at hl 8 rfl) ?_
            refine va_get (D := D) (ci := 4) (v := .ref (b 1)) (C := RX5) (T := TX5) (N := 17) hx hb hts win_X5 hown hK hP (0) (rfl) rfl 1 (by decide) w_2 (fun _ h9 => h9) rfl dX5_isOffBySum_45 ?_
            refine lv_iload hx hb dX5_isOffBySum_48 (lv_at hl 0 rfl) ?_
            refine g_iald hx hb hK hP (1) 0 (n := 12) (f := mpar) (rfl) rfl k rfl (by omega) (by decide) dX5_isOffBySum_50 ?_
            refine lv_iload_n hx hb dX5_isOffBySum_51 rfl (lv_at hl 7 rfl) ?_
            refine lv_icmp_ne (tgt := 68) hx hb dX5_isOffBySum_52 (by decide) (fun c_52 => ?_) (fun c_52 => ?_)
            · skip
              refine lv_iconst (v := (-1)) hx hb dX5_isOffBySum_68 (by decide) ?_
              refine lv_istore (lv' := [(9, .int (-1)), (8, .int (nI k)), (6, .int x6), (7, .int x7), (5, .int (nI o)), (4, .int f), (3, .int m), (2, .int p), (1, .int c), (0, .ref (b 0))]) hx hb dX5_isOffBySum_69 hl (by decide) rfl (fun ls hl => ?_)
              refine lv_iload hx hb dX5_isOffBySum_71 (lv_at hl 3 rfl) ?_
              refine lv_iload hx hb dX5_isOffBySum_73 (lv_at hl 0 rfl) ?_
              refine lv_iconst (v := (-1)) hx hb dX5_isOffBySum_75 (by decide) ?_
              refine lv_icmp_ne (tgt := 83) hx hb dX5_isOffBySum_76 (by decide) (fun c_76 => ?_) (fun c_76 => ?_)
              · skip
                exact absurd c_76 (by decide)
              · skip
                refine lv_iconst (v := 0) hx hb dX5_isOffBySum_79 (by decide) ?_
                refine lv_goto (tgt := 84) hx hb dX5_isOffBySum_80 (by decide) ?_
                refine lv_iadd hx hb dX5_isOffBySum_84 ?_
                refine lv_istore (lv' := [(7, .int (x7 + 0)), (9, .int (-1)), (8, .int (nI k)), (6, .int x6), (5, .int (nI o)), (4, .int f), (3, .int m), (2, .int p), (1, .int c), (0, .ref (b 0))]) hx hb dX5_isOffBySum_85 hl (by decide) rfl (fun ls hl => ?_)
                refine lv_iload hx hb dX5_isOffBySum_87 (lv_at hl 3 rfl) ?_
                refine lv_iload hx hb dX5_isOffBySum_89 (lv_at hl 1 rfl) ?_
                refine lv_iconst (v := (-1)) hx hb dX5_isOffBySum_91 (by decide) ?_
                refine lv_icmp_ne (tgt := 99) hx hb dX5_isOffBySum_92 (by decide) (fun c_92 => ?_) (fun c_92 => ?_)
                · skip
                  exact absurd c_92 (by decide)
                · skip
                  refine lv_iconst (v := 0) hx hb dX5_isOffBySum_95 (by decide) ?_
                  refine lv_goto (tgt := 105) hx hb dX5_isOffBySum_96 (by decide) ?_
                  refine lv_iadd hx hb dX5_isOffBySum_105 ?_
                  refine lv_istore (lv' := [(6, .int (x6 + 0)), (7, .int (x7 + 0)), (9, .int (-1)), (8, .int (nI k)), (5, .int (nI o)), (4, .int f), (3, .int m), (2, .int p), (1, .int c), (0, .ref (b 0))]) hx hb dX5_isOffBySum_106 hl (by decide) rfl (fun ls hl => ?_)
                  refine lv_iinc (v := nI (k + 1)) (lv' := [(8, .int (nI (k + 1))), (6, .int (x6 + 0)), (7, .int (x7 + 0)), (9, .int (-1)), (5, .int (nI o)), (4, .int f), (3, .int m), (2, .int p), (1, .int c), (0, .ref (b 0))]) hx hb dX5_isOffBySum_108 hl (k := 3) rfl (nI_1 k) (by decide) rfl (fun ls hl => ?_)
                  refine lv_goto (tgt := 35) hx hb dX5_isOffBySum_111 (by decide) ?_
                  exact ih35 (k + 1)  (x6 + 0) (x7 + 0) (by omega) (by omega) (by first | (simp [dbtN, cntN, c_52, hS, e35_6, e35_7, Int32.add_assoc, nI_1]; done) | (simp [dbtN, cntN, c_52, e35_6, e35_7, Int32.add_assoc, nI_1]; done)) (by first | (simp [dbtN, cntN, c_52, hS, e35_6, e35_7, Int32.add_assoc, nI_1]; done) | (simp [dbtN, cntN, c_52, e35_6, e35_7, Int32.add_assoc, nI_1]; done))  _ (lv_sub hl [0, 1, 2, 4, 5, 6, 7, 8, 9] rfl)
            · skip
              refine lv_aload_n hx hb dX5_isOffBySum_55 rfl (lv_at hl 8 rfl) ?_
              refine lv_iload hx hb dX5_isOffBySum_56 (lv_at hl 0 rfl) ?_
              refine lv_iload_n hx hb dX5_isOffBySum_58 rfl (lv_at hl 6 rfl) ?_
              refine lv_iload_n hx hb dX5_isOffBySum_59 rfl (lv_at hl 5 rfl) ?_
              refine lv_iload hx hb dX5_isOffBySum_60 (lv_at hl 4 rfl) ?_
              refine g_csi (va_runV (As := [.int (nI k), .int p, .int m, .int f]) (rest := []) ⟨hx, hb, hml, hown, hts⟩ (c5_holds l D cI cZ cO cL dt A b mC mR mL mF mpar mwt mstk mflw mc mp mm mf md mv mder mkn thr R (nI k) p m f hF hmf hmd) (cwV 4 hts gX5_isOffBySum_X5_holds rfl rfl rfl (by decide +kernel) ⟨Nat.le_of_ble_eq_true rfl, Nat.le_of_ble_eq_true rfl⟩) (gP.v hg hP 4 rfl (0) (rfl) hP) rfl rfl hl.1 rfl (lv_room (Nat.le_of_ble_eq_true rfl)) dX5_isOffBySum_62 ⟨Nat.le_of_ble_eq_true rfl, Nat.le_of_ble_eq_true rfl⟩) (fun r_7 hr_7 => ?_)
              obtain ⟨o_r_7, hS⟩ : ∃ z, hM mc mp mm mf md mF (nI k) p m f = z := ⟨_, rfl⟩
              rcases o_r_7 with _ | j
              · skip
                obtain rfl : r_7 = (-1) := hr_7.trans (congrArg oI hS)
                refine lv_goto (tgt := 69) hx hb dX5_isOffBySum_65 (by decide) ?_
                refine lv_istore (lv' := [(9, .int (-1)), (8, .int (nI k)), (6, .int x6), (7, .int x7), (5, .int (nI o)), (4, .int f), (3, .int m), (2, .int p), (1, .int c), (0, .ref (b 0))]) hx hb dX5_isOffBySum_69 hl (by decide) rfl (fun ls hl => ?_)
                refine lv_iload hx hb dX5_isOffBySum_71 (lv_at hl 3 rfl) ?_
                refine lv_iload hx hb dX5_isOffBySum_73 (lv_at hl 0 rfl) ?_
                refine lv_iconst (v := (-1)) hx hb dX5_isOffBySum_75 (by decide) ?_
                refine lv_icmp_ne (tgt := 83) hx hb dX5_isOffBySum_76 (by decide) (fun c_76 => ?_) (fun c_76 => ?_)
                · skip
                  exact absurd c_76 (by decide)
                · skip
                  refine lv_iconst (v := 0) hx hb dX5_isOffBySum_79 (by decide) ?_
                  refine lv_goto (tgt := 84) hx hb dX5_isOffBySum_80 (by decide) ?_
                  refine lv_iadd hx hb dX5_isOffBySum_84 ?_
                  refine lv_istore (lv' := [(7, .int (x7 + 0)), (9, .int (-1)), (8, .int (nI k)), (6, .int x6), (5, .int (nI o)), (4, .int f), (3, .int m), (2, .int p), (1, .int c), (0, .ref (b 0))]) hx hb dX5_isOffBySum_85 hl (by decide) rfl (fun ls hl => ?_)
                  refine lv_iload hx hb dX5_isOffBySum_87 (lv_at hl 3 rfl) ?_
                  refine lv_iload hx hb dX5_isOffBySum_89 (lv_at hl 1 rfl) ?_
                  refine lv_iconst (v := (-1)) hx hb dX5_isOffBySum_91 (by decide) ?_
                  refine lv_icmp_ne (tgt := 99) hx hb dX5_isOffBySum_92 (by decide) (fun c_92 => ?_) (fun c_92 => ?_)
                  · skip
                    exact absurd c_92 (by decide)
                  · skip
                    refine lv_iconst (v := 0) hx hb dX5_isOffBySum_95 (by decide) ?_
                    refine lv_goto (tgt := 105) hx hb dX5_isOffBySum_96 (by decide) ?_
                    refine lv_iadd hx hb dX5_isOffBySum_105 ?_
                    refine lv_istore (lv' := [(6, .int (x6 + 0)), (7, .int (x7 + 0)), (9, .int (-1)), (8, .int (nI k)), (5, .int (nI o)), (4, .int f), (3, .int m), (2, .int p), (1, .int c), (0, .ref (b 0))]) hx hb dX5_isOffBySum_106 hl (by decide) rfl (fun ls hl => ?_)
                    refine lv_iinc (v := nI (k + 1)) (lv' := [(8, .int (nI (k + 1))), (6, .int (x6 + 0)), (7, .int (x7 + 0)), (9, .int (-1)), (5, .int (nI o)), (4, .int f), (3, .int m), (2, .int p), (1, .int c), (0, .ref (b 0))]) hx hb dX5_isOffBySum_108 hl (k := 3) rfl (nI_1 k) (by decide) rfl (fun ls hl => ?_)
                    refine lv_goto (tgt := 35) hx hb dX5_isOffBySum_111 (by decide) ?_
                    exact ih35 (k + 1)  (x6 + 0) (x7 + 0) (by omega) (by omega) (by first | (simp [dbtN, cntN, c_52, hS, e35_6, e35_7, Int32.add_assoc, nI_1]; done) | (simp [dbtN, cntN, c_52, e35_6, e35_7, Int32.add_assoc, nI_1]; done)) (by first | (simp [dbtN, cntN, c_52, hS, e35_6, e35_7, Int32.add_assoc, nI_1]; done) | (simp [dbtN, cntN, c_52, e35_6, e35_7, Int32.add_assoc, nI_1]; done))  _ (lv_sub hl [0, 1, 2, 4, 5, 6, 7, 8, 9] rfl)
              · skip
                obtain rfl : r_7 = nI j := hr_7.trans (congrArg oI hS)
                have hj := (sel_lt hS).1
                refine lv_goto (tgt := 69) hx hb dX5_isOffBySum_65 (by decide) ?_
                refine lv_istore (lv' := [(9, .int (nI j)), (8, .int (nI k)), (6, .int x6), (7, .int x7), (5, .int (nI o)), (4, .int f), (3, .int m), (2, .int p), (1, .int c), (0, .ref (b 0))]) hx hb dX5_isOffBySum_69 hl (by decide) rfl (fun ls hl => ?_)
                refine lv_iload hx hb dX5_isOffBySum_71 (lv_at hl 3 rfl) ?_
                refine lv_iload hx hb dX5_isOffBySum_73 (lv_at hl 0 rfl) ?_
                refine lv_iconst (v := (-1)) hx hb dX5_isOffBySum_75 (by decide) ?_
                refine lv_icmp_ne (tgt := 83) hx hb dX5_isOffBySum_76 (by decide) (fun c_76 => ?_) (fun c_76 => ?_)
                · skip
                  refine lv_iconst (v := 1) hx hb dX5_isOffBySum_83 (by decide) ?_
                  refine lv_iadd hx hb dX5_isOffBySum_84 ?_
                  refine lv_istore (lv' := [(7, .int (x7 + 1)), (9, .int (nI j)), (8, .int (nI k)), (6, .int x6), (5, .int (nI o)), (4, .int f), (3, .int m), (2, .int p), (1, .int c), (0, .ref (b 0))]) hx hb dX5_isOffBySum_85 hl (by decide) rfl (fun ls hl => ?_)
                  refine lv_iload hx hb dX5_isOffBySum_87 (lv_at hl 3 rfl) ?_
                  refine lv_iload hx hb dX5_isOffBySum_89 (lv_at hl 1 rfl) ?_
                  refine lv_iconst (v := (-1)) hx hb dX5_isOffBySum_91 (by decide) ?_
                  refine lv_icmp_ne (tgt := 99) hx hb dX5_isOffBySum_92 (by decide) (fun c_92 => ?_) (fun c_92 => ?_)
                  · skip
                    refine lv_aload_n hx hb dX5_isOffBySum_99 rfl (lv_at hl 9 rfl) ?_
                    refine lv_iload hx hb dX5_isOffBySum_100 (lv_at hl 1 rfl) ?_
                    refine g_csi (va_runV (As := [.int (nI j)]) (rest := [.int x6]) ⟨hx, hb, hml, hown, hts⟩ (c5_doubtOf l D cI cZ cO cL dt A b mC mR mL mF mpar mwt mstk mflw mc mp mm mf md mv mder mkn thr R j (by omega) hmd) (cwV 1 hts gX5_isOffBySum_X5_doubtOf rfl rfl rfl (by decide +kernel) ⟨Nat.le_of_ble_eq_true rfl, Nat.le_of_ble_eq_true rfl⟩) (gP.v hg hP 4 rfl (0) (rfl) hP) rfl rfl hl.1 rfl (lv_room (Nat.le_of_ble_eq_true rfl)) dX5_isOffBySum_102 ⟨Nat.le_of_ble_eq_true rfl, Nat.le_of_ble_eq_true rfl⟩) (fun r_8 hr_8 => ?_)
                    obtain rfl : r_8 = nI (10 ^ md j) := hr_8
                    refine lv_iadd hx hb dX5_isOffBySum_105 ?_
                    refine lv_istore (lv' := [(6, .int (x6 + (nI (10 ^ md j)))), (7, .int (x7 + 1)), (9, .int (nI j)), (8, .int (nI k)), (5, .int (nI o)), (4, .int f), (3, .int m), (2, .int p), (1, .int c), (0, .ref (b 0))]) hx hb dX5_isOffBySum_106 hl (by decide) rfl (fun ls hl => ?_)
                    refine lv_iinc (v := nI (k + 1)) (lv' := [(8, .int (nI (k + 1))), (6, .int (x6 + (nI (10 ^ md j)))), (7, .int (x7 + 1)), (9, .int (nI j)), (5, .int (nI o)), (4, .int f), (3, .int m), (2, .int p), (1, .int c), (0, .ref (b 0))]) hx hb dX5_isOffBySum_108 hl (k := 3) rfl (nI_1 k) (by decide) rfl (fun ls hl => ?_)
                    refine lv_goto (tgt := 35) hx hb dX5_isOffBySum_111 (by decide) ?_
                    exact ih35 (k + 1)  (x6 + (nI (10 ^ md j))) (x7 + 1) (by omega) (by omega) (by first | (simp [dbtN, cntN, c_52, hS, e35_6, e35_7, Int32.add_assoc, nI_1]; done) | (simp [dbtN, cntN, c_52, e35_6, e35_7, Int32.add_assoc, nI_1]; done)) (by first | (simp [dbtN, cntN, c_52, hS, e35_6, e35_7, Int32.add_assoc, nI_1]; done) | (simp [dbtN, cntN, c_52, e35_6, e35_7, Int32.add_assoc, nI_1]; done))  _ (lv_sub hl [0, 1, 2, 4, 5, 6, 7, 8, 9] rfl)
                  · skip
                    exact absurd c_92 (nI_nm1 (by omega))
                · skip
                  exact absurd c_76 (nI_nm1 (by omega))
      exact lp35 (mC + 1) 0  (nI (10 ^ md o)) 0 (by omega) (by omega) (Int32.add_zero _).symm rfl  _ (lv_sub hl [0, 2, 1, 3, 8, 7, 6, 5, 4] rfl)
    · skip
      exact absurd c_14 (nI_nm1 (by omega))
