set_option maxHeartbeats 4000000 in
set_option maxRecDepth 100000 in
/-- members that are off -/
theorem c5_isOffByMembers (l : Launch) (D : va_G) (cI cZ cO cL : ClassId) (dt : Nat) (A : Nat → Prop) (b : Nat → Nat) (mC mR mL mF : Nat) (mpar mwt mstk mflw : Nat → Int32) (mc mp mm mf md : Nat → Nat) (mv mder mkn : Nat → Int32) (thr : Int32) (R : va_W) (c p f : Int32) (hF : mF ≤ 80) (hC : mC ≤ 12) (hmf : ∀ k, mf k < 2 ^ 31) (hmd : ∀ k, md k < 2 ^ 31) : Met l yX5_isOffByMembers wsX5_isOffByMembers ({ frames := 2, cells := 0, slots := 0, locals := 51 } : Room) (gP D cI cZ cO cL dt A [.ref (b 0), .int c, .int p, .int f] (fun H => va_P D vwCl (WM cI cZ b mC mR mL mF mpar mwt mstk mflw mc mp mm mf md mv mder mkn thr ++ R) H)) (vp_Si (fun r => r = bI (memOff (fun m => hM mc mp mm mf md mF c p (nI m) f) md mv = true))) 0 0 (fun _ => False) := by
  refine Met.ofW (cc := cX5_isOffByMembers) (maxL := 9) (ret := (some .boolean)) (by decide) rfl ?_
  intro p9 e9 s m9 args below meth c9 s₁ B hml hv
  obtain ⟨rfl, hg, hP⟩ := hv
  have hx := B.exec
  have hb := B.bytes
  have hr := B.returns
  have hts := atoms_spec (ws := wsX5_isOffByMembers) B.pre
  have hown : s.vm.findClass RX5 = some m9.cls := findClass_of_methodNamed B.named
  have hlocks := B.notSynchronized
  have hK := hg.1
  have w_0 := hts (.fieldLink RX5 38 "DimfactsModel" "value" "[I") (by decide +kernel)
  have win_X5 : ∀ w ∈ wsX50, w ∈ wsX5_isOffByMembers := by decide +kernel
  have hl := lv_entry ([.ref (b 0), .int c, .int p, .int f]) (n := 9) (Nat.le_of_ble_eq_true rfl)
  rw [lg_entry_eq]
  generalize (lg_sl ([.ref (b 0), .int c, .int p, .int f]) ++ List.replicate (9 - (lg_sl ([.ref (b 0), .int c, .int p, .int f])).length) Slot.unset).toArray = ls at hl ⊢
  have hl : lv_has ls 9 [(0, .ref (b 0)), (1, .int c), (2, .int p), (3, .int f)] := hl
  refine lv_iconst (v := 0) hx hb dX5_isOffByMembers_0 (by decide) ?_
  refine lv_istore (lv' := [(4, .int 0), (0, .ref (b 0)), (1, .int c), (2, .int p), (3, .int f)]) hx hb dX5_isOffByMembers_1 hl (by decide) rfl (fun ls hl => ?_)
  refine lv_iconst (v := 0) hx hb dX5_isOffByMembers_3 (by decide) ?_
  refine lv_istore (lv' := [(5, .int 0), (4, .int 0), (0, .ref (b 0)), (1, .int c), (2, .int p), (3, .int f)]) hx hb dX5_isOffByMembers_4 hl (by decide) rfl (fun ls hl => ?_)
  refine lv_iconst (v := 1) hx hb dX5_isOffByMembers_6 (by decide) ?_
  refine lv_istore (lv' := [(6, .int 1), (5, .int 0), (4, .int 0), (0, .ref (b 0)), (1, .int c), (2, .int p), (3, .int f)]) hx hb dX5_isOffByMembers_7 hl (by decide) rfl (fun ls hl => ?_)
  refine lv_iconst (v := 0) hx hb dX5_isOffByMembers_9 (by decide) ?_
  refine lv_istore (lv' := [(7, .int 0), (6, .int 1), (5, .int 0), (4, .int 0), (0, .ref (b 0)), (1, .int c), (2, .int p), (3, .int f)]) hx hb dX5_isOffByMembers_10 hl (by decide) rfl (fun ls hl => ?_)
  have lp12 : ∀ (n12 k : Nat)  (x4 : Int32) (x5 : Int32) (x6 : Int32), 4 < k + n12 → k ≤ 4 → x4 = mSum (fun m => hM mc mp mm mf md mF c p (nI m) f) mv k → x5 = mDbt (fun m => hM mc mp mm mf md mF c p (nI m) f) md k → x6 = bI (mAll (fun m => hM mc mp mm mf md mF c p (nI m) f) k = true) → ∀ ls : Array Slot, lv_has ls 9 [(7, .int (nI k)), (4, .int x4), (5, .int x5), (6, .int x6), (3, .int f), (2, .int p), (1, .int c), (0, .ref (b 0))] → W p9 l e9 (headSpec wsX5_isOffByMembers ({ frames := 2, cells := 0, slots := 0, locals := 51 } : Room)).room s m9 ([.ref (b 0), .int c, .int p, .int f] : List Value).toArray below meth c9 s.heap [] 0 0 (MQ below (vp_Si (fun r => r = bI (memOff (fun m => hM mc mp mm mf md mF c p (nI m) f) md mv = true))) ([.ref (b 0), .int c, .int p, .int f] : List Value).toArray s 0 0 (fun _ => False)) (F0 m9 12 ls []) := by
    intro n12
    induction n12 with
    | zero => intro k  x4 x5 x6 h1 h2; exact absurd h1 (by omega)
    | succ n12 ih12 =>
      intro k  x4 x5 x6 hn12 hk12 e12_4 e12_5 e12_6  ls hl
      refine lv_iload hx hb dX5_isOffByMembers_12 (lv_at hl 0 rfl) ?_
      refine lv_iconst (v := 4) hx hb dX5_isOffByMembers_14 (by decide) ?_
      refine lv_icmp_ge (tgt := 101) hx hb dX5_isOffByMembers_15 (by decide) (fun c_15 => ?_) (fun c_15 => ?_)
      · skip
        have hkF : k = 4 := by have := (nI_leI (a := 4) (b := k) (by omega) (by omega)).mp c_15; omega
        rw [hkF] at e12_4
        rw [hkF] at e12_5
        rw [hkF] at e12_6
        refine lv_iload hx hb dX5_isOffByMembers_101 (lv_at hl 3 rfl) ?_
        refine lv_if_eq (tgt := 133) hx hb dX5_isOffByMembers_103 (by decide) (fun c_103 => ?_) (fun c_103 => ?_)
        · skip
          have hx6 : mAll (fun m => hM mc mp mm mf md mF c p (nI m) f) 4 = false := by rw [e12_6] at c_103; have := bI_z c_103; simpa using this
          refine lv_iconst (v := 0) hx hb dX5_isOffByMembers_133 (by decide) ?_
          exact W.zret (v := 0) hx hb hr (rfl) (fun t ht hW => ⟨0, rfl, (bI_f (by unfold memOff; first | (rw [show (fun m => hM mc mp mm mf md mF c p (nI m) f) 0 = some o from hO]; simp only [Bool.and_eq_true, decide_eq_true_eq]; exact fun q => c_126 (by rw [e12_4, e12_5]; exact q.2)) | (rw [hx6]; cases (fun m => hM mc mp mm mf md mF c p (nI m) f) 0 <;> simp))), ht⟩) (fun q h => nomatch h) dX5_isOffByMembers_134
        · skip
          have hx6 : mAll (fun m => hM mc mp mm mf md mF c p (nI m) f) 4 = true := by rw [e12_6] at c_103; exact bI_n c_103
          refine lv_aload_n hx hb dX5_isOffByMembers_106 rfl (lv_at hl 7 rfl) ?_
          refine va_get (D := D) (ci := 4) (v := .ref (b 9)) (C := RX5) (T := TX5) (N := 17) hx hb hts win_X5 hown hK hP (0) (rfl) rfl 12 (by decide) w_0 (fun _ h9 => h9) rfl dX5_isOffByMembers_107 ?_
          refine lv_aload_n hx hb dX5_isOffByMembers_110 rfl (lv_at hl 7 rfl) ?_
          refine lv_iload_n hx hb dX5_isOffByMembers_111 rfl (lv_at hl 6 rfl) ?_
          refine lv_iload_n hx hb dX5_isOffByMembers_112 rfl (lv_at hl 5 rfl) ?_
          refine lv_iconst (v := 0) hx hb dX5_isOffByMembers_113 (by decide) ?_
          refine lv_iload_n hx hb dX5_isOffByMembers_114 rfl (lv_at hl 4 rfl) ?_
          refine g_csi (va_runV (As := [.int c, .int p, .int 0, .int f]) (rest := [.ref (b 9)]) ⟨hx, hb, hml, hown, hts⟩ (c5_holds l D cI cZ cO cL dt A b mC mR mL mF mpar mwt mstk mflw mc mp mm mf md mv mder mkn thr R c p 0 f hF hmf hmd) (cwV 4 hts gX5_isOffByMembers_X5_holds rfl rfl rfl (by decide +kernel) ⟨Nat.le_of_ble_eq_true rfl, Nat.le_of_ble_eq_true rfl⟩) (gP.v hg hP 4 rfl (0) (rfl) hP) rfl rfl hl.1 rfl (lv_room (Nat.le_of_ble_eq_true rfl)) dX5_isOffByMembers_115 ⟨Nat.le_of_ble_eq_true rfl, Nat.le_of_ble_eq_true rfl⟩) (fun r_1 hr_1 => ?_)
          obtain ⟨o_r_1, hO⟩ : ∃ z, hM mc mp mm mf md mF c p 0 f = z := ⟨_, rfl⟩
          rcases o_r_1 with _ | o
          · skip
            obtain rfl : r_1 = (-1) := hr_1.trans (congrArg oI hO)
            exact absurd hx6 (by rw [mAll_0 (h := (fun m => hM mc mp mm mf md mF c p (nI m) f)) hO 3]; decide)
          · skip
            obtain rfl : r_1 = nI o := hr_1.trans (congrArg oI hO)
            have ho := (sel_lt hO).1
            refine g_iald hx hb hK hP (9) 0 (n := 80) (f := mv) (rfl) rfl o rfl (by omega) (by decide) dX5_isOffByMembers_118 ?_
            refine lv_iload hx hb dX5_isOffByMembers_119 (lv_at hl 1 rfl) ?_
            refine lv_iload hx hb dX5_isOffByMembers_121 (lv_at hl 2 rfl) ?_
            refine g_csi (va_runS (As := [.int (mv o), .int x4, .int x5]) (rest := []) ⟨hx, hb, hml, hown, hts⟩ (c5_isFar l D cI cZ cO cL dt A (mv o) x4 x5 (WM cI cZ b mC mR mL mF mpar mwt mstk mflw mc mp mm mf md mv mder mkn thr ++ R)) (va_cwS 3 hts gX5_isOffByMembers_X5_isFar rfl rfl rfl (by decide +kernel) ⟨Nat.le_of_ble_eq_true rfl, Nat.le_of_ble_eq_true rfl⟩) (gP.s hg hP) rfl rfl hl.1 rfl (lv_room (Nat.le_of_ble_eq_true rfl)) dX5_isOffByMembers_123 ⟨Nat.le_of_ble_eq_true rfl, Nat.le_of_ble_eq_true rfl⟩) (fun r_2 hr_2 => ?_)
            obtain rfl : r_2 = bI (x5 < 2 * farI (mv o) x4) := hr_2
            refine lv_if_eq (tgt := 133) hx hb dX5_isOffByMembers_126 (by decide) (fun c_126 => ?_) (fun c_126 => ?_)
            · skip
              have c_126 := bI_z c_126
              refine lv_iconst (v := 0) hx hb dX5_isOffByMembers_133 (by decide) ?_
              exact W.zret (v := 0) hx hb hr (rfl) (fun t ht hW => ⟨0, rfl, (bI_f (by unfold memOff; first | (rw [show (fun m => hM mc mp mm mf md mF c p (nI m) f) 0 = some o from hO]; simp only [Bool.and_eq_true, decide_eq_true_eq]; exact fun q => c_126 (by rw [e12_4, e12_5]; exact q.2)) | (rw [hx6]; cases (fun m => hM mc mp mm mf md mF c p (nI m) f) 0 <;> simp))), ht⟩) (fun q h => nomatch h) dX5_isOffByMembers_134
            · skip
              have c_126 := bI_n c_126
              refine lv_iconst (v := 1) hx hb dX5_isOffByMembers_129 (by decide) ?_
              refine lv_goto (tgt := 134) hx hb dX5_isOffByMembers_130 (by decide) ?_
              exact W.zret (v := 1) hx hb hr (rfl) (fun t ht hW => ⟨1, rfl, (bI_t (by unfold memOff; rw [show (fun m => hM mc mp mm mf md mF c p (nI m) f) 0 = some o from hO]; simp only [Bool.and_eq_true, decide_eq_true_eq]; exact ⟨hx6, by rw [← e12_4, ← e12_5]; exact c_126⟩)), ht⟩) (fun q h => nomatch h) dX5_isOffByMembers_134
      · skip
        have hkF : k < 4 := by have := mt (nI_leI (a := 4) (b := k) (by omega) (by omega)).mpr c_15; omega
        refine lv_aload_n hx hb dX5_isOffByMembers_18 rfl (lv_at hl 7 rfl) ?_
        refine lv_iload_n hx hb dX5_isOffByMembers_19 rfl (lv_at hl 6 rfl) ?_
        refine lv_iload_n hx hb dX5_isOffByMembers_20 rfl (lv_at hl 5 rfl) ?_
        refine lv_iload hx hb dX5_isOffByMembers_21 (lv_at hl 0 rfl) ?_
        refine lv_iload_n hx hb dX5_isOffByMembers_23 rfl (lv_at hl 4 rfl) ?_
        refine g_csi (va_runV (As := [.int c, .int p, .int (nI k), .int f]) (rest := []) ⟨hx, hb, hml, hown, hts⟩ (c5_holds l D cI cZ cO cL dt A b mC mR mL mF mpar mwt mstk mflw mc mp mm mf md mv mder mkn thr R c p (nI k) f hF hmf hmd) (cwV 4 hts gX5_isOffByMembers_X5_holds rfl rfl rfl (by decide +kernel) ⟨Nat.le_of_ble_eq_true rfl, Nat.le_of_ble_eq_true rfl⟩) (gP.v hg hP 4 rfl (0) (rfl) hP) rfl rfl hl.1 rfl (lv_room (Nat.le_of_ble_eq_true rfl)) dX5_isOffByMembers_24 ⟨Nat.le_of_ble_eq_true rfl, Nat.le_of_ble_eq_true rfl⟩) (fun r_3 hr_3 => ?_)
        obtain ⟨o_r_3, hS⟩ : ∃ z, hM mc mp mm mf md mF c p (nI k) f = z := ⟨_, rfl⟩
        rcases o_r_3 with _ | j
        · skip
          obtain rfl : r_3 = (-1) := hr_3.trans (congrArg oI hS)
          refine lv_istore (lv' := [(8, .int (-1)), (7, .int (nI k)), (4, .int x4), (5, .int x5), (6, .int x6), (3, .int f), (2, .int p), (1, .int c), (0, .ref (b 0))]) hx hb dX5_isOffByMembers_27 hl (by decide) rfl (fun ls hl => ?_)
          refine lv_iload hx hb dX5_isOffByMembers_29 (lv_at hl 4 rfl) ?_
          refine lv_if_eq (tgt := 44) hx hb dX5_isOffByMembers_31 (by decide) (fun c_31 => ?_) (fun c_31 => ?_)
          · skip
            have hx6 : mAll (fun m => hM mc mp mm mf md mF c p (nI m) f) k = false := by rw [e12_6] at c_31; have := bI_z c_31; simpa using this
            refine lv_iconst (v := 0) hx hb dX5_isOffByMembers_44 (by decide) ?_
            refine lv_istore (lv' := [(6, .int 0), (8, .int (-1)), (7, .int (nI k)), (4, .int x4), (5, .int x5), (3, .int f), (2, .int p), (1, .int c), (0, .ref (b 0))]) hx hb dX5_isOffByMembers_45 hl (by decide) rfl (fun ls hl => ?_)
            refine lv_iload hx hb dX5_isOffByMembers_47 (lv_at hl 3 rfl) ?_
            refine lv_iload hx hb dX5_isOffByMembers_49 (lv_at hl 1 rfl) ?_
            refine lv_iconst (v := (-1)) hx hb dX5_isOffByMembers_51 (by decide) ?_
            refine lv_icmp_eq (tgt := 60) hx hb dX5_isOffByMembers_52 (by decide) (fun c_52 => ?_) (fun c_52 => ?_)
            · skip
              refine lv_iconst (v := 0) hx hb dX5_isOffByMembers_60 (by decide) ?_
              refine lv_goto (tgt := 71) hx hb dX5_isOffByMembers_61 (by decide) ?_
              refine lv_iadd hx hb dX5_isOffByMembers_71 ?_
              refine lv_istore (lv' := [(4, .int (x4 + 0)), (6, .int 0), (8, .int (-1)), (7, .int (nI k)), (5, .int x5), (3, .int f), (2, .int p), (1, .int c), (0, .ref (b 0))]) hx hb dX5_isOffByMembers_72 hl (by decide) rfl (fun ls hl => ?_)
              refine lv_iload hx hb dX5_isOffByMembers_74 (lv_at hl 4 rfl) ?_
              refine lv_iload hx hb dX5_isOffByMembers_76 (lv_at hl 2 rfl) ?_
              refine lv_iconst (v := (-1)) hx hb dX5_isOffByMembers_78 (by decide) ?_
              refine lv_icmp_ne (tgt := 86) hx hb dX5_isOffByMembers_79 (by decide) (fun c_79 => ?_) (fun c_79 => ?_)
              · skip
                exact absurd c_79 (by decide)
              · skip
                refine lv_iconst (v := 0) hx hb dX5_isOffByMembers_82 (by decide) ?_
                refine lv_goto (tgt := 92) hx hb dX5_isOffByMembers_83 (by decide) ?_
                refine lv_iadd hx hb dX5_isOffByMembers_92 ?_
                refine lv_istore (lv' := [(5, .int (x5 + 0)), (4, .int (x4 + 0)), (6, .int 0), (8, .int (-1)), (7, .int (nI k)), (3, .int f), (2, .int p), (1, .int c), (0, .ref (b 0))]) hx hb dX5_isOffByMembers_93 hl (by decide) rfl (fun ls hl => ?_)
                refine lv_iinc (v := nI (k + 1)) (lv' := [(7, .int (nI (k + 1))), (5, .int (x5 + 0)), (4, .int (x4 + 0)), (6, .int 0), (8, .int (-1)), (3, .int f), (2, .int p), (1, .int c), (0, .ref (b 0))]) hx hb dX5_isOffByMembers_95 hl (k := 4) rfl (nI_1 k) (by decide) rfl (fun ls hl => ?_)
                refine lv_goto (tgt := 12) hx hb dX5_isOffByMembers_98 (by decide) ?_
                exact ih12 (k + 1)  (x4 + 0) (x5 + 0) 0 (by omega) (by omega) (by first | (simp [mSum, mDbt, mAll, bI, hS, hx6, hk0, e12_4, e12_5]; done) | (simp [mSum, mDbt, mAll, bI, hS, hx6, e12_4, e12_5]; done)) (by first | (simp [mSum, mDbt, mAll, bI, hS, hx6, hk0, e12_4, e12_5]; done) | (simp [mSum, mDbt, mAll, bI, hS, hx6, e12_4, e12_5]; done)) (by first | (simp [mSum, mDbt, mAll, bI, hS, hx6, hk0, e12_4, e12_5]; done) | (simp [mSum, mDbt, mAll, bI, hS, hx6, e12_4, e12_5]; done))  _ (lv_sub hl [0, 2, 1, 3, 5, 6, 7, 8] rfl)
            · skip
              exact absurd c_52 (by decide)
          · skip
            have hx6 : mAll (fun m => hM mc mp mm mf md mF c p (nI m) f) k = true := by rw [e12_6] at c_31; exact bI_n c_31
            refine lv_iload hx hb dX5_isOffByMembers_34 (lv_at hl 0 rfl) ?_
            refine lv_iconst (v := (-1)) hx hb dX5_isOffByMembers_36 (by decide) ?_
            refine lv_icmp_eq (tgt := 44) hx hb dX5_isOffByMembers_37 (by decide) (fun c_37 => ?_) (fun c_37 => ?_)
            · skip
              refine lv_iconst (v := 0) hx hb dX5_isOffByMembers_44 (by decide) ?_
              refine lv_istore (lv' := [(6, .int 0), (8, .int (-1)), (7, .int (nI k)), (4, .int x4), (5, .int x5), (3, .int f), (2, .int p), (1, .int c), (0, .ref (b 0))]) hx hb dX5_isOffByMembers_45 hl (by decide) rfl (fun ls hl => ?_)
              refine lv_iload hx hb dX5_isOffByMembers_47 (lv_at hl 3 rfl) ?_
              refine lv_iload hx hb dX5_isOffByMembers_49 (lv_at hl 1 rfl) ?_
              refine lv_iconst (v := (-1)) hx hb dX5_isOffByMembers_51 (by decide) ?_
              refine lv_icmp_eq (tgt := 60) hx hb dX5_isOffByMembers_52 (by decide) (fun c_52 => ?_) (fun c_52 => ?_)
              · skip
                refine lv_iconst (v := 0) hx hb dX5_isOffByMembers_60 (by decide) ?_
                refine lv_goto (tgt := 71) hx hb dX5_isOffByMembers_61 (by decide) ?_
                refine lv_iadd hx hb dX5_isOffByMembers_71 ?_
                refine lv_istore (lv' := [(4, .int (x4 + 0)), (6, .int 0), (8, .int (-1)), (7, .int (nI k)), (5, .int x5), (3, .int f), (2, .int p), (1, .int c), (0, .ref (b 0))]) hx hb dX5_isOffByMembers_72 hl (by decide) rfl (fun ls hl => ?_)
                refine lv_iload hx hb dX5_isOffByMembers_74 (lv_at hl 4 rfl) ?_
                refine lv_iload hx hb dX5_isOffByMembers_76 (lv_at hl 2 rfl) ?_
                refine lv_iconst (v := (-1)) hx hb dX5_isOffByMembers_78 (by decide) ?_
                refine lv_icmp_ne (tgt := 86) hx hb dX5_isOffByMembers_79 (by decide) (fun c_79 => ?_) (fun c_79 => ?_)
                · skip
                  exact absurd c_79 (by decide)
                · skip
                  refine lv_iconst (v := 0) hx hb dX5_isOffByMembers_82 (by decide) ?_
                  refine lv_goto (tgt := 92) hx hb dX5_isOffByMembers_83 (by decide) ?_
                  refine lv_iadd hx hb dX5_isOffByMembers_92 ?_
                  refine lv_istore (lv' := [(5, .int (x5 + 0)), (4, .int (x4 + 0)), (6, .int 0), (8, .int (-1)), (7, .int (nI k)), (3, .int f), (2, .int p), (1, .int c), (0, .ref (b 0))]) hx hb dX5_isOffByMembers_93 hl (by decide) rfl (fun ls hl => ?_)
                  refine lv_iinc (v := nI (k + 1)) (lv' := [(7, .int (nI (k + 1))), (5, .int (x5 + 0)), (4, .int (x4 + 0)), (6, .int 0), (8, .int (-1)), (3, .int f), (2, .int p), (1, .int c), (0, .ref (b 0))]) hx hb dX5_isOffByMembers_95 hl (k := 4) rfl (nI_1 k) (by decide) rfl (fun ls hl => ?_)
                  refine lv_goto (tgt := 12) hx hb dX5_isOffByMembers_98 (by decide) ?_
                  exact ih12 (k + 1)  (x4 + 0) (x5 + 0) 0 (by omega) (by omega) (by first | (simp [mSum, mDbt, mAll, bI, hS, hx6, hk0, e12_4, e12_5]; done) | (simp [mSum, mDbt, mAll, bI, hS, hx6, e12_4, e12_5]; done)) (by first | (simp [mSum, mDbt, mAll, bI, hS, hx6, hk0, e12_4, e12_5]; done) | (simp [mSum, mDbt, mAll, bI, hS, hx6, e12_4, e12_5]; done)) (by first | (simp [mSum, mDbt, mAll, bI, hS, hx6, hk0, e12_4, e12_5]; done) | (simp [mSum, mDbt, mAll, bI, hS, hx6, e12_4, e12_5]; done))  _ (lv_sub hl [0, 2, 1, 3, 5, 6, 7, 8] rfl)
              · skip
                exact absurd c_52 (by decide)
            · skip
              exact absurd c_37 (by decide)
        · skip
          obtain rfl : r_3 = nI j := hr_3.trans (congrArg oI hS)
          have hj := (sel_lt hS).1
          refine lv_istore (lv' := [(8, .int (nI j)), (7, .int (nI k)), (4, .int x4), (5, .int x5), (6, .int x6), (3, .int f), (2, .int p), (1, .int c), (0, .ref (b 0))]) hx hb dX5_isOffByMembers_27 hl (by decide) rfl (fun ls hl => ?_)
          refine lv_iload hx hb dX5_isOffByMembers_29 (lv_at hl 4 rfl) ?_
          refine lv_if_eq (tgt := 44) hx hb dX5_isOffByMembers_31 (by decide) (fun c_31 => ?_) (fun c_31 => ?_)
          · skip
            have hx6 : mAll (fun m => hM mc mp mm mf md mF c p (nI m) f) k = false := by rw [e12_6] at c_31; have := bI_z c_31; simpa using this
            refine lv_iconst (v := 0) hx hb dX5_isOffByMembers_44 (by decide) ?_
            refine lv_istore (lv' := [(6, .int 0), (8, .int (nI j)), (7, .int (nI k)), (4, .int x4), (5, .int x5), (3, .int f), (2, .int p), (1, .int c), (0, .ref (b 0))]) hx hb dX5_isOffByMembers_45 hl (by decide) rfl (fun ls hl => ?_)
            refine lv_iload hx hb dX5_isOffByMembers_47 (lv_at hl 3 rfl) ?_
            refine lv_iload hx hb dX5_isOffByMembers_49 (lv_at hl 1 rfl) ?_
            refine lv_iconst (v := (-1)) hx hb dX5_isOffByMembers_51 (by decide) ?_
            refine lv_icmp_eq (tgt := 60) hx hb dX5_isOffByMembers_52 (by decide) (fun c_52 => ?_) (fun c_52 => ?_)
            · skip
              exact absurd c_52 (nI_nm1 (by omega))
            · skip
              refine lv_iload hx hb dX5_isOffByMembers_55 (lv_at hl 2 rfl) ?_
              refine lv_if_ne (tgt := 64) hx hb dX5_isOffByMembers_57 (by decide) (fun c_57 => ?_) (fun c_57 => ?_)
              · skip
                have hk0 : ¬ k = 0 := fun q => c_57 (by rw [q]; rfl)
                refine lv_aload_n hx hb dX5_isOffByMembers_64 rfl (lv_at hl 8 rfl) ?_
                refine va_get (D := D) (ci := 4) (v := .ref (b 9)) (C := RX5) (T := TX5) (N := 17) hx hb hts win_X5 hown hK hP (0) (rfl) rfl 12 (by decide) w_0 (fun _ h9 => h9) rfl dX5_isOffByMembers_65 ?_
                refine lv_iload hx hb dX5_isOffByMembers_68 (lv_at hl 1 rfl) ?_
                refine g_iald hx hb hK hP (9) 0 (n := 80) (f := mv) (rfl) rfl j rfl (by omega) (by decide) dX5_isOffByMembers_70 ?_
                refine lv_iadd hx hb dX5_isOffByMembers_71 ?_
                refine lv_istore (lv' := [(4, .int (x4 + (mv j))), (6, .int 0), (8, .int (nI j)), (7, .int (nI k)), (5, .int x5), (3, .int f), (2, .int p), (1, .int c), (0, .ref (b 0))]) hx hb dX5_isOffByMembers_72 hl (by decide) rfl (fun ls hl => ?_)
                refine lv_iload hx hb dX5_isOffByMembers_74 (lv_at hl 4 rfl) ?_
                refine lv_iload hx hb dX5_isOffByMembers_76 (lv_at hl 2 rfl) ?_
                refine lv_iconst (v := (-1)) hx hb dX5_isOffByMembers_78 (by decide) ?_
                refine lv_icmp_ne (tgt := 86) hx hb dX5_isOffByMembers_79 (by decide) (fun c_79 => ?_) (fun c_79 => ?_)
                · skip
                  refine lv_aload_n hx hb dX5_isOffByMembers_86 rfl (lv_at hl 8 rfl) ?_
                  refine lv_iload hx hb dX5_isOffByMembers_87 (lv_at hl 2 rfl) ?_
                  refine g_csi (va_runV (As := [.int (nI j)]) (rest := [.int x5]) ⟨hx, hb, hml, hown, hts⟩ (c5_doubtOf l D cI cZ cO cL dt A b mC mR mL mF mpar mwt mstk mflw mc mp mm mf md mv mder mkn thr R j (by omega) hmd) (cwV 1 hts gX5_isOffByMembers_X5_doubtOf rfl rfl rfl (by decide +kernel) ⟨Nat.le_of_ble_eq_true rfl, Nat.le_of_ble_eq_true rfl⟩) (gP.v hg hP 4 rfl (0) (rfl) hP) rfl rfl hl.1 rfl (lv_room (Nat.le_of_ble_eq_true rfl)) dX5_isOffByMembers_89 ⟨Nat.le_of_ble_eq_true rfl, Nat.le_of_ble_eq_true rfl⟩) (fun r_4 hr_4 => ?_)
                  obtain rfl : r_4 = nI (10 ^ md j) := hr_4
                  refine lv_iadd hx hb dX5_isOffByMembers_92 ?_
                  refine lv_istore (lv' := [(5, .int (x5 + (nI (10 ^ md j)))), (4, .int (x4 + (mv j))), (6, .int 0), (8, .int (nI j)), (7, .int (nI k)), (3, .int f), (2, .int p), (1, .int c), (0, .ref (b 0))]) hx hb dX5_isOffByMembers_93 hl (by decide) rfl (fun ls hl => ?_)
                  refine lv_iinc (v := nI (k + 1)) (lv' := [(7, .int (nI (k + 1))), (5, .int (x5 + (nI (10 ^ md j)))), (4, .int (x4 + (mv j))), (6, .int 0), (8, .int (nI j)), (3, .int f), (2, .int p), (1, .int c), (0, .ref (b 0))]) hx hb dX5_isOffByMembers_95 hl (k := 4) rfl (nI_1 k) (by decide) rfl (fun ls hl => ?_)
                  refine lv_goto (tgt := 12) hx hb dX5_isOffByMembers_98 (by decide) ?_
                  exact ih12 (k + 1)  (x4 + (mv j)) (x5 + (nI (10 ^ md j))) 0 (by omega) (by omega) (by first | (simp [mSum, mDbt, mAll, bI, hS, hx6, hk0, e12_4, e12_5]; done) | (simp [mSum, mDbt, mAll, bI, hS, hx6, e12_4, e12_5]; done)) (by first | (simp [mSum, mDbt, mAll, bI, hS, hx6, hk0, e12_4, e12_5]; done) | (simp [mSum, mDbt, mAll, bI, hS, hx6, e12_4, e12_5]; done)) (by first | (simp [mSum, mDbt, mAll, bI, hS, hx6, hk0, e12_4, e12_5]; done) | (simp [mSum, mDbt, mAll, bI, hS, hx6, e12_4, e12_5]; done))  _ (lv_sub hl [0, 2, 1, 3, 5, 6, 7, 8] rfl)
                · skip
                  exact absurd c_79 (nI_nm1 (by omega))
              · skip
                have hk0 : k = 0 := (nI_eq (by omega) (by decide)).mp c_57
                refine lv_iconst (v := 0) hx hb dX5_isOffByMembers_60 (by decide) ?_
                refine lv_goto (tgt := 71) hx hb dX5_isOffByMembers_61 (by decide) ?_
                refine lv_iadd hx hb dX5_isOffByMembers_71 ?_
                refine lv_istore (lv' := [(4, .int (x4 + 0)), (6, .int 0), (8, .int (nI j)), (7, .int (nI k)), (5, .int x5), (3, .int f), (2, .int p), (1, .int c), (0, .ref (b 0))]) hx hb dX5_isOffByMembers_72 hl (by decide) rfl (fun ls hl => ?_)
                refine lv_iload hx hb dX5_isOffByMembers_74 (lv_at hl 4 rfl) ?_
                refine lv_iload hx hb dX5_isOffByMembers_76 (lv_at hl 2 rfl) ?_
                refine lv_iconst (v := (-1)) hx hb dX5_isOffByMembers_78 (by decide) ?_
                refine lv_icmp_ne (tgt := 86) hx hb dX5_isOffByMembers_79 (by decide) (fun c_79 => ?_) (fun c_79 => ?_)
                · skip
                  refine lv_aload_n hx hb dX5_isOffByMembers_86 rfl (lv_at hl 8 rfl) ?_
                  refine lv_iload hx hb dX5_isOffByMembers_87 (lv_at hl 2 rfl) ?_
                  refine g_csi (va_runV (As := [.int (nI j)]) (rest := [.int x5]) ⟨hx, hb, hml, hown, hts⟩ (c5_doubtOf l D cI cZ cO cL dt A b mC mR mL mF mpar mwt mstk mflw mc mp mm mf md mv mder mkn thr R j (by omega) hmd) (cwV 1 hts gX5_isOffByMembers_X5_doubtOf rfl rfl rfl (by decide +kernel) ⟨Nat.le_of_ble_eq_true rfl, Nat.le_of_ble_eq_true rfl⟩) (gP.v hg hP 4 rfl (0) (rfl) hP) rfl rfl hl.1 rfl (lv_room (Nat.le_of_ble_eq_true rfl)) dX5_isOffByMembers_89 ⟨Nat.le_of_ble_eq_true rfl, Nat.le_of_ble_eq_true rfl⟩) (fun r_5 hr_5 => ?_)
                  obtain rfl : r_5 = nI (10 ^ md j) := hr_5
                  refine lv_iadd hx hb dX5_isOffByMembers_92 ?_
                  refine lv_istore (lv' := [(5, .int (x5 + (nI (10 ^ md j)))), (4, .int (x4 + 0)), (6, .int 0), (8, .int (nI j)), (7, .int (nI k)), (3, .int f), (2, .int p), (1, .int c), (0, .ref (b 0))]) hx hb dX5_isOffByMembers_93 hl (by decide) rfl (fun ls hl => ?_)
                  refine lv_iinc (v := nI (k + 1)) (lv' := [(7, .int (nI (k + 1))), (5, .int (x5 + (nI (10 ^ md j)))), (4, .int (x4 + 0)), (6, .int 0), (8, .int (nI j)), (3, .int f), (2, .int p), (1, .int c), (0, .ref (b 0))]) hx hb dX5_isOffByMembers_95 hl (k := 4) rfl (nI_1 k) (by decide) rfl (fun ls hl => ?_)
                  refine lv_goto (tgt := 12) hx hb dX5_isOffByMembers_98 (by decide) ?_
                  exact ih12 (k + 1)  (x4 + 0) (x5 + (nI (10 ^ md j))) 0 (by omega) (by omega) (by first | (simp [mSum, mDbt, mAll, bI, hS, hx6, hk0, e12_4, e12_5]; done) | (simp [mSum, mDbt, mAll, bI, hS, hx6, e12_4, e12_5]; done)) (by first | (simp [mSum, mDbt, mAll, bI, hS, hx6, hk0, e12_4, e12_5]; done) | (simp [mSum, mDbt, mAll, bI, hS, hx6, e12_4, e12_5]; done)) (by first | (simp [mSum, mDbt, mAll, bI, hS, hx6, hk0, e12_4, e12_5]; done) | (simp [mSum, mDbt, mAll, bI, hS, hx6, e12_4, e12_5]; done))  _ (lv_sub hl [0, 2, 1, 3, 5, 6, 7, 8] rfl)
                · skip
                  exact absurd c_79 (nI_nm1 (by omega))
          · skip
            have hx6 : mAll (fun m => hM mc mp mm mf md mF c p (nI m) f) k = true := by rw [e12_6] at c_31; exact bI_n c_31
            refine lv_iload hx hb dX5_isOffByMembers_34 (lv_at hl 0 rfl) ?_
            refine lv_iconst (v := (-1)) hx hb dX5_isOffByMembers_36 (by decide) ?_
            refine lv_icmp_eq (tgt := 44) hx hb dX5_isOffByMembers_37 (by decide) (fun c_37 => ?_) (fun c_37 => ?_)
            · skip
              exact absurd c_37 (nI_nm1 (by omega))
            · skip
              refine lv_iconst (v := 1) hx hb dX5_isOffByMembers_40 (by decide) ?_
              refine lv_goto (tgt := 45) hx hb dX5_isOffByMembers_41 (by decide) ?_
              refine lv_istore (lv' := [(6, .int 1), (8, .int (nI j)), (7, .int (nI k)), (4, .int x4), (5, .int x5), (3, .int f), (2, .int p), (1, .int c), (0, .ref (b 0))]) hx hb dX5_isOffByMembers_45 hl (by decide) rfl (fun ls hl => ?_)
              refine lv_iload hx hb dX5_isOffByMembers_47 (lv_at hl 3 rfl) ?_
              refine lv_iload hx hb dX5_isOffByMembers_49 (lv_at hl 1 rfl) ?_
              refine lv_iconst (v := (-1)) hx hb dX5_isOffByMembers_51 (by decide) ?_
              refine lv_icmp_eq (tgt := 60) hx hb dX5_isOffByMembers_52 (by decide) (fun c_52 => ?_) (fun c_52 => ?_)
              · skip
                exact absurd c_52 (nI_nm1 (by omega))
              · skip
                refine lv_iload hx hb dX5_isOffByMembers_55 (lv_at hl 2 rfl) ?_
                refine lv_if_ne (tgt := 64) hx hb dX5_isOffByMembers_57 (by decide) (fun c_57 => ?_) (fun c_57 => ?_)
                · skip
                  have hk0 : ¬ k = 0 := fun q => c_57 (by rw [q]; rfl)
                  refine lv_aload_n hx hb dX5_isOffByMembers_64 rfl (lv_at hl 8 rfl) ?_
                  refine va_get (D := D) (ci := 4) (v := .ref (b 9)) (C := RX5) (T := TX5) (N := 17) hx hb hts win_X5 hown hK hP (0) (rfl) rfl 12 (by decide) w_0 (fun _ h9 => h9) rfl dX5_isOffByMembers_65 ?_
                  refine lv_iload hx hb dX5_isOffByMembers_68 (lv_at hl 1 rfl) ?_
                  refine g_iald hx hb hK hP (9) 0 (n := 80) (f := mv) (rfl) rfl j rfl (by omega) (by decide) dX5_isOffByMembers_70 ?_
                  refine lv_iadd hx hb dX5_isOffByMembers_71 ?_
                  refine lv_istore (lv' := [(4, .int (x4 + (mv j))), (6, .int 1), (8, .int (nI j)), (7, .int (nI k)), (5, .int x5), (3, .int f), (2, .int p), (1, .int c), (0, .ref (b 0))]) hx hb dX5_isOffByMembers_72 hl (by decide) rfl (fun ls hl => ?_)
                  refine lv_iload hx hb dX5_isOffByMembers_74 (lv_at hl 4 rfl) ?_
                  refine lv_iload hx hb dX5_isOffByMembers_76 (lv_at hl 2 rfl) ?_
                  refine lv_iconst (v := (-1)) hx hb dX5_isOffByMembers_78 (by decide) ?_
                  refine lv_icmp_ne (tgt := 86) hx hb dX5_isOffByMembers_79 (by decide) (fun c_79 => ?_) (fun c_79 => ?_)
                  · skip
                    refine lv_aload_n hx hb dX5_isOffByMembers_86 rfl (lv_at hl 8 rfl) ?_
                    refine lv_iload hx hb dX5_isOffByMembers_87 (lv_at hl 2 rfl) ?_
                    refine g_csi (va_runV (As := [.int (nI j)]) (rest := [.int x5]) ⟨hx, hb, hml, hown, hts⟩ (c5_doubtOf l D cI cZ cO cL dt A b mC mR mL mF mpar mwt mstk mflw mc mp mm mf md mv mder mkn thr R j (by omega) hmd) (cwV 1 hts gX5_isOffByMembers_X5_doubtOf rfl rfl rfl (by decide +kernel) ⟨Nat.le_of_ble_eq_true rfl, Nat.le_of_ble_eq_true rfl⟩) (gP.v hg hP 4 rfl (0) (rfl) hP) rfl rfl hl.1 rfl (lv_room (Nat.le_of_ble_eq_true rfl)) dX5_isOffByMembers_89 ⟨Nat.le_of_ble_eq_true rfl, Nat.le_of_ble_eq_true rfl⟩) (fun r_6 hr_6 => ?_)
                    obtain rfl : r_6 = nI (10 ^ md j) := hr_6
                    refine lv_iadd hx hb dX5_isOffByMembers_92 ?_
                    refine lv_istore (lv' := [(5, .int (x5 + (nI (10 ^ md j)))), (4, .int (x4 + (mv j))), (6, .int 1), (8, .int (nI j)), (7, .int (nI k)), (3, .int f), (2, .int p), (1, .int c), (0, .ref (b 0))]) hx hb dX5_isOffByMembers_93 hl (by decide) rfl (fun ls hl => ?_)
                    refine lv_iinc (v := nI (k + 1)) (lv' := [(7, .int (nI (k + 1))), (5, .int (x5 + (nI (10 ^ md j)))), (4, .int (x4 + (mv j))), (6, .int 1), (8, .int (nI j)), (3, .int f), (2, .int p), (1, .int c), (0, .ref (b 0))]) hx hb dX5_isOffByMembers_95 hl (k := 4) rfl (nI_1 k) (by decide) rfl (fun ls hl => ?_)
                    refine lv_goto (tgt := 12) hx hb dX5_isOffByMembers_98 (by decide) ?_
                    exact ih12 (k + 1)  (x4 + (mv j)) (x5 + (nI (10 ^ md j))) 1 (by omega) (by omega) (by first | (simp [mSum, mDbt, mAll, bI, hS, hx6, hk0, e12_4, e12_5]; done) | (simp [mSum, mDbt, mAll, bI, hS, hx6, e12_4, e12_5]; done)) (by first | (simp [mSum, mDbt, mAll, bI, hS, hx6, hk0, e12_4, e12_5]; done) | (simp [mSum, mDbt, mAll, bI, hS, hx6, e12_4, e12_5]; done)) (by first | (simp [mSum, mDbt, mAll, bI, hS, hx6, hk0, e12_4, e12_5]; done) | (simp [mSum, mDbt, mAll, bI, hS, hx6, e12_4, e12_5]; done))  _ (lv_sub hl [0, 2, 1, 3, 5, 6, 7, 8] rfl)
                  · skip
                    exact absurd c_79 (nI_nm1 (by omega))
                · skip
                  have hk0 : k = 0 := (nI_eq (by omega) (by decide)).mp c_57
                  refine lv_iconst (v := 0) hx hb dX5_isOffByMembers_60 (by decide) ?_
                  refine lv_goto (tgt := 71) hx hb dX5_isOffByMembers_61 (by decide) ?_
                  refine lv_iadd hx hb dX5_isOffByMembers_71 ?_
                  refine lv_istore (lv' := [(4, .int (x4 + 0)), (6, .int 1), (8, .int (nI j)), (7, .int (nI k)), (5, .int x5), (3, .int f), (2, .int p), (1, .int c), (0, .ref (b 0))]) hx hb dX5_isOffByMembers_72 hl (by decide) rfl (fun ls hl => ?_)
                  refine lv_iload hx hb dX5_isOffByMembers_74 (lv_at hl 4 rfl) ?_
                  refine lv_iload hx hb dX5_isOffByMembers_76 (lv_at hl 2 rfl) ?_
                  refine lv_iconst (v := (-1)) hx hb dX5_isOffByMembers_78 (by decide) ?_
                  refine lv_icmp_ne (tgt := 86) hx hb dX5_isOffByMembers_79 (by decide) (fun c_79 => ?_) (fun c_79 => ?_)
                  · skip
                    refine lv_aload_n hx hb dX5_isOffByMembers_86 rfl (lv_at hl 8 rfl) ?_
                    refine lv_iload hx hb dX5_isOffByMembers_87 (lv_at hl 2 rfl) ?_
                    refine g_csi (va_runV (As := [.int (nI j)]) (rest := [.int x5]) ⟨hx, hb, hml, hown, hts⟩ (c5_doubtOf l D cI cZ cO cL dt A b mC mR mL mF mpar mwt mstk mflw mc mp mm mf md mv mder mkn thr R j (by omega) hmd) (cwV 1 hts gX5_isOffByMembers_X5_doubtOf rfl rfl rfl (by decide +kernel) ⟨Nat.le_of_ble_eq_true rfl, Nat.le_of_ble_eq_true rfl⟩) (gP.v hg hP 4 rfl (0) (rfl) hP) rfl rfl hl.1 rfl (lv_room (Nat.le_of_ble_eq_true rfl)) dX5_isOffByMembers_89 ⟨Nat.le_of_ble_eq_true rfl, Nat.le_of_ble_eq_true rfl⟩) (fun r_7 hr_7 => ?_)
                    obtain rfl : r_7 = nI (10 ^ md j) := hr_7
                    refine lv_iadd hx hb dX5_isOffByMembers_92 ?_
                    refine lv_istore (lv' := [(5, .int (x5 + (nI (10 ^ md j)))), (4, .int (x4 + 0)), (6, .int 1), (8, .int (nI j)), (7, .int (nI k)), (3, .int f), (2, .int p), (1, .int c), (0, .ref (b 0))]) hx hb dX5_isOffByMembers_93 hl (by decide) rfl (fun ls hl => ?_)
                    refine lv_iinc (v := nI (k + 1)) (lv' := [(7, .int (nI (k + 1))), (5, .int (x5 + (nI (10 ^ md j)))), (4, .int (x4 + 0)), (6, .int 1), (8, .int (nI j)), (3, .int f), (2, .int p), (1, .int c), (0, .ref (b 0))]) hx hb dX5_isOffByMembers_95 hl (k := 4) rfl (nI_1 k) (by decide) rfl (fun ls hl => ?_)
                    refine lv_goto (tgt := 12) hx hb dX5_isOffByMembers_98 (by decide) ?_
                    exact ih12 (k + 1)  (x4 + 0) (x5 + (nI (10 ^ md j))) 1 (by omega) (by omega) (by first | (simp [mSum, mDbt, mAll, bI, hS, hx6, hk0, e12_4, e12_5]; done) | (simp [mSum, mDbt, mAll, bI, hS, hx6, e12_4, e12_5]; done)) (by first | (simp [mSum, mDbt, mAll, bI, hS, hx6, hk0, e12_4, e12_5]; done) | (simp [mSum, mDbt, mAll, bI, hS, hx6, e12_4, e12_5]; done)) (by first | (simp [mSum, mDbt, mAll, bI, hS, hx6, hk0, e12_4, e12_5]; done) | (simp [mSum, mDbt, mAll, bI, hS, hx6, e12_4, e12_5]; done))  _ (lv_sub hl [0, 2, 1, 3, 5, 6, 7, 8] rfl)
                  · skip
                    exact absurd c_79 (nI_nm1 (by omega))
  exact lp12 (4 + 1) 0  0 0 1 (by omega) (by omega) rfl rfl (bI_t rfl)  _ (lv_sub hl [0, 3, 2, 1, 7, 6, 5, 4] rfl)
