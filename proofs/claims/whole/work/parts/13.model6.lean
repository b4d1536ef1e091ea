set_option maxHeartbeats 4000000 in
set_option maxRecDepth 100000 in
/-- all faults -/
theorem c5_allFaults (l : Launch) (D : va_G) (cI cZ cO cL : ClassId) (dt : Nat) (A : Nat → Prop) (b : Nat → Nat) (mC mR mL mF : Nat) (mpar mwt mstk mflw : Nat → Int32) (mc mp mm mf md : Nat → Nat) (mv mder mkn : Nat → Int32) (thr : Int32) (R : va_W) (f : Int32) (hF : mF ≤ 80) (hC : mC ≤ 12) (hmf : ∀ k, mf k < 2 ^ 31) (hmd : ∀ k, md k < 2 ^ 31) (hR : mR ≤ 5) : Met l yX5_allFaults wsX5_allFaults ({ frames := 4, cells := 0, slots := 0, locals := 107 } : Room) (gP D cI cZ cO cL dt A [.ref (b 0), .int f] (fun H => va_P D vwCl (WM cI cZ b mC mR mL mF mpar mwt mstk mflw mc mp mm mf md mv mder mkn thr ++ R) H)) (vp_Si (fun r => r = mFlt mC mR mpar mwt mstk mflw (fun c p m => hM mc mp mm mf md mF c p m f) md mv)) 0 0 (fun _ => False) := by
  refine Met.ofW (cc := cX5_allFaults) (maxL := 6) (ret := (some .int)) (by decide) rfl ?_
  intro p9 e9 s m9 args below meth c9 s₁ B hml hv
  obtain ⟨rfl, hg, hP⟩ := hv
  have hx := B.exec
  have hb := B.bytes
  have hr := B.returns
  have hts := atoms_spec (ws := wsX5_allFaults) B.pre
  have hown : s.vm.findClass RX5 = some m9.cls := findClass_of_methodNamed B.named
  have hlocks := B.notSynchronized
  have hK := hg.1
  have w_0 := hts (.fieldLink RX5 54 "DimfactsModel" "concepts" "I") (by decide +kernel)
  have win_X5 : ∀ w ∈ wsX50, w ∈ wsX5_allFaults := by decide +kernel
  have w_2 := hts (.fieldLink RX5 72 "DimfactsModel" "rolls" "I") (by decide +kernel)
  have hl := lv_entry ([.ref (b 0), .int f]) (n := 6) (Nat.le_of_ble_eq_true rfl)
  rw [lg_entry_eq]
  generalize (lg_sl ([.ref (b 0), .int f]) ++ List.replicate (6 - (lg_sl ([.ref (b 0), .int f])).length) Slot.unset).toArray = ls at hl ⊢
  have hl : lv_has ls 6 [(0, .ref (b 0)), (1, .int f)] := hl
  refine lv_iconst (v := 0) hx hb dX5_allFaults_0 (by decide) ?_
  refine lv_istore_n (lv' := [(2, .int 0), (0, .ref (b 0)), (1, .int f)]) hx hb dX5_allFaults_1 rfl hl (by decide) rfl (fun ls hl => ?_)
  refine lv_iconst (v := 0) hx hb dX5_allFaults_2 (by decide) ?_
  refine lv_istore_n (lv' := [(3, .int 0), (2, .int 0), (0, .ref (b 0)), (1, .int f)]) hx hb dX5_allFaults_3 rfl hl (by decide) rfl (fun ls hl => ?_)
  have lp4 : ∀ (n4 pp : Nat)  (x2 : Int32), 10 < pp + n4 → pp ≤ 10 → x2 = sT (fun p => sT (fun k => bI (memOff (fun m => hM mc mp mm mf md mF (nI k) (nI p) (nI m) f) md mv = true) + sT (fun m => bI (sumOff mC mpar mwt (fun j => hM mc mp mm mf md mF (nI j) (nI p) (nI m) f) md mv (nI k) (hM mc mp mm mf md mF (nI k) (nI p) (nI m) f) = true)) 4) mC + sT (fun k => bI (rollOff (nI p) (hM mc mp mm mf md mF (mstk (k / 4)) (nI p) (nI (k % 4)) f) (hM mc mp mm mf md mF (mstk (k / 4)) (nI p - 1) (nI (k % 4)) f) (hM mc mp mm mf md mF (mflw (k / 4)) (nI p) (nI (k % 4)) f) md mv = true)) (4 * mR)) pp → ∀ ls : Array Slot, lv_has ls 6 [(3, .int (nI pp)), (2, .int x2), (1, .int f), (0, .ref (b 0))] → W p9 l e9 (headSpec wsX5_allFaults ({ frames := 4, cells := 0, slots := 0, locals := 107 } : Room)).room s m9 ([.ref (b 0), .int f] : List Value).toArray below meth c9 s.heap [] 0 0 (MQ below (vp_Si (fun r => r = mFlt mC mR mpar mwt mstk mflw (fun c p m => hM mc mp mm mf md mF c p m f) md mv)) ([.ref (b 0), .int f] : List Value).toArray s 0 0 (fun _ => False)) (F0 m9 4 ls []) := by
    intro n4
    induction n4 with
    | zero => intro pp  x2 h1 h2; exact absurd h1 (by omega)
    | succ n4 ih4 =>
      intro pp  x2 hn4 hk4 e4_2  ls hl
      refine lv_iload_n hx hb dX5_allFaults_4 rfl (lv_at hl 0 rfl) ?_
      refine lv_bipush (v := 10) hx hb dX5_allFaults_5 (by decide) ?_
      refine lv_icmp_ge (tgt := 134) hx hb dX5_allFaults_7 (by decide) (fun c_7 => ?_) (fun c_7 => ?_)
      · skip
        have hkF : pp = 10 := by have := (nI_leI (a := 10) (b := pp) (by omega) (by omega)).mp c_7; omega
        rw [hkF] at e4_2
        refine lv_iload_n hx hb dX5_allFaults_134 rfl (lv_at hl 1 rfl) ?_
        exact W.iret (v := x2) hx hb hr (fun t ht hW => ⟨x2, rfl, e4_2, ht⟩) (fun q h => nomatch h) dX5_allFaults_135
      · skip
        have hkF : pp < 10 := by have := mt (nI_leI (a := 10) (b := pp) (by omega) (by omega)).mpr c_7; omega
        refine lv_iconst (v := 0) hx hb dX5_allFaults_10 (by decide) ?_
        refine lv_istore (lv' := [(4, .int 0), (3, .int (nI pp)), (2, .int x2), (1, .int f), (0, .ref (b 0))]) hx hb dX5_allFaults_11 hl (by decide) rfl (fun ls hl => ?_)
        have lp13 : ∀ (n13 kk : Nat)  (y2 : Int32), mC < kk + n13 → kk ≤ mC → y2 = x2 + sT (fun k => bI (memOff (fun m => hM mc mp mm mf md mF (nI k) (nI pp) (nI m) f) md mv = true) + sT (fun m => bI (sumOff mC mpar mwt (fun j => hM mc mp mm mf md mF (nI j) (nI pp) (nI m) f) md mv (nI k) (hM mc mp mm mf md mF (nI k) (nI pp) (nI m) f) = true)) 4) kk → ∀ ls : Array Slot, lv_has ls 6 [(4, .int (nI kk)), (2, .int y2), (3, .int (nI pp)), (1, .int f), (0, .ref (b 0))] → W p9 l e9 (headSpec wsX5_allFaults ({ frames := 4, cells := 0, slots := 0, locals := 107 } : Room)).room s m9 ([.ref (b 0), .int f] : List Value).toArray below meth c9 s.heap [] 0 0 (MQ below (vp_Si (fun r => r = mFlt mC mR mpar mwt mstk mflw (fun c p m => hM mc mp mm mf md mF c p m f) md mv)) ([.ref (b 0), .int f] : List Value).toArray s 0 0 (fun _ => False)) (F0 m9 13 ls []) := by
          intro n13
          induction n13 with
          | zero => intro kk  y2 h1 h2; exact absurd h1 (by omega)
          | succ n13 ih13 =>
            intro kk  y2 hn13 hk13 e13_2  ls hl
            refine lv_iload hx hb dX5_allFaults_13 (lv_at hl 0 rfl) ?_
            refine lv_aload_n hx hb dX5_allFaults_15 rfl (lv_at hl 4 rfl) ?_
            refine va_get (D := D) (ci := 4) (v := .int (nI mC)) (C := RX5) (T := TX5) (N := 17) hx hb hts win_X5 hown hK hP (0) (rfl) rfl 0 (by decide) w_0 (fun _ h9 => h9) rfl dX5_allFaults_16 ?_
            refine lv_icmp_ge (tgt := 83) hx hb dX5_allFaults_19 (by decide) (fun c_19 => ?_) (fun c_19 => ?_)
            · skip
              have hkF : kk = mC := by have := (nI_leI (a := mC) (b := kk) (by omega) (by omega)).mp c_19; omega
              rw [hkF] at e13_2
              refine lv_iconst (v := 0) hx hb dX5_allFaults_83 (by decide) ?_
              refine lv_istore (lv' := [(4, .int 0), (2, .int y2), (3, .int (nI pp)), (1, .int f), (0, .ref (b 0))]) hx hb dX5_allFaults_84 hl (by decide) rfl (fun ls hl => ?_)
              have lp86 : ∀ (n86 kr : Nat)  (u2 : Int32), 4 * mR < kr + n86 → kr ≤ 4 * mR → u2 = y2 + sT (fun k => bI (rollOff (nI pp) (hM mc mp mm mf md mF (mstk (k / 4)) (nI pp) (nI (k % 4)) f) (hM mc mp mm mf md mF (mstk (k / 4)) (nI pp - 1) (nI (k % 4)) f) (hM mc mp mm mf md mF (mflw (k / 4)) (nI pp) (nI (k % 4)) f) md mv = true)) kr → ∀ ls : Array Slot, lv_has ls 6 [(4, .int (nI kr)), (2, .int u2), (3, .int (nI pp)), (1, .int f), (0, .ref (b 0))] → W p9 l e9 (headSpec wsX5_allFaults ({ frames := 4, cells := 0, slots := 0, locals := 107 } : Room)).room s m9 ([.ref (b 0), .int f] : List Value).toArray below meth c9 s.heap [] 0 0 (MQ below (vp_Si (fun r => r = mFlt mC mR mpar mwt mstk mflw (fun c p m => hM mc mp mm mf md mF c p m f) md mv)) ([.ref (b 0), .int f] : List Value).toArray s 0 0 (fun _ => False)) (F0 m9 86 ls []) := by
                intro n86
                induction n86 with
                | zero => intro kr  u2 h1 h2; exact absurd h1 (by omega)
                | succ n86 ih86 =>
                  intro kr  u2 hn86 hk86 e86_2  ls hl
                  refine lv_iload hx hb dX5_allFaults_86 (lv_at hl 0 rfl) ?_
                  refine lv_iconst (v := 4) hx hb dX5_allFaults_88 (by decide) ?_
                  refine lv_aload_n hx hb dX5_allFaults_89 rfl (lv_at hl 4 rfl) ?_
                  refine va_get (D := D) (ci := 4) (v := .int (nI mR)) (C := RX5) (T := TX5) (N := 17) hx hb hts win_X5 hown hK hP (0) (rfl) rfl 3 (by decide) w_2 (fun _ h9 => h9) rfl dX5_allFaults_90 ?_
                  refine lv_imul hx hb dX5_allFaults_93 ?_
                  refine lv_icmp_ge (tgt := 128) hx hb dX5_allFaults_94 (by decide) (fun c_94 => ?_) (fun c_94 => ?_)
                  · skip
                    have hkF : kr = 4 * mR := by rw [show (4 : Int32) * nI mR = nI (4 * mR) from pk_mul 4 mR] at c_94; have := (nI_leI (by omega) (by omega)).mp c_94; omega
                    rw [hkF] at e86_2
                    refine lv_iinc (v := nI (pp + 1)) (lv' := [(3, .int (nI (pp + 1))), (4, .int (nI kr)), (2, .int u2), (1, .int f), (0, .ref (b 0))]) hx hb dX5_allFaults_128 hl (k := 2) rfl (nI_1 pp) (by decide) rfl (fun ls hl => ?_)
                    refine lv_goto (tgt := 4) hx hb dX5_allFaults_131 (by decide) ?_
                    exact ih4 (pp + 1)  u2 (by omega) (by omega) (by rw [e86_2, e13_2, e4_2]; simp [sT, Int32.add_assoc])  _ (lv_sub hl [0, 2, 3, 4] rfl)
                  · skip
                    have hkF : kr < 4 * mR := by rw [show (4 : Int32) * nI mR = nI (4 * mR) from pk_mul 4 mR] at c_94; have := mt (nI_leI (a := 4 * mR) (b := kr) (by omega) (by omega)).mpr c_94; omega
                    refine lv_iload_n hx hb dX5_allFaults_97 rfl (lv_at hl 1 rfl) ?_
                    refine lv_aload_n hx hb dX5_allFaults_98 rfl (lv_at hl 4 rfl) ?_
                    refine lv_iload hx hb dX5_allFaults_99 (lv_at hl 0 rfl) ?_
                    refine lv_iconst (v := 4) hx hb dX5_allFaults_101 (by decide) ?_
                    refine lv_idiv hx hb dX5_allFaults_102 (by decide) ?_
                    refine lv_topi (fun dv edv => ?_)
                    obtain rfl : dv = nI (kr / 4) := by rw [edv]; exact pk_div (d := 4) (by omega) (by decide) (by decide)
                    refine lv_iload_n hx hb dX5_allFaults_103 rfl (lv_at hl 2 rfl) ?_
                    refine lv_iload hx hb dX5_allFaults_104 (lv_at hl 0 rfl) ?_
                    refine lv_iconst (v := 4) hx hb dX5_allFaults_106 (by decide) ?_
                    refine lv_irem hx hb dX5_allFaults_107 (by decide) ?_
                    refine lv_topi (fun dv edv => ?_)
                    obtain rfl : dv = nI (kr % 4) := by rw [edv]; exact pk_rem (d := 4) (by omega) (by decide) (by decide)
                    refine lv_iload_n hx hb dX5_allFaults_108 rfl (lv_at hl 3 rfl) ?_
                    refine g_csi (va_runV (As := [.int (nI (kr / 4)), .int (nI pp), .int (nI (kr % 4)), .int f]) (rest := [.int u2]) ⟨hx, hb, hml, hown, hts⟩ (c5_isOffByRoll l D cI cZ cO cL dt A b mC mR mL mF mpar mwt mstk mflw mc mp mm mf md mv mder mkn thr R (kr / 4) (nI pp) (nI (kr % 4)) f hF hC hmf hmd (by omega)) (cwV 4 hts gX5_allFaults_X5_isOffByRoll rfl rfl rfl (by decide +kernel) ⟨Nat.le_of_ble_eq_true rfl, Nat.le_of_ble_eq_true rfl⟩) (gP.v hg hP 4 rfl (0) (rfl) hP) rfl rfl hl.1 rfl (lv_room (Nat.le_of_ble_eq_true rfl)) dX5_allFaults_109 ⟨Nat.le_of_ble_eq_true rfl, Nat.le_of_ble_eq_true rfl⟩) (fun r_1 hr_1 => ?_)
                    obtain rfl : r_1 = bI (rollOff (nI pp) (hM mc mp mm mf md mF (mstk (kr / 4)) (nI pp) (nI (kr % 4)) f) (hM mc mp mm mf md mF (mstk (kr / 4)) (nI pp - 1) (nI (kr % 4)) f) (hM mc mp mm mf md mF (mflw (kr / 4)) (nI pp) (nI (kr % 4)) f) md mv = true) := hr_1
                    refine lv_if_eq (tgt := 119) hx hb dX5_allFaults_112 (by decide) (fun c_112 => ?_) (fun c_112 => ?_)
                    · skip
                      have c_112 := bI_z c_112
                      refine lv_iconst (v := 0) hx hb dX5_allFaults_119 (by decide) ?_
                      refine lv_iadd hx hb dX5_allFaults_120 ?_
                      refine lv_istore_n (lv' := [(2, .int (u2 + 0)), (4, .int (nI kr)), (3, .int (nI pp)), (1, .int f), (0, .ref (b 0))]) hx hb dX5_allFaults_121 rfl hl (by decide) rfl (fun ls hl => ?_)
                      refine lv_iinc (v := nI (kr + 1)) (lv' := [(4, .int (nI (kr + 1))), (2, .int (u2 + 0)), (3, .int (nI pp)), (1, .int f), (0, .ref (b 0))]) hx hb dX5_allFaults_122 hl (k := 1) rfl (nI_1 kr) (by decide) rfl (fun ls hl => ?_)
                      refine lv_goto (tgt := 86) hx hb dX5_allFaults_125 (by decide) ?_
                      exact ih86 (kr + 1)  (u2 + 0) (by omega) (by omega) (by rw [e86_2]; simp [sT, bI, c_112, Int32.add_assoc])  _ (lv_sub hl [0, 1, 2, 3, 4] rfl)
                    · skip
                      have c_112 := bI_n c_112
                      refine lv_iconst (v := 1) hx hb dX5_allFaults_115 (by decide) ?_
                      refine lv_goto (tgt := 120) hx hb dX5_allFaults_116 (by decide) ?_
                      refine lv_iadd hx hb dX5_allFaults_120 ?_
                      refine lv_istore_n (lv' := [(2, .int (u2 + 1)), (4, .int (nI kr)), (3, .int (nI pp)), (1, .int f), (0, .ref (b 0))]) hx hb dX5_allFaults_121 rfl hl (by decide) rfl (fun ls hl => ?_)
                      refine lv_iinc (v := nI (kr + 1)) (lv' := [(4, .int (nI (kr + 1))), (2, .int (u2 + 1)), (3, .int (nI pp)), (1, .int f), (0, .ref (b 0))]) hx hb dX5_allFaults_122 hl (k := 1) rfl (nI_1 kr) (by decide) rfl (fun ls hl => ?_)
                      refine lv_goto (tgt := 86) hx hb dX5_allFaults_125 (by decide) ?_
                      exact ih86 (kr + 1)  (u2 + 1) (by omega) (by omega) (by rw [e86_2]; simp [sT, bI, c_112, Int32.add_assoc])  _ (lv_sub hl [0, 1, 2, 3, 4] rfl)
              exact lp86 (4 * mR + 1) 0  y2 (by omega) (by omega) (Int32.add_zero _).symm  _ (lv_sub hl [0, 1, 2, 3, 4] rfl)
            · skip
              have hkF : kk < mC := by have := mt (nI_leI (a := mC) (b := kk) (by omega) (by omega)).mpr c_19; omega
              refine lv_iload_n hx hb dX5_allFaults_22 rfl (lv_at hl 1 rfl) ?_
              refine lv_aload_n hx hb dX5_allFaults_23 rfl (lv_at hl 4 rfl) ?_
              refine lv_iload hx hb dX5_allFaults_24 (lv_at hl 0 rfl) ?_
              refine lv_iload_n hx hb dX5_allFaults_26 rfl (lv_at hl 2 rfl) ?_
              refine lv_iload_n hx hb dX5_allFaults_27 rfl (lv_at hl 3 rfl) ?_
              refine g_csi (va_runV (As := [.int (nI kk), .int (nI pp), .int f]) (rest := [.int y2]) ⟨hx, hb, hml, hown, hts⟩ (c5_isOffByMembers l D cI cZ cO cL dt A b mC mR mL mF mpar mwt mstk mflw mc mp mm mf md mv mder mkn thr R (nI kk) (nI pp) f hF hC hmf hmd) (cwV 3 hts gX5_allFaults_X5_isOffByMembers rfl rfl rfl (by decide +kernel) ⟨Nat.le_of_ble_eq_true rfl, Nat.le_of_ble_eq_true rfl⟩) (gP.v hg hP 4 rfl (0) (rfl) hP) rfl rfl hl.1 rfl (lv_room (Nat.le_of_ble_eq_true rfl)) dX5_allFaults_28 ⟨Nat.le_of_ble_eq_true rfl, Nat.le_of_ble_eq_true rfl⟩) (fun r_2 hr_2 => ?_)
              obtain rfl : r_2 = bI (memOff (fun m => hM mc mp mm mf md mF (nI kk) (nI pp) (nI m) f) md mv = true) := hr_2
              refine lv_if_eq (tgt := 38) hx hb dX5_allFaults_31 (by decide) (fun c_31 => ?_) (fun c_31 => ?_)
              · skip
                have c_31 := bI_z c_31
                refine lv_iconst (v := 0) hx hb dX5_allFaults_38 (by decide) ?_
                refine lv_iadd hx hb dX5_allFaults_39 ?_
                refine lv_istore_n (lv' := [(2, .int (y2 + 0)), (4, .int (nI kk)), (3, .int (nI pp)), (1, .int f), (0, .ref (b 0))]) hx hb dX5_allFaults_40 rfl hl (by decide) rfl (fun ls hl => ?_)
                refine lv_iconst (v := 0) hx hb dX5_allFaults_41 (by decide) ?_
                refine lv_istore (lv' := [(5, .int 0), (2, .int (y2 + 0)), (4, .int (nI kk)), (3, .int (nI pp)), (1, .int f), (0, .ref (b 0))]) hx hb dX5_allFaults_42 hl (by decide) rfl (fun ls hl => ?_)
                have lp44 : ∀ (n44 mq : Nat)  (z2 : Int32), 4 < mq + n44 → mq ≤ 4 → z2 = (y2 + 0) + sT (fun m => bI (sumOff mC mpar mwt (fun j => hM mc mp mm mf md mF (nI j) (nI pp) (nI m) f) md mv (nI kk) (hM mc mp mm mf md mF (nI kk) (nI pp) (nI m) f) = true)) mq → ∀ ls : Array Slot, lv_has ls 6 [(5, .int (nI mq)), (2, .int z2), (4, .int (nI kk)), (3, .int (nI pp)), (1, .int f), (0, .ref (b 0))] → W p9 l e9 (headSpec wsX5_allFaults ({ frames := 4, cells := 0, slots := 0, locals := 107 } : Room)).room s m9 ([.ref (b 0), .int f] : List Value).toArray below meth c9 s.heap [] 0 0 (MQ below (vp_Si (fun r => r = mFlt mC mR mpar mwt mstk mflw (fun c p m => hM mc mp mm mf md mF c p m f) md mv)) ([.ref (b 0), .int f] : List Value).toArray s 0 0 (fun _ => False)) (F0 m9 44 ls []) := by
                  intro n44
                  induction n44 with
                  | zero => intro mq  z2 h1 h2; exact absurd h1 (by omega)
                  | succ n44 ih44 =>
                    intro mq  z2 hn44 hk44 e44_2  ls hl
                    refine lv_iload hx hb dX5_allFaults_44 (lv_at hl 0 rfl) ?_
                    refine lv_iconst (v := 4) hx hb dX5_allFaults_46 (by decide) ?_
                    refine lv_icmp_ge (tgt := 77) hx hb dX5_allFaults_47 (by decide) (fun c_47 => ?_) (fun c_47 => ?_)
                    · skip
                      have hkF : mq = 4 := by have := (nI_leI (a := 4) (b := mq) (by omega) (by omega)).mp c_47; omega
                      rw [hkF] at e44_2
                      refine lv_iinc (v := nI (kk + 1)) (lv' := [(4, .int (nI (kk + 1))), (5, .int (nI mq)), (2, .int z2), (3, .int (nI pp)), (1, .int f), (0, .ref (b 0))]) hx hb dX5_allFaults_77 hl (k := 2) rfl (nI_1 kk) (by decide) rfl (fun ls hl => ?_)
                      refine lv_goto (tgt := 13) hx hb dX5_allFaults_80 (by decide) ?_
                      exact ih13 (kk + 1)  z2 (by omega) (by omega) (by rw [e44_2]; first | (rw [e13_2]; simp [sT, bI, c_31, Int32.add_assoc]; done) | (simp [sT, bI, c_31, e13_2, Int32.add_assoc]; done))  _ (lv_sub hl [0, 2, 3, 4, 5] rfl)
                    · skip
                      have hkF : mq < 4 := by have := mt (nI_leI (a := 4) (b := mq) (by omega) (by omega)).mpr c_47; omega
                      refine lv_iload_n hx hb dX5_allFaults_50 rfl (lv_at hl 1 rfl) ?_
                      refine lv_aload_n hx hb dX5_allFaults_51 rfl (lv_at hl 5 rfl) ?_
                      refine lv_iload hx hb dX5_allFaults_52 (lv_at hl 2 rfl) ?_
                      refine lv_iload_n hx hb dX5_allFaults_54 rfl (lv_at hl 3 rfl) ?_
                      refine lv_iload hx hb dX5_allFaults_55 (lv_at hl 0 rfl) ?_
                      refine lv_iload_n hx hb dX5_allFaults_57 rfl (lv_at hl 4 rfl) ?_
                      refine g_csi (va_runV (As := [.int (nI kk), .int (nI pp), .int (nI mq), .int f]) (rest := [.int z2]) ⟨hx, hb, hml, hown, hts⟩ (c5_isOffBySum l D cI cZ cO cL dt A b mC mR mL mF mpar mwt mstk mflw mc mp mm mf md mv mder mkn thr R (nI kk) (nI pp) (nI mq) f hF hC hmf hmd) (cwV 4 hts gX5_allFaults_X5_isOffBySum rfl rfl rfl (by decide +kernel) ⟨Nat.le_of_ble_eq_true rfl, Nat.le_of_ble_eq_true rfl⟩) (gP.v hg hP 4 rfl (0) (rfl) hP) rfl rfl hl.1 rfl (lv_room (Nat.le_of_ble_eq_true rfl)) dX5_allFaults_58 ⟨Nat.le_of_ble_eq_true rfl, Nat.le_of_ble_eq_true rfl⟩) (fun r_3 hr_3 => ?_)
                      obtain rfl : r_3 = bI (sumOff mC mpar mwt (fun k => hM mc mp mm mf md mF (nI k) (nI pp) (nI mq) f) md mv (nI kk) (hM mc mp mm mf md mF (nI kk) (nI pp) (nI mq) f) = true) := hr_3
                      refine lv_if_eq (tgt := 68) hx hb dX5_allFaults_61 (by decide) (fun c_61 => ?_) (fun c_61 => ?_)
                      · skip
                        have c_61 := bI_z c_61
                        refine lv_iconst (v := 0) hx hb dX5_allFaults_68 (by decide) ?_
                        refine lv_iadd hx hb dX5_allFaults_69 ?_
                        refine lv_istore_n (lv' := [(2, .int (z2 + 0)), (5, .int (nI mq)), (4, .int (nI kk)), (3, .int (nI pp)), (1, .int f), (0, .ref (b 0))]) hx hb dX5_allFaults_70 rfl hl (by decide) rfl (fun ls hl => ?_)
                        refine lv_iinc (v := nI (mq + 1)) (lv' := [(5, .int (nI (mq + 1))), (2, .int (z2 + 0)), (4, .int (nI kk)), (3, .int (nI pp)), (1, .int f), (0, .ref (b 0))]) hx hb dX5_allFaults_71 hl (k := 1) rfl (nI_1 mq) (by decide) rfl (fun ls hl => ?_)
                        refine lv_goto (tgt := 44) hx hb dX5_allFaults_74 (by decide) ?_
                        exact ih44 (mq + 1)  (z2 + 0) (by omega) (by omega) (by rw [e44_2]; simp [sT, bI, c_61, Int32.add_assoc])  _ (lv_sub hl [0, 1, 2, 3, 4, 5] rfl)
                      · skip
                        have c_61 := bI_n c_61
                        refine lv_iconst (v := 1) hx hb dX5_allFaults_64 (by decide) ?_
                        refine lv_goto (tgt := 69) hx hb dX5_allFaults_65 (by decide) ?_
                        refine lv_iadd hx hb dX5_allFaults_69 ?_
                        refine lv_istore_n (lv' := [(2, .int (z2 + 1)), (5, .int (nI mq)), (4, .int (nI kk)), (3, .int (nI pp)), (1, .int f), (0, .ref (b 0))]) hx hb dX5_allFaults_70 rfl hl (by decide) rfl (fun ls hl => ?_)
                        refine lv_iinc (v := nI (mq + 1)) (lv' := [(5, .int (nI (mq + 1))), (2, .int (z2 + 1)), (4, .int (nI kk)), (3, .int (nI pp)), (1, .int f), (0, .ref (b 0))]) hx hb dX5_allFaults_71 hl (k := 1) rfl (nI_1 mq) (by decide) rfl (fun ls hl => ?_)
                        refine lv_goto (tgt := 44) hx hb dX5_allFaults_74 (by decide) ?_
                        exact ih44 (mq + 1)  (z2 + 1) (by omega) (by omega) (by rw [e44_2]; simp [sT, bI, c_61, Int32.add_assoc])  _ (lv_sub hl [0, 1, 2, 3, 4, 5] rfl)
                exact lp44 (4 + 1) 0  (y2 + 0) (by omega) (by omega) (Int32.add_zero _).symm  _ (lv_sub hl [0, 1, 2, 3, 4, 5] rfl)
              · skip
                have c_31 := bI_n c_31
                refine lv_iconst (v := 1) hx hb dX5_allFaults_34 (by decide) ?_
                refine lv_goto (tgt := 39) hx hb dX5_allFaults_35 (by decide) ?_
                refine lv_iadd hx hb dX5_allFaults_39 ?_
                refine lv_istore_n (lv' := [(2, .int (y2 + 1)), (4, .int (nI kk)), (3, .int (nI pp)), (1, .int f), (0, .ref (b 0))]) hx hb dX5_allFaults_40 rfl hl (by decide) rfl (fun ls hl => ?_)
                refine lv_iconst (v := 0) hx hb dX5_allFaults_41 (by decide) ?_
                refine lv_istore (lv' := [(5, .int 0), (2, .int (y2 + 1)), (4, .int (nI kk)), (3, .int (nI pp)), (1, .int f), (0, .ref (b 0))]) hx hb dX5_allFaults_42 hl (by decide) rfl (fun ls hl => ?_)
                have lp44 : ∀ (n44 mq : Nat)  (z2 : Int32), 4 < mq + n44 → mq ≤ 4 → z2 = (y2 + 1) + sT (fun m => bI (sumOff mC mpar mwt (fun j => hM mc mp mm mf md mF (nI j) (nI pp) (nI m) f) md mv (nI kk) (hM mc mp mm mf md mF (nI kk) (nI pp) (nI m) f) = true)) mq → ∀ ls : Array Slot, lv_has ls 6 [(5, .int (nI mq)), (2, .int z2), (4, .int (nI kk)), (3, .int (nI pp)), (1, .int f), (0, .ref (b 0))] → W p9 l e9 (headSpec wsX5_allFaults ({ frames := 4, cells := 0, slots := 0, locals := 107 } : Room)).room s m9 ([.ref (b 0), .int f] : List Value).toArray below meth c9 s.heap [] 0 0 (MQ below (vp_Si (fun r => r = mFlt mC mR mpar mwt mstk mflw (fun c p m => hM mc mp mm mf md mF c p m f) md mv)) ([.ref (b 0), .int f] : List Value).toArray s 0 0 (fun _ => False)) (F0 m9 44 ls []) := by
                  intro n44
                  induction n44 with
                  | zero => intro mq  z2 h1 h2; exact absurd h1 (by omega)
                  | succ n44 ih44 =>
                    intro mq  z2 hn44 hk44 e44_2  ls hl
                    refine lv_iload hx hb dX5_allFaults_44 (lv_at hl 0 rfl) ?_
                    refine lv_iconst (v := 4) hx hb dX5_allFaults_46 (by decide) ?_
                    refine lv_icmp_ge (tgt := 77) hx hb dX5_allFaults_47 (by decide) (fun c_47 => ?_) (fun c_47 => ?_)
                    · skip
                      have hkF : mq = 4 := by have := (nI_leI (a := 4) (b := mq) (by omega) (by omega)).mp c_47; omega
                      rw [hkF] at e44_2
                      refine lv_iinc (v := nI (kk + 1)) (lv' := [(4, .int (nI (kk + 1))), (5, .int (nI mq)), (2, .int z2), (3, .int (nI pp)), (1, .int f), (0, .ref (b 0))]) hx hb dX5_allFaults_77 hl (k := 2) rfl (nI_1 kk) (by decide) rfl (fun ls hl => ?_)
                      refine lv_goto (tgt := 13) hx hb dX5_allFaults_80 (by decide) ?_
                      exact ih13 (kk + 1)  z2 (by omega) (by omega) (by rw [e44_2]; first | (rw [e13_2]; simp [sT, bI, c_31, Int32.add_assoc]; done) | (simp [sT, bI, c_31, e13_2, Int32.add_assoc]; done))  _ (lv_sub hl [0, 2, 3, 4, 5] rfl)
                    · skip
                      have hkF : mq < 4 := by have := mt (nI_leI (a := 4) (b := mq) (by omega) (by omega)).mpr c_47; omega
                      refine lv_iload_n hx hb dX5_allFaults_50 rfl (lv_at hl 1 rfl) ?_
                      refine lv_aload_n hx hb dX5_allFaults_51 rfl (lv_at hl 5 rfl) ?_
                      refine lv_iload hx hb dX5_allFaults_52 (lv_at hl 2 rfl) ?_
                      refine lv_iload_n hx hb dX5_allFaults_54 rfl (lv_at hl 3 rfl) ?_
                      refine lv_iload hx hb dX5_allFaults_55 (lv_at hl 0 rfl) ?_
                      refine lv_iload_n hx hb dX5_allFaults_57 rfl (lv_at hl 4 rfl) ?_
                      refine g_csi (va_runV (As := [.int (nI kk), .int (nI pp), .int (nI mq), .int f]) (rest := [.int z2]) ⟨hx, hb, hml, hown, hts⟩ (c5_isOffBySum l D cI cZ cO cL dt A b mC mR mL mF mpar mwt mstk mflw mc mp mm mf md mv mder mkn thr R (nI kk) (nI pp) (nI mq) f hF hC hmf hmd) (cwV 4 hts gX5_allFaults_X5_isOffBySum rfl rfl rfl (by decide +kernel) ⟨Nat.le_of_ble_eq_true rfl, Nat.le_of_ble_eq_true rfl⟩) (gP.v hg hP 4 rfl (0) (rfl) hP) rfl rfl hl.1 rfl (lv_room (Nat.le_of_ble_eq_true rfl)) dX5_allFaults_58 ⟨Nat.le_of_ble_eq_true rfl, Nat.le_of_ble_eq_true rfl⟩) (fun r_4 hr_4 => ?_)
                      obtain rfl : r_4 = bI (sumOff mC mpar mwt (fun k => hM mc mp mm mf md mF (nI k) (nI pp) (nI mq) f) md mv (nI kk) (hM mc mp mm mf md mF (nI kk) (nI pp) (nI mq) f) = true) := hr_4
                      refine lv_if_eq (tgt := 68) hx hb dX5_allFaults_61 (by decide) (fun c_61 => ?_) (fun c_61 => ?_)
                      · skip
                        have c_61 := bI_z c_61
                        refine lv_iconst (v := 0) hx hb dX5_allFaults_68 (by decide) ?_
                        refine lv_iadd hx hb dX5_allFaults_69 ?_
                        refine lv_istore_n (lv' := [(2, .int (z2 + 0)), (5, .int (nI mq)), (4, .int (nI kk)), (3, .int (nI pp)), (1, .int f), (0, .ref (b 0))]) hx hb dX5_allFaults_70 rfl hl (by decide) rfl (fun ls hl => ?_)
                        refine lv_iinc (v := nI (mq + 1)) (lv' := [(5, .int (nI (mq + 1))), (2, .int (z2 + 0)), (4, .int (nI kk)), (3, .int (nI pp)), (1, .int f), (0, .ref (b 0))]) hx hb dX5_allFaults_71 hl (k := 1) rfl (nI_1 mq) (by decide) rfl (fun ls hl => ?_)
                        refine lv_goto (tgt := 44) hx hb dX5_allFaults_74 (by decide) ?_
                        exact ih44 (mq + 1)  (z2 + 0) (by omega) (by omega) (by rw [e44_2]; simp [sT, bI, c_61, Int32.add_assoc])  _ (lv_sub hl [0, 1, 2, 3, 4, 5] rfl)
                      · skip
                        have c_61 := bI_n c_61
                        refine lv_iconst (v := 1) hx hb dX5_allFaults_64 (by decide) ?_
                        refine lv_goto (tgt := 69) hx hb dX5_allFaults_65 (by decide) ?_
                        refine lv_iadd hx hb dX5_allFaults_69 ?_
                        refine lv_istore_n (lv' := [(2, .int (z2 + 1)), (5, .int (nI mq)), (4, .int (nI kk)), (3, .int (nI pp)), (1, .int f), (0, .ref (b 0))]) hx hb dX5_allFaults_70 rfl hl (by decide) rfl (fun ls hl => ?_)
                        refine lv_iinc (v := nI (mq + 1)) (lv' := [(5, .int (nI (mq + 1))), (2, .int (z2 + 1)), (4, .int (nI kk)), (3, .int (nI pp)), (1, .int f), (0, .ref (b 0))]) hx hb dX5_allFaults_71 hl (k := 1) rfl (nI_1 mq) (by decide) rfl (fun ls hl => ?_)
                        refine lv_goto (tgt := 44) hx hb dX5_allFaults_74 (by decide) ?_
                        exact ih44 (mq + 1)  (z2 + 1) (by omega) (by omega) (by rw [e44_2]; simp [sT, bI, c_61, Int32.add_assoc])  _ (lv_sub hl [0, 1, 2, 3, 4, 5] rfl)
                exact lp44 (4 + 1) 0  (y2 + 1) (by omega) (by omega) (Int32.add_zero _).symm  _ (lv_sub hl [0, 1, 2, 3, 4, 5] rfl)
        exact lp13 (mC + 1) 0  x2 (by omega) (by omega) (Int32.add_zero _).symm  _ (lv_sub hl [0, 2, 1, 3, 4] rfl)
  exact lp4 (10 + 1) 0  0 (by omega) (by omega) rfl  _ (lv_sub hl [0, 1, 3, 2] rfl)
