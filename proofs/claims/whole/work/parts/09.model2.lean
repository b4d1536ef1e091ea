set_option maxHeartbeats 4000000 in
set_option maxRecDepth 100000 in
/-- far apart -/
theorem c5_isFar (l : Launch) (D : va_G) (cI cZ cO cL : ClassId) (dt : Nat) (A : Nat → Prop) (one other d : Int32) (ws : va_W)  : Met l yX5_isFar wsX5_isFar ({ frames := 0, cells := 0, slots := 0, locals := 0 } : Room) (gP D cI cZ cO cL dt A [.int one, .int other, .int d] (fun H => va_P D vwCl (ws) H)) (vp_Si (fun r => r = bI (d < 2 * farI one other))) 0 0 (fun _ => False) := by
  refine Met.ofW (cc := cX5_isFar) (maxL := 4) (ret := (some .boolean)) (by decide) rfl ?_
  intro p9 e9 s m9 args below meth c9 s₁ B hml hv
  obtain ⟨rfl, hg, hP⟩ := hv
  have hx := B.exec
  have hb := B.bytes
  have hr := B.returns
  have hts := atoms_spec (ws := wsX5_isFar) B.pre
  have hown : s.vm.findClass RX5 = some m9.cls := findClass_of_methodNamed B.named
  have hlocks := B.notSynchronized
  have hK := hg.1
  have hl := lv_entry ([.int one, .int other, .int d]) (n := 4) (Nat.le_of_ble_eq_true rfl)
  rw [lg_entry_eq]
  generalize (lg_sl ([.int one, .int other, .int d]) ++ List.replicate (4 - (lg_sl ([.int one, .int other, .int d])).length) Slot.unset).toArray = ls at hl ⊢
  have hl : lv_has ls 4 [(0, .int one), (1, .int other), (2, .int d)] := hl
  refine lv_iload_n hx hb dX5_isFar_0 rfl (lv_at hl 0 rfl) ?_
  refine lv_iload_n hx hb dX5_isFar_1 rfl (lv_at hl 1 rfl) ?_
  refine lv_icmp_ge (tgt := 11) hx hb dX5_isFar_2 (by decide) (fun c_2 => ?_) (fun c_2 => ?_)
  · skip
    have hf : farI one other = one - other := if_neg (fun q => i_ltn q c_2)
    refine lv_iload_n hx hb dX5_isFar_11 rfl (lv_at hl 0 rfl) ?_
    refine lv_iload_n hx hb dX5_isFar_12 rfl (lv_at hl 1 rfl) ?_
    refine lv_isub hx hb dX5_isFar_13 ?_
    refine lv_istore_n (lv' := [(3, .int (one - other)), (0, .int one), (1, .int other), (2, .int d)]) hx hb dX5_isFar_14 rfl hl (by decide) rfl (fun ls hl => ?_)
    refine lv_iconst (v := 2) hx hb dX5_isFar_15 (by decide) ?_
    refine lv_iload_n hx hb dX5_isFar_16 rfl (lv_at hl 0 rfl) ?_
    refine lv_imul hx hb dX5_isFar_17 ?_
    refine lv_iload_n hx hb dX5_isFar_18 rfl (lv_at hl 3 rfl) ?_
    refine lv_icmp_le (tgt := 26) hx hb dX5_isFar_19 (by decide) (fun c_19 => ?_) (fun c_19 => ?_)
    · skip
      refine lv_iconst (v := 0) hx hb dX5_isFar_26 (by decide) ?_
      exact W.zret (v := 0) hx hb hr (rfl) (fun t ht hW => ⟨0, rfl, (bI_f (by rw [hf]; exact i_len c_19)), ht⟩) (fun q h => nomatch h) dX5_isFar_27
    · skip
      refine lv_iconst (v := 1) hx hb dX5_isFar_22 (by decide) ?_
      refine lv_goto (tgt := 27) hx hb dX5_isFar_23 (by decide) ?_
      exact W.zret (v := 1) hx hb hr (rfl) (fun t ht hW => ⟨1, rfl, (bI_t (by rw [hf]; exact i_nle c_19)), ht⟩) (fun q h => nomatch h) dX5_isFar_27
  · skip
    have hf : farI one other = other - one := if_pos (i_nle c_2)
    refine lv_iload_n hx hb dX5_isFar_5 rfl (lv_at hl 1 rfl) ?_
    refine lv_iload_n hx hb dX5_isFar_6 rfl (lv_at hl 0 rfl) ?_
    refine lv_isub hx hb dX5_isFar_7 ?_
    refine lv_goto (tgt := 14) hx hb dX5_isFar_8 (by decide) ?_
    refine lv_istore_n (lv' := [(3, .int (other - one)), (0, .int one), (1, .int other), (2, .int d)]) hx hb dX5_isFar_14 rfl hl (by decide) rfl (fun ls hl => ?_)
    refine lv_iconst (v := 2) hx hb dX5_isFar_15 (by decide) ?_
    refine lv_iload_n hx hb dX5_isFar_16 rfl (lv_at hl 0 rfl) ?_
    refine lv_imul hx hb dX5_isFar_17 ?_
    refine lv_iload_n hx hb dX5_isFar_18 rfl (lv_at hl 3 rfl) ?_
    refine lv_icmp_le (tgt := 26) hx hb dX5_isFar_19 (by decide) (fun c_19 => ?_) (fun c_19 => ?_)
    · skip
      refine lv_iconst (v := 0) hx hb dX5_isFar_26 (by decide) ?_
      exact W.zret (v := 0) hx hb hr (rfl) (fun t ht hW => ⟨0, rfl, (bI_f (by rw [hf]; exact i_len c_19)), ht⟩) (fun q h => nomatch h) dX5_isFar_27
    · skip
      refine lv_iconst (v := 1) hx hb dX5_isFar_22 (by decide) ?_
      refine lv_goto (tgt := 27) hx hb dX5_isFar_23 (by decide) ?_
      exact W.zret (v := 1) hx hb hr (rfl) (fun t ht hW => ⟨1, rfl, (bI_t (by rw [hf]; exact i_nle c_19)), ht⟩) (fun q h => nomatch h) dX5_isFar_27
set_option maxHeartbeats 4000000 in
set_option maxRecDepth 100000 in
/-- the doubt of a fact -/
theorem c5_doubtOf (l : Launch) (D : va_G) (cI cZ cO cL : ClassId) (dt : Nat) (A : Nat → Prop) (b : Nat → Nat) (mC mR mL mF : Nat) (mpar mwt mstk mflw : Nat → Int32) (mc mp mm mf md : Nat → Nat) (mv mder mkn : Nat → Int32) (thr : Int32) (R : va_W) (j : Nat) (hj : j < 80) (hmd : ∀ k, md k < 2 ^ 31) : Met l yX5_doubtOf wsX5_doubtOf ({ frames := 0, cells := 0, slots := 0, locals := 0 } : Room) (gP D cI cZ cO cL dt A [.ref (b 0), .int (nI j)] (fun H => va_P D vwCl (WM cI cZ b mC mR mL mF mpar mwt mstk mflw mc mp mm mf md mv mder mkn thr ++ R) H)) (vp_Si (fun r => r = nI (10 ^ md j))) 0 0 (fun _ => False) := by
  refine Met.ofW (cc := cX5_doubtOf) (maxL := 4) (ret := (some .int)) (by decide) rfl ?_
  intro p9 e9 s m9 args below meth c9 s₁ B hml hv
  obtain ⟨rfl, hg, hP⟩ := hv
  have hx := B.exec
  have hb := B.bytes
  have hr := B.returns
  have hts := atoms_spec (ws := wsX5_doubtOf) B.pre
  have hown : s.vm.findClass RX5 = some m9.cls := findClass_of_methodNamed B.named
  have hlocks := B.notSynchronized
  have hK := hg.1
  have w_0 := hts (.fieldLink RX5 41 "DimfactsModel" "decimals" "[I") (by decide +kernel)
  have win_X5 : ∀ w ∈ wsX50, w ∈ wsX5_doubtOf := by decide +kernel
  have hl := lv_entry ([.ref (b 0), .int (nI j)]) (n := 4) (Nat.le_of_ble_eq_true rfl)
  rw [lg_entry_eq]
  generalize (lg_sl ([.ref (b 0), .int (nI j)]) ++ List.replicate (4 - (lg_sl ([.ref (b 0), .int (nI j)])).length) Slot.unset).toArray = ls at hl ⊢
  have hl : lv_has ls 4 [(0, .ref (b 0)), (1, .int (nI j))] := hl
  refine lv_iconst (v := 1) hx hb dX5_doubtOf_0 (by decide) ?_
  refine lv_istore_n (lv' := [(2, .int 1), (0, .ref (b 0)), (1, .int (nI j))]) hx hb dX5_doubtOf_1 rfl hl (by decide) rfl (fun ls hl => ?_)
  refine lv_iconst (v := 0) hx hb dX5_doubtOf_2 (by decide) ?_
  refine lv_istore_n (lv' := [(3, .int 0), (2, .int 1), (0, .ref (b 0)), (1, .int (nI j))]) hx hb dX5_doubtOf_3 rfl hl (by decide) rfl (fun ls hl => ?_)
  have lp4 : ∀ (n4 k : Nat)  (x2 : Int32), md j < k + n4 → k ≤ md j → x2 = nI (10 ^ k) → ∀ ls : Array Slot, lv_has ls 4 [(3, .int (nI k)), (2, .int x2), (1, .int (nI j)), (0, .ref (b 0))] → W p9 l e9 (headSpec wsX5_doubtOf ({ frames := 0, cells := 0, slots := 0, locals := 0 } : Room)).room s m9 ([.ref (b 0), .int (nI j)] : List Value).toArray below meth c9 s.heap [] 0 0 (MQ below (vp_Si (fun r => r = nI (10 ^ md j))) ([.ref (b 0), .int (nI j)] : List Value).toArray s 0 0 (fun _ => False)) (F0 m9 4 ls []) := by
    intro n4
    induction n4 with
    | zero => intro k  x2 h1 h2; exact absurd h1 (by omega)
    | succ n4 ih4 =>
      intro k  x2 hn4 hk4 e4_2  ls hl
      refine lv_iload_n hx hb dX5_doubtOf_4 rfl (lv_at hl 0 rfl) ?_
      refine lv_aload_n hx hb dX5_doubtOf_5 rfl (lv_at hl 3 rfl) ?_
      refine va_get (D := D) (ci := 4) (v := .ref (b 10)) (C := RX5) (T := TX5) (N := 17) hx hb hts win_X5 hown hK hP (0) (rfl) rfl 13 (by decide) w_0 (fun _ h9 => h9) rfl dX5_doubtOf_6 ?_
      refine lv_iload_n hx hb dX5_doubtOf_9 rfl (lv_at hl 2 rfl) ?_
      refine g_iald hx hb hK hP (10) 0 (n := 80) (f := (fun k => nI (md k))) (rfl) rfl j rfl (by omega) (by decide) dX5_doubtOf_10 ?_
      refine lv_icmp_ge (tgt := 25) hx hb dX5_doubtOf_11 (by decide) (fun c_11 => ?_) (fun c_11 => ?_)
      · skip
        have hkF : k = md j := by have hq := hmd j; have := (nI_leI (hmd _) (by omega)).mp c_11; omega
        rw [hkF] at e4_2
        refine lv_iload_n hx hb dX5_doubtOf_25 rfl (lv_at hl 1 rfl) ?_
        exact W.iret (v := x2) hx hb hr (fun t ht hW => ⟨x2, rfl, e4_2, ht⟩) (fun q h => nomatch h) dX5_doubtOf_26
      · skip
        have hkF : k < md j := by have := mt (nI_leI (a := md j) (b := k) (hmd _) (by have := hmd j; omega)).mpr c_11; omega
        have hmdj := hmd j
        refine lv_iload_n hx hb dX5_doubtOf_14 rfl (lv_at hl 1 rfl) ?_
        refine lv_bipush (v := 10) hx hb dX5_doubtOf_15 (by decide) ?_
        refine lv_imul hx hb dX5_doubtOf_17 ?_
        refine lv_istore_n (lv' := [(2, .int (x2 * 10)), (3, .int (nI k)), (1, .int (nI j)), (0, .ref (b 0))]) hx hb dX5_doubtOf_18 rfl hl (by decide) rfl (fun ls hl => ?_)
        refine lv_iinc (v := nI (k + 1)) (lv' := [(3, .int (nI (k + 1))), (2, .int (x2 * 10)), (1, .int (nI j)), (0, .ref (b 0))]) hx hb dX5_doubtOf_19 hl (k := 1) rfl (nI_1 k) (by decide) rfl (fun ls hl => ?_)
        refine lv_goto (tgt := 4) hx hb dX5_doubtOf_22 (by decide) ?_
        exact ih4 (k + 1)  (x2 * 10) (by omega) (by omega) (by rw [e4_2]; exact pk_mul (10 ^ k) 10)  _ (lv_sub hl [0, 1, 2, 3] rfl)
  exact lp4 (md j + 1) 0  1 (by omega) (by omega) rfl  _ (lv_sub hl [0, 1, 3, 2] rfl)
set_option maxHeartbeats 4000000 in
set_option maxRecDepth 100000 in
/-- the sum for a key -/
theorem c5_sumOf (l : Launch) (D : va_G) (cI cZ cO cL : ClassId) (dt : Nat) (A : Nat → Prop) (b : Nat → Nat) (mC mR mL mF : Nat) (mpar mwt mstk mflw : Nat → Int32) (mc mp mm mf md : Nat → Nat) (mv mder mkn : Nat → Int32) (thr : Int32) (R : va_W) (c p m f : Int32) (hF : mF ≤ 80) (hC : mC ≤ 12) (hmf : ∀ k, mf k < 2 ^ 31) (hmd : ∀ k, md k < 2 ^ 31) : Met l yX5_sumOf wsX5_sumOf ({ frames := 2, cells := 0, slots := 0, locals := 51 } : Room) (gP D cI cZ cO cL dt A [.ref (b 0), .int c, .int p, .int m, .int f] (fun H => va_P D vwCl (WM cI cZ b mC mR mL mF mpar mwt mstk mflw mc mp mm mf md mv mder mkn thr ++ R) H)) (vp_Si (fun r => r = sumN mpar mwt (fun k => hM mc mp mm mf md mF (nI k) p m f) mv c mC)) 0 0 (fun _ => False) := by
  refine Met.ofW (cc := cX5_sumOf) (maxL := 8) (ret := (some .int)) (by decide) rfl ?_
  intro p9 e9 s m9 args below meth c9 s₁ B hml hv
  obtain ⟨rfl, hg, hP⟩ := hv
  have hx := B.exec
  have hb := B.bytes
  have hr := B.returns
  have hts := atoms_spec (ws := wsX5_sumOf) B.pre
  have hown : s.vm.findClass RX5 = some m9.cls := findClass_of_methodNamed B.named
  have hlocks := B.notSynchronized
  have hK := hg.1
  have w_0 := hts (.fieldLink RX5 54 "DimfactsModel" "concepts" "I") (by decide +kernel)
  have win_X5 : ∀ w ∈ wsX50, w ∈ wsX5_sumOf := by decide +kernel
  have w_2 := hts (.fieldLink RX5 7 "DimfactsModel" "parent" "[I") (by decide +kernel)
  have w_3 := hts (.fieldLink RX5 13 "DimfactsModel" "weight" "[I") (by decide +kernel)
  have w_4 := hts (.fieldLink RX5 38 "DimfactsModel" "value" "[I") (by decide +kernel)
  have hl := lv_entry ([.ref (b 0), .int c, .int p, .int m, .int f]) (n := 8) (Nat.le_of_ble_eq_true rfl)
  rw [lg_entry_eq]
  generalize (lg_sl ([.ref (b 0), .int c, .int p, .int m, .int f]) ++ List.replicate (8 - (lg_sl ([.ref (b 0), .int c, .int p, .int m, .int f])).length) Slot.unset).toArray = ls at hl ⊢
  have hl : lv_has ls 8 [(0, .ref (b 0)), (1, .int c), (2, .int p), (3, .int m), (4, .int f)] := hl
  refine lv_iconst (v := 0) hx hb dX5_sumOf_0 (by decide) ?_
  refine lv_istore (lv' := [(5, .int 0), (0, .ref (b 0)), (1, .int c), (2, .int p), (3, .int m), (4, .int f)]) hx hb dX5_sumOf_1 hl (by decide) rfl (fun ls hl => ?_)
  refine lv_iconst (v := 0) hx hb dX5_sumOf_3 (by decide) ?_
  refine lv_istore (lv' := [(6, .int 0), (5, .int 0), (0, .ref (b 0)), (1, .int c), (2, .int p), (3, .int m), (4, .int f)]) hx hb dX5_sumOf_4 hl (by decide) rfl (fun ls hl => ?_)
  have lp6 : ∀ (n6 k : Nat)  (x5 : Int32), mC < k + n6 → k ≤ mC → x5 = sumN mpar mwt (fun k => hM mc mp mm mf md mF (nI k) p m f) mv c k → ∀ ls : Array Slot, lv_has ls 8 [(6, .int (nI k)), (5, .int x5), (4, .int f), (3, .int m), (2, .int p), (1, .int c), (0, .ref (b 0))] → W p9 l e9 (headSpec wsX5_sumOf ({ frames := 2, cells := 0, slots := 0, locals := 51 } : Room)).room s m9 ([.ref (b 0), .int c, .int p, .int m, .int f] : List Value).toArray below meth c9 s.heap [] 0 0 (MQ below (vp_Si (fun r => r = sumN mpar mwt (fun k => hM mc mp mm mf md mF (nI k) p m f) mv c mC)) ([.ref (b 0), .int c, .int p, .int m, .int f] : List Value).toArray s 0 0 (fun _ => False)) (F0 m9 6 ls []) := by
    intro n6
    induction n6 with
    | zero => intro k  x5 h1 h2; exact absurd h1 (by omega)
    | succ n6 ih6 =>
      intro k  x5 hn6 hk6 e6_5  ls hl
      refine lv_iload hx hb dX5_sumOf_6 (lv_at hl 0 rfl) ?_
      refine lv_aload_n hx hb dX5_sumOf_8 rfl (lv_at hl 6 rfl) ?_
      refine va_get (D := D) (ci := 4) (v := .int (nI mC)) (C := RX5) (T := TX5) (N := 17) hx hb hts win_X5 hown hK hP (0) (rfl) rfl 0 (by decide) w_0 (fun _ h9 => h9) rfl dX5_sumOf_9 ?_
      refine lv_icmp_ge (tgt := 78) hx hb dX5_sumOf_12 (by decide) (fun c_12 => ?_) (fun c_12 => ?_)
      · skip
        have hkF : k = mC := by have := (nI_leI (a := mC) (b := k) (by omega) (by omega)).mp c_12; omega
        rw [hkF] at e6_5
        refine lv_iload hx hb dX5_sumOf_78 (lv_at hl 1 rfl) ?_
        exact W.iret (v := x5) hx hb hr (fun t ht hW => ⟨x5, rfl, e6_5, ht⟩) (fun q h => nomatch h) dX5_sumOf_80
      · skip
        have hkF : k < mC := by have := mt (nI_leI (a := mC) (b := k) (by omega) (by omega)).mpr c_12; omega
        refine lv_aload_n hx hb dX5_sumOf_15 rfl (lv_at hl 6 rfl) ?_
        refine va_get (D := D) (ci := 4) (v := .ref (b 1)) (C := RX5) (T := TX5) (N := 17) hx hb hts win_X5 hown hK hP (0) (rfl) rfl 1 (by decide) w_2 (fun _ h9 => h9) rfl dX5_sumOf_16 ?_
        refine lv_iload hx hb dX5_sumOf_19 (lv_at hl 0 rfl) ?_
        refine g_iald hx hb hK hP (1) 0 (n := 12) (f := mpar) (rfl) rfl k rfl (by omega) (by decide) dX5_sumOf_21 ?_
        refine lv_iload_n hx hb dX5_sumOf_22 rfl (lv_at hl 5 rfl) ?_
        refine lv_icmp_ne (tgt := 39) hx hb dX5_sumOf_23 (by decide) (fun c_23 => ?_) (fun c_23 => ?_)
        · skip
          refine lv_iconst (v := (-1)) hx hb dX5_sumOf_39 (by decide) ?_
          refine lv_istore (lv' := [(7, .int (-1)), (6, .int (nI k)), (5, .int x5), (4, .int f), (3, .int m), (2, .int p), (1, .int c), (0, .ref (b 0))]) hx hb dX5_sumOf_40 hl (by decide) rfl (fun ls hl => ?_)
          refine lv_iload hx hb dX5_sumOf_42 (lv_at hl 2 rfl) ?_
          refine lv_iload hx hb dX5_sumOf_44 (lv_at hl 0 rfl) ?_
          refine lv_iconst (v := (-1)) hx hb dX5_sumOf_46 (by decide) ?_
          refine lv_icmp_ne (tgt := 54) hx hb dX5_sumOf_47 (by decide) (fun c_47 => ?_) (fun c_47 => ?_)
          · skip
            exact absurd c_47 (by decide)
          · skip
            refine lv_iconst (v := 0) hx hb dX5_sumOf_50 (by decide) ?_
            refine lv_goto (tgt := 69) hx hb dX5_sumOf_51 (by decide) ?_
            refine lv_iadd hx hb dX5_sumOf_69 ?_
            refine lv_istore (lv' := [(5, .int (x5 + 0)), (7, .int (-1)), (6, .int (nI k)), (4, .int f), (3, .int m), (2, .int p), (1, .int c), (0, .ref (b 0))]) hx hb dX5_sumOf_70 hl (by decide) rfl (fun ls hl => ?_)
            refine lv_iinc (v := nI (k + 1)) (lv' := [(6, .int (nI (k + 1))), (5, .int (x5 + 0)), (7, .int (-1)), (4, .int f), (3, .int m), (2, .int p), (1, .int c), (0, .ref (b 0))]) hx hb dX5_sumOf_72 hl (k := 2) rfl (nI_1 k) (by decide) rfl (fun ls hl => ?_)
            refine lv_goto (tgt := 6) hx hb dX5_sumOf_75 (by decide) ?_
            exact ih6 (k + 1)  (x5 + 0) (by omega) (by omega) (by first | (simp [sumN, c_23, hS, e6_5]; done) | (simp [sumN, c_23, e6_5]; done))  _ (lv_sub hl [0, 1, 3, 4, 5, 6, 7] rfl)
        · skip
          refine lv_aload_n hx hb dX5_sumOf_26 rfl (lv_at hl 6 rfl) ?_
          refine lv_iload hx hb dX5_sumOf_27 (lv_at hl 0 rfl) ?_
          refine lv_iload_n hx hb dX5_sumOf_29 rfl (lv_at hl 4 rfl) ?_
          refine lv_iload_n hx hb dX5_sumOf_30 rfl (lv_at hl 3 rfl) ?_
          refine lv_iload hx hb dX5_sumOf_31 (lv_at hl 2 rfl) ?_
          refine g_csi (va_runV (As := [.int (nI k), .int p, .int m, .int f]) (rest := []) ⟨hx, hb, hml, hown, hts⟩ (c5_holds l D cI cZ cO cL dt A b mC mR mL mF mpar mwt mstk mflw mc mp mm mf md mv mder mkn thr R (nI k) p m f hF hmf hmd) (cwV 4 hts gX5_sumOf_X5_holds rfl rfl rfl (by decide +kernel) ⟨Nat.le_of_ble_eq_true rfl, Nat.le_of_ble_eq_true rfl⟩) (gP.v hg hP 4 rfl (0) (rfl) hP) rfl rfl hl.1 rfl (lv_room (Nat.le_of_ble_eq_true rfl)) dX5_sumOf_33 ⟨Nat.le_of_ble_eq_true rfl, Nat.le_of_ble_eq_true rfl⟩) (fun r_1 hr_1 => ?_)
          obtain ⟨o_r_1, hS⟩ : ∃ z, hM mc mp mm mf md mF (nI k) p m f = z := ⟨_, rfl⟩
          rcases o_r_1 with _ | j
          · skip
            obtain rfl : r_1 = (-1) := hr_1.trans (congrArg oI hS)
            refine lv_goto (tgt := 40) hx hb dX5_sumOf_36 (by decide) ?_
            refine lv_istore (lv' := [(7, .int (-1)), (6, .int (nI k)), (5, .int x5), (4, .int f), (3, .int m), (2, .int p), (1, .int c), (0, .ref (b 0))]) hx hb dX5_sumOf_40 hl (by decide) rfl (fun ls hl => ?_)
            refine lv_iload hx hb dX5_sumOf_42 (lv_at hl 2 rfl) ?_
            refine lv_iload hx hb dX5_sumOf_44 (lv_at hl 0 rfl) ?_
            refine lv_iconst (v := (-1)) hx hb dX5_sumOf_46 (by decide) ?_
            refine lv_icmp_ne (tgt := 54) hx hb dX5_sumOf_47 (by decide) (fun c_47 => ?_) (fun c_47 => ?_)
            · skip
              exact absurd c_47 (by decide)
            · skip
              refine lv_iconst (v := 0) hx hb dX5_sumOf_50 (by decide) ?_
              refine lv_goto (tgt := 69) hx hb dX5_sumOf_51 (by decide) ?_
              refine lv_iadd hx hb dX5_sumOf_69 ?_
              refine lv_istore (lv' := [(5, .int (x5 + 0)), (7, .int (-1)), (6, .int (nI k)), (4, .int f), (3, .int m), (2, .int p), (1, .int c), (0, .ref (b 0))]) hx hb dX5_sumOf_70 hl (by decide) rfl (fun ls hl => ?_)
              refine lv_iinc (v := nI (k + 1)) (lv' := [(6, .int (nI (k + 1))), (5, .int (x5 + 0)), (7, .int (-1)), (4, .int f), (3, .int m), (2, .int p), (1, .int c), (0, .ref (b 0))]) hx hb dX5_sumOf_72 hl (k := 2) rfl (nI_1 k) (by decide) rfl (fun ls hl => ?_)
              refine lv_goto (tgt := 6) hx hb dX5_sumOf_75 (by decide) ?_
              exact ih6 (k + 1)  (x5 + 0) (by omega) (by omega) (by first | (simp [sumN, c_23, hS, e6_5]; done) | (simp [sumN, c_23, e6_5]; done))  _ (lv_sub hl [0, 1, 3, 4, 5, 6, 7] rfl)
          · skip
            obtain rfl : r_1 = nI j := hr_1.trans (congrArg oI hS)
            have hj := (sel_lt hS).1
            refine lv_goto (tgt := 40) hx hb dX5_sumOf_36 (by decide) ?_
            refine lv_istore (lv' := [(7, .int (nI j)), (6, .int (nI k)), (5, .int x5), (4, .int f), (3, .int m), (2, .int p), (1, .int c), (0, .ref (b 0))]) hx hb dX5_sumOf_40 hl (by decide) rfl (fun ls hl => ?_)
            refine lv_iload hx hb dX5_sumOf_42 (lv_at hl 2 rfl) ?_
            refine lv_iload hx hb dX5_sumOf_44 (lv_at hl 0 rfl) ?_
            refine lv_iconst (v := (-1)) hx hb dX5_sumOf_46 (by decide) ?_
            refine lv_icmp_ne (tgt := 54) hx hb dX5_sumOf_47 (by decide) (fun c_47 => ?_) (fun c_47 => ?_)
            · skip
              refine lv_aload_n hx hb dX5_sumOf_54 rfl (lv_at hl 7 rfl) ?_
              refine va_get (D := D) (ci := 4) (v := .ref (b 2)) (C := RX5) (T := TX5) (N := 17) hx hb hts win_X5 hown hK hP (0) (rfl) rfl 2 (by decide) w_3 (fun _ h9 => h9) rfl dX5_sumOf_55 ?_
              refine lv_iload hx hb dX5_sumOf_58 (lv_at hl 1 rfl) ?_
              refine g_iald hx hb hK hP (2) 0 (n := 12) (f := mwt) (rfl) rfl k rfl (by omega) (by decide) dX5_sumOf_60 ?_
              refine lv_aload_n hx hb dX5_sumOf_61 rfl (lv_at hl 7 rfl) ?_
              refine va_get (D := D) (ci := 4) (v := .ref (b 9)) (C := RX5) (T := TX5) (N := 17) hx hb hts win_X5 hown hK hP (0) (rfl) rfl 12 (by decide) w_4 (fun _ h9 => h9) rfl dX5_sumOf_62 ?_
              refine lv_iload hx hb dX5_sumOf_65 (lv_at hl 0 rfl) ?_
              refine g_iald hx hb hK hP (9) 0 (n := 80) (f := mv) (rfl) rfl j rfl (by omega) (by decide) dX5_sumOf_67 ?_
              refine lv_imul hx hb dX5_sumOf_68 ?_
              refine lv_iadd hx hb dX5_sumOf_69 ?_
              refine lv_istore (lv' := [(5, .int (x5 + ((mwt k) * (mv j)))), (7, .int (nI j)), (6, .int (nI k)), (4, .int f), (3, .int m), (2, .int p), (1, .int c), (0, .ref (b 0))]) hx hb dX5_sumOf_70 hl (by decide) rfl (fun ls hl => ?_)
              refine lv_iinc (v := nI (k + 1)) (lv' := [(6, .int (nI (k + 1))), (5, .int (x5 + ((mwt k) * (mv j)))), (7, .int (nI j)), (4, .int f), (3, .int m), (2, .int p), (1, .int c), (0, .ref (b 0))]) hx hb dX5_sumOf_72 hl (k := 2) rfl (nI_1 k) (by decide) rfl (fun ls hl => ?_)
              refine lv_goto (tgt := 6) hx hb dX5_sumOf_75 (by decide) ?_
              exact ih6 (k + 1)  (x5 + ((mwt k) * (mv j))) (by omega) (by omega) (by first | (simp [sumN, c_23, hS, e6_5]; done) | (simp [sumN, c_23, e6_5]; done))  _ (lv_sub hl [0, 1, 3, 4, 5, 6, 7] rfl)
            · skip
              exact absurd c_47 (nI_nm1 (by omega))
  exact lp6 (mC + 1) 0  0 (by omega) (by omega) rfl  _ (lv_sub hl [0, 1, 6, 5, 4, 3, 2] rfl)
