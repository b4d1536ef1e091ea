set_option maxHeartbeats 4000000 in
set_option maxRecDepth 100000 in
/-- a number is drawn -/
theorem kL_draw (l : Launch) (b0 Ls k most : Nat) (xs : Nat → Int32) (hk : k < 2 ^ 30) (h0 : 0 < most) (hm : most < 2 ^ 31) (hLs : Ls ≤ 260) : Met l yL_draw wsL_draw ({ frames := 0, cells := 0, slots := 0, locals := 0 } : Room) (va_Pc [.ref b0, .int (nI k), .int (nI most)] (fun U => va_X b0 Ls xs U U.heap)) (vp_Si (fun r => ∃ v : Nat, v < most ∧ r = nI v)) 0 0 (fun _ => False) := by
  refine Met.ofW (cc := cL_draw) (maxL := 4) (ret := (some .int)) (by decide) rfl ?_
  intro p9 e9 s m9 args below meth c9 s₁ B hml hv
  obtain ⟨rfl, hX⟩ := hv
  have hb0 : b0 < s.heap.size := by obtain ⟨scr, q, -⟩ := hX; exact (Array.getElem?_eq_some_iff.mp q).1
  have hbA : ¬ (fun _ : Nat => False) b0 := fun h => h
  have hx := B.exec
  have hb := B.bytes
  have hr := B.returns
  have hts := atoms_spec (ws := wsL_draw) B.pre
  have hown : s.vm.findClass RL = some m9.cls := findClass_of_methodNamed B.named
  have hlocks := B.notSynchronized
  have hS : va_S (fun _ : Nat => False) s.heap s.heap [] := va_S.rf
  have w_0 := hts (.constant RL 7 (904384969)) (by decide +kernel)
  have w_1 := hts (.constant RL 8 (1254486961)) (by decide +kernel)
  have w_2 := hts (.constant RL 9 (2147483647)) (by decide +kernel)
  have hl := lv_entry ([.ref b0, .int (nI k), .int (nI most)]) (n := 4) (Nat.le_of_ble_eq_true rfl)
  rw [lg_entry_eq]
  generalize (lg_sl ([.ref b0, .int (nI k), .int (nI most)]) ++ List.replicate (4 - (lg_sl ([.ref b0, .int (nI k), .int (nI most)])).length) Slot.unset).toArray = ls at hl ⊢
  have hl : lv_has ls 4 [(0, .ref b0), (1, .int (nI k)), (2, .int (nI most))] := hl
  refine lv_iload_n hx hb dL_draw_0 rfl (lv_at hl 1 rfl) ?_
  refine lv_aload_n hx hb dL_draw_1 rfl (lv_at hl 0 rfl) ?_
  refine va_slen hx hb hX hb0 hbA hS dL_draw_2 ?_
  refine lv_icmp_ge (tgt := 12) hx hb dL_draw_3 (by decide) (fun c_3 => ?_) (fun c_3 => ?_)
  · skip
    have hkL : ¬ k < Ls := fun z => absurd ((nI_leI (a := Ls) (b := k) (by omega) (by omega)).mp c_3) (by omega)
    refine lv_ldc (v := (904384969)) hx hb hown w_0 dL_draw_12 ?_
    refine lv_iload_n hx hb dL_draw_14 rfl (lv_at hl 1 rfl) ?_
    refine lv_sipush (v := 239) hx hb dL_draw_15 (by decide) ?_
    refine lv_iadd hx hb dL_draw_18 ?_
    refine lv_imul hx hb dL_draw_19 ?_
    refine lv_ldc (v := (1254486961)) hx hb hown w_1 dL_draw_20 ?_
    refine lv_iadd hx hb dL_draw_22 ?_
    refine lv_istore_n (lv' := [(3, .int (((904384969) * ((nI k) + 239)) + (1254486961))), (0, .ref b0), (1, .int (nI k)), (2, .int (nI most))]) hx hb dL_draw_23 rfl hl (by decide) rfl (fun ls hl => ?_)
    refine lv_iload_n hx hb dL_draw_24 rfl (lv_at hl 0 rfl) ?_
    refine lv_ldc (v := (2147483647)) hx hb hown w_2 dL_draw_25 ?_
    refine lv_iand hx hb dL_draw_27 ?_
    refine lv_iload_n hx hb dL_draw_28 rfl (lv_at hl 3 rfl) ?_
    refine lv_irem hx hb dL_draw_29 (nI_ne0 (by omega) (by omega)) ?_
    exact W.iret (v := ((((904384969) * ((nI k) + 239)) + (1254486961)) &&& (2147483647)) - ((((904384969) * ((nI k) + 239)) + (1254486961)) &&& (2147483647)) / (nI most) * (nI most)) hx hb hr (fun t ht hW => ⟨((((904384969) * ((nI k) + 239)) + (1254486961)) &&& (2147483647)) - ((((904384969) * ((nI k) + 239)) + (1254486961)) &&& (2147483647)) / (nI most) * (nI most), rfl, (drw h0 hm), ht⟩) (fun q h => nomatch h) dL_draw_30
  · skip
    have hkL : k < Ls := by have := mt (nI_leI (a := Ls) (b := k) (by omega) (by omega)).mpr c_3; omega
    refine lv_aload_n hx hb dL_draw_6 rfl (lv_at hl 0 rfl) ?_
    refine lv_iload_n hx hb dL_draw_7 rfl (lv_at hl 1 rfl) ?_
    refine va_sld hx hb hX hb0 hbA hS (vp_in_nI (n := k) (by omega) (by omega)) dL_draw_8 ?_
    rw [nI_clamp (by omega)]
    refine lv_goto (tgt := 23) hx hb dL_draw_9 (by decide) ?_
    refine lv_istore_n (lv' := [(3, .int (xs k)), (0, .ref b0), (1, .int (nI k)), (2, .int (nI most))]) hx hb dL_draw_23 rfl hl (by decide) rfl (fun ls hl => ?_)
    refine lv_iload_n hx hb dL_draw_24 rfl (lv_at hl 0 rfl) ?_
    refine lv_ldc (v := (2147483647)) hx hb hown w_2 dL_draw_25 ?_
    refine lv_iand hx hb dL_draw_27 ?_
    refine lv_iload_n hx hb dL_draw_28 rfl (lv_at hl 3 rfl) ?_
    refine lv_irem hx hb dL_draw_29 (nI_ne0 (by omega) (by omega)) ?_
    exact W.iret (v := ((xs k) &&& (2147483647)) - ((xs k) &&& (2147483647)) / (nI most) * (nI most)) hx hb hr (fun t ht hW => ⟨((xs k) &&& (2147483647)) - ((xs k) &&& (2147483647)) / (nI most) * (nI most), rfl, (drw h0 hm), ht⟩) (fun q h => nomatch h) dL_draw_30
set_option maxHeartbeats 4000000 in
set_option maxRecDepth 100000 in
/-- what it hangs under -/
theorem kL_under (l : Launch) (D : va_G) (cI cZ cO cL : ClassId) (dt : Nat) (A : Nat → Prop) (a FA : Nat → Nat) (nC nR nL nF : Nat) (par wt : Nat → Int32) (sk fk : Nat → Nat) (hd : Nat → Option Nat) (rea sig : Nat → Int32) (ck cf cd : Nat → Nat) (cv : Nat → Int32) (nx : Nat → Option Nat) (pb rb cb : Nat) (pv rv kv : Nat → Int32) (L : List Nat) (k : Nat) (hp9 : pOk nC par wt pv) (hC12 : nC ≤ 12) (hk : k < nC) : Met l yL_under wsL_under ({ frames := 0, cells := 0, slots := 0, locals := 0 } : Room) (gP D cI cZ cO cL dt A [.ref pb, .int (nI k)] (fun H => va_P D vwCl (WD cI cO a FA nC nR nL nF par wt (fun r => nI (sk r)) (fun r => nI (fk r)) hd rea sig ++ (WF FA ck cf cd cv nx nF ++ (LR cI pb rb cb pv rv kv))) H)) (vp_Si (fun r => r = par k)) 0 0 (fun _ => False) := by
  refine Met.ofW (cc := cL_under) (maxL := 2) (ret := (some .int)) (by decide) rfl ?_
  intro p9 e9 s m9 args below meth c9 s₁ B hml hv
  obtain ⟨rfl, hg, hP⟩ := hv
  have hx := B.exec
  have hb := B.bytes
  have hr := B.returns
  have hts := atoms_spec (ws := wsL_under) B.pre
  have hown : s.vm.findClass RL = some m9.cls := findClass_of_methodNamed B.named
  have hlocks := B.notSynchronized
  have hK := hg.1
  have hS : va_S A s.heap s.heap [] := va_S.rf
  have hl := lv_entry ([.ref pb, .int (nI k)]) (n := 2) (Nat.le_of_ble_eq_true rfl)
  rw [lg_entry_eq]
  generalize (lg_sl ([.ref pb, .int (nI k)]) ++ List.replicate (2 - (lg_sl ([.ref pb, .int (nI k)])).length) Slot.unset).toArray = ls at hl ⊢
  have hl : lv_has ls 2 [(0, .ref pb), (1, .int (nI k))] := hl
  refine lv_aload_n hx hb dL_under_0 rfl (lv_at hl 0 rfl) ?_
  refine lv_iload_n hx hb dL_under_1 rfl (lv_at hl 1 rfl) ?_
  refine g_iald hx hb hK hP (11 + nF + 0) 0 (n := 12) (f := pv) (WDRj 0 rfl) rfl k rfl (by omega) (by decide) dL_under_2 ?_
  refine lv_iconst (v := 2) hx hb dL_under_3 (by decide) ?_
  refine lv_idiv hx hb dL_under_4 (by decide) ?_
  refine lv_iconst (v := 1) hx hb dL_under_5 (by decide) ?_
  refine lv_isub hx hb dL_under_6 ?_
  exact W.iret (v := ((pv k) / 2) - 1) hx hb hr (fun t ht hW => ⟨((pv k) / 2) - 1, rfl, (pOk_under hp9 hC12 hk), ht⟩) (fun q h => nomatch h) dL_under_7
set_option maxHeartbeats 4000000 in
set_option maxRecDepth 100000 in
/-- its weight -/
theorem kL_weight (l : Launch) (D : va_G) (cI cZ cO cL : ClassId) (dt : Nat) (A : Nat → Prop) (a FA : Nat → Nat) (nC nR nL nF : Nat) (par wt : Nat → Int32) (sk fk : Nat → Nat) (hd : Nat → Option Nat) (rea sig : Nat → Int32) (ck cf cd : Nat → Nat) (cv : Nat → Int32) (nx : Nat → Option Nat) (pb rb cb : Nat) (pv rv kv : Nat → Int32) (L : List Nat) (k c : Nat) (hp9 : pOk nC par wt pv) (hC12 : nC ≤ 12) (hk : k < nC) (hc31 : c < 2 ^ 31) (hpc : par k = nI c) : Met l yL_weight wsL_weight ({ frames := 0, cells := 0, slots := 0, locals := 0 } : Room) (gP D cI cZ cO cL dt A [.ref pb, .int (nI k)] (fun H => va_P D vwCl (WD cI cO a FA nC nR nL nF par wt (fun r => nI (sk r)) (fun r => nI (fk r)) hd rea sig ++ (WF FA ck cf cd cv nx nF ++ (LR cI pb rb cb pv rv kv))) H)) (vp_Si (fun r => r = wt k)) 0 0 (fun _ => False) := by
  refine Met.ofW (cc := cL_weight) (maxL := 2) (ret := (some .int)) (by decide) rfl ?_
  intro p9 e9 s m9 args below meth c9 s₁ B hml hv
  obtain ⟨rfl, hg, hP⟩ := hv
  have hx := B.exec
  have hb := B.bytes
  have hr := B.returns
  have hts := atoms_spec (ws := wsL_weight) B.pre
  have hown : s.vm.findClass RL = some m9.cls := findClass_of_methodNamed B.named
  have hlocks := B.notSynchronized
  have hK := hg.1
  have hS : va_S A s.heap s.heap [] := va_S.rf
  have hl := lv_entry ([.ref pb, .int (nI k)]) (n := 2) (Nat.le_of_ble_eq_true rfl)
  rw [lg_entry_eq]
  generalize (lg_sl ([.ref pb, .int (nI k)]) ++ List.replicate (2 - (lg_sl ([.ref pb, .int (nI k)])).length) Slot.unset).toArray = ls at hl ⊢
  have hl : lv_has ls 2 [(0, .ref pb), (1, .int (nI k))] := hl
  refine lv_aload_n hx hb dL_weight_0 rfl (lv_at hl 0 rfl) ?_
  refine lv_iload_n hx hb dL_weight_1 rfl (lv_at hl 1 rfl) ?_
  refine g_iald hx hb hK hP (11 + nF + 0) 0 (n := 12) (f := pv) (WDRj 0 rfl) rfl k rfl (by omega) (by decide) dL_weight_2 ?_
  refine lv_iconst (v := 2) hx hb dL_weight_3 (by decide) ?_
  refine lv_irem hx hb dL_weight_4 (by decide) ?_
  refine lv_iconst (v := 1) hx hb dL_weight_5 (by decide) ?_
  refine lv_icmp_ne (tgt := 13) hx hb dL_weight_6 (by decide) (fun c_6 => ?_) (fun c_6 => ?_)
  · skip
    refine lv_iconst (v := (-1)) hx hb dL_weight_13 (by decide) ?_
    exact W.iret (v := (-1)) hx hb hr (fun t ht hW => ⟨(-1), rfl, (by rcases pOk_weight hp9 hC12 hk hc31 hpc with ⟨z, q⟩ | ⟨z, q⟩ <;> first | exact q.symm | exact absurd c_6 z | exact absurd z c_6), ht⟩) (fun q h => nomatch h) dL_weight_14
  · skip
    refine lv_iconst (v := 1) hx hb dL_weight_9 (by decide) ?_
    refine lv_goto (tgt := 14) hx hb dL_weight_10 (by decide) ?_
    exact W.iret (v := 1) hx hb hr (fun t ht hW => ⟨1, rfl, (by rcases pOk_weight hp9 hC12 hk hc31 hpc with ⟨z, q⟩ | ⟨z, q⟩ <;> first | exact q.symm | exact absurd c_6 z | exact absurd z c_6), ht⟩) (fun q h => nomatch h) dL_weight_14
set_option maxHeartbeats 4000000 in
set_option maxRecDepth 100000 in
/-- far apart -/
theorem kL_isFar (l : Launch) (D : va_G) (cI cZ cO cL : ClassId) (dt : Nat) (A : Nat → Prop) (one other d : Int32) (ws : va_W) (h1 : small one) (h2 : small other) : Met l yL_isFar wsL_isFar ({ frames := 0, cells := 0, slots := 0, locals := 0 } : Room) (gP D cI cZ cO cL dt A [.int one, .int other, .int d] (fun H => va_P D vwCl (ws) H)) (vp_Si (fun r => r = bI (d < 2 * farI one other))) 0 0 (fun _ => False) := by
  refine Met.ofW (cc := cL_isFar) (maxL := 4) (ret := (some .boolean)) (by decide) rfl ?_
  intro p9 e9 s m9 args below meth c9 s₁ B hml hv
  obtain ⟨rfl, hg, hP⟩ := hv
  have hx := B.exec
  have hb := B.bytes
  have hr := B.returns
  have hts := atoms_spec (ws := wsL_isFar) B.pre
  have hown : s.vm.findClass RL = some m9.cls := findClass_of_methodNamed B.named
  have hlocks := B.notSynchronized
  have hK := hg.1
  have hS : va_S A s.heap s.heap [] := va_S.rf
  have hl := lv_entry ([.int one, .int other, .int d]) (n := 4) (Nat.le_of_ble_eq_true rfl)
  rw [lg_entry_eq]
  generalize (lg_sl ([.int one, .int other, .int d]) ++ List.replicate (4 - (lg_sl ([.int one, .int other, .int d])).length) Slot.unset).toArray = ls at hl ⊢
  have hl : lv_has ls 4 [(0, .int one), (1, .int other), (2, .int d)] := hl
  refine lv_iload_n hx hb dL_isFar_0 rfl (lv_at hl 0 rfl) ?_
  refine lv_iload_n hx hb dL_isFar_1 rfl (lv_at hl 1 rfl) ?_
  refine lv_isub hx hb dL_isFar_2 ?_
  refine lv_istore_n (lv' := [(3, .int (one - other)), (0, .int one), (1, .int other), (2, .int d)]) hx hb dL_isFar_3 rfl hl (by decide) rfl (fun ls hl => ?_)
  refine lv_iconst (v := 2) hx hb dL_isFar_4 (by decide) ?_
  refine lv_iload_n hx hb dL_isFar_5 rfl (lv_at hl 0 rfl) ?_
  refine lv_if_ge (tgt := 14) hx hb dL_isFar_6 (by decide) (fun c_6 => ?_) (fun c_6 => ?_)
  · skip
    have hfar : one - other = farI one other := by rw [← abs_far h1 h2, if_pos c_6]
    refine lv_iload_n hx hb dL_isFar_14 rfl (lv_at hl 0 rfl) ?_
    refine lv_imul hx hb dL_isFar_15 ?_
    refine lv_iload_n hx hb dL_isFar_16 rfl (lv_at hl 3 rfl) ?_
    refine lv_icmp_le (tgt := 24) hx hb dL_isFar_17 (by decide) (fun c_17 => ?_) (fun c_17 => ?_)
    · skip
      refine lv_iconst (v := 0) hx hb dL_isFar_24 (by decide) ?_
      exact W.zret (v := 0) hx hb hr (rfl) (fun t ht hW => ⟨0, rfl, (bI_f (by rw [← hfar]; exact i_len c_17)), ht⟩) (fun q h => nomatch h) dL_isFar_25
    · skip
      refine lv_iconst (v := 1) hx hb dL_isFar_20 (by decide) ?_
      refine lv_goto (tgt := 25) hx hb dL_isFar_21 (by decide) ?_
      exact W.zret (v := 1) hx hb hr (rfl) (fun t ht hW => ⟨1, rfl, (bI_t (by rw [← hfar]; exact i_nle c_17)), ht⟩) (fun q h => nomatch h) dL_isFar_25
  · skip
    have hfar : -(one - other) = farI one other := by rw [← abs_far h1 h2, if_neg c_6]; exact (Int32.zero_sub _).symm
    refine lv_iload_n hx hb dL_isFar_9 rfl (lv_at hl 0 rfl) ?_
    refine lv_ineg hx hb dL_isFar_10 ?_
    refine lv_goto (tgt := 15) hx hb dL_isFar_11 (by decide) ?_
    refine lv_imul hx hb dL_isFar_15 ?_
    refine lv_iload_n hx hb dL_isFar_16 rfl (lv_at hl 3 rfl) ?_
    refine lv_icmp_le (tgt := 24) hx hb dL_isFar_17 (by decide) (fun c_17 => ?_) (fun c_17 => ?_)
    · skip
      refine lv_iconst (v := 0) hx hb dL_isFar_24 (by decide) ?_
      exact W.zret (v := 0) hx hb hr (rfl) (fun t ht hW => ⟨0, rfl, (bI_f (by rw [← hfar]; exact i_len c_17)), ht⟩) (fun q h => nomatch h) dL_isFar_25
    · skip
      refine lv_iconst (v := 1) hx hb dL_isFar_20 (by decide) ?_
      refine lv_goto (tgt := 25) hx hb dL_isFar_21 (by decide) ?_
      exact W.zret (v := 1) hx hb hr (rfl) (fun t ht hW => ⟨1, rfl, (bI_t (by rw [← hfar]; exact i_nle c_17)), ht⟩) (fun q h => nomatch h) dL_isFar_25
set_option maxHeartbeats 4000000 in
set_option maxRecDepth 100000 in
/-- what holds -/
theorem kL_held (l : Launch) (D : va_G) (cI cZ cO cL : ClassId) (dt : Nat) (A : Nat → Prop) (a FA : Nat → Nat) (nC nR nL nF : Nat) (par wt : Nat → Int32) (sk fk : Nat → Nat) (hd : Nat → Option Nat) (rea sig : Nat → Int32) (ck cf cd : Nat → Nat) (cv : Nat → Int32) (nx : Nat → Option Nat) (pb rb cb : Nat) (pv rv kv : Nat → Int32) (L : List Nat) (c p m f : Nat) (hlt : l.stackTraces = false) (hOk : sOk nC nR nL nF par wt sk fk hd ck cf cd cv nx L) (hc : c < nC) (hp : p < 10) (hm : m < 4) (hf : f < nL + 1) : Met l yL_held wsL_held ({ frames := 10, cells := 4, slots := 24, locals := 183 } : Room) (gP D cI cZ cO cL dt A [.ref (a 0), .int 0, .int (nI c), .int (nI p), .int (nI m), .int (nI f)] (fun H => va_P D vwCl (WD cI cO a FA nC nR nL nF par wt (fun r => nI (sk r)) (fun r => nI (fk r)) hd rea sig ++ (WF FA ck cf cd cv nx nF ++ (LR cI pb rb cb pv rv kv))) H ∧ va_D A (WD cI cO a FA nC nR nL nF par wt (fun r => nI (sk r)) (fun r => nI (fk r)) hd rea sig ++ (WF FA ck cf cd cv nx nF ++ (LR cI pb rb cb pv rv kv))))) (va_Qi (fun (r : Int32) (_ : Unit) => r = hv cv (hC ck cf cd nF (nI (c * 40 + p * 4 + m)) (nI f))) (fun _ t => va_P D vwCl (WD cI cO a FA nC nR nL nF par wt (fun r => nI (sk r)) (fun r => nI (fk r)) hd rea sig ++ (WF FA ck cf cd cv nx nF ++ (LR cI pb rb cb pv rv kv))) t.heap ∧ va_D A (WD cI cO a FA nC nR nL nF par wt (fun r => nI (sk r)) (fun r => nI (fk r)) hd rea sig ++ (WF FA ck cf cd cv nx nF ++ (LR cI pb rb cb pv rv kv)))) A) 4 24 A := by
  refine va_MetW (cc := cL_held) (maxL := 7) (ret := (some .int)) (hh := [(0, 27, 28, 19)]) (by decide) rfl ?_
  intro p9 e9 s m9 args below meth c9 s₁ B hml hv
  obtain ⟨rfl, hg, hP, hD⟩ := hv
  have hx := B.exec
  have hb := B.bytes
  have hr := B.returns
  have hts := atoms_spec (ws := wsL_held) B.pre
  have htab : c9.exceptionTable.toList = tableOf [(0, 27, 28, 19)] := vx_table (x := yL_held) B (hts _ List.mem_cons_self)
  have hown : s.vm.findClass RL = some m9.cls := findClass_of_methodNamed B.named
  have hlocks := B.notSynchronized
  have hK := hg.1
  have hS : va_S A s.heap s.heap [] := va_S.rf
  obtain ⟨⟨hC12, hR5, hL8, hF⟩, ⟨hT, hwt⟩, ⟨hsk12, hfk12, hskC⟩, ⟨hCh, hH, hN, hfL⟩, hck, hcf8, hcd, hcv, hckC⟩ := id hOk
  have hcf : ∀ k, cf k < 2 ^ 31 := fun k => by have := hcf8 k; omega
  have w_0 := hts (.classLink RL 19 "java/util/NoSuchElementException") (by decide +kernel)
  have w_1 := hts (.constant RL 21 (-99000000)) (by decide +kernel)
  have hl := lv_entry ([.ref (a 0), .int 0, .int (nI c), .int (nI p), .int (nI m), .int (nI f)]) (n := 7) (Nat.le_of_ble_eq_true rfl)
  rw [lg_entry_eq]
  generalize (lg_sl ([.ref (a 0), .int 0, .int (nI c), .int (nI p), .int (nI m), .int (nI f)]) ++ List.replicate (7 - (lg_sl ([.ref (a 0), .int 0, .int (nI c), .int (nI p), .int (nI m), .int (nI f)])).length) Slot.unset).toArray = ls at hl ⊢
  have hl : lv_has ls 7 [(0, .ref (a 0)), (1, .int 0), (2, .int (nI c)), (3, .int (nI p)), (4, .int (nI m)), (5, .int (nI f))] := hl
  refine lv_iload_n hx hb dL_held_0 rfl (lv_at hl 1 rfl) ?_
  refine lv_if_eq (tgt := 17) hx hb dL_held_1 (by decide) (fun c_1 => ?_) (fun c_1 => ?_)
  · skip
    refine lv_aload_n hx hb dL_held_17 rfl (lv_at hl 0 rfl) ?_
    refine lv_iload_n hx hb dL_held_18 rfl (lv_at hl 2 rfl) ?_
    refine lv_iload_n hx hb dL_held_19 rfl (lv_at hl 3 rfl) ?_
    refine lv_iload hx hb dL_held_20 (lv_at hl 4 rfl) ?_
    refine lv_iload hx hb dL_held_22 (lv_at hl 5 rfl) ?_
    refine vx_calli (vx_runV (As := [.int (nI c), .int (nI p), .int (nI m), .int (nI f)]) (rest := []) ⟨hx, hb, hml, hown, hts⟩ (vx_pure (c4_value l D cI cZ cO cL dt A a FA nC nR nL nF par wt (fun r => nI (sk r)) (fun r => nI (fk r)) hd rea sig ck cf cd cv nx (LR cI pb rb cb pv rv kv) (nI c) (nI p) (nI m) (nI f) hlt hF hC12 hck hcf hcd hcv hwt hCh hL8)) (cwV 4 hts gL_held_X4_value rfl rfl rfl (by decide +kernel) ⟨(Nat.le_of_ble_eq_true rfl), (Nat.le_of_ble_eq_true rfl)⟩) (gP.v (hg.on hS) hP 3 rfl 0 rfl ⟨hP, hD⟩) rfl rfl hl.1 rfl (lv_room (Nat.le_of_ble_eq_true rfl)) dL_held_24 ⟨(Nat.le_of_ble_eq_true rfl), (Nat.le_of_ble_eq_true rfl)⟩) hS (fun q _ h => h) (fun q h => h) (fun q _ h => h) (fun E9 ce9 q9 u9 t9 H9 locs9 ht9 hvm9 _ hB9 hz9 hk9 hS9 hc9 hv9 hf9 => ?_) (fun r x t H locs ht hvm hw hB hz hk hS => ?_)
    · skip
      obtain ⟨hE9, hP9, hD9⟩ := hB9
      rw [ht9] at hP9
      refine vx_widen (k := 4) (n := 24) (Nat.le_of_ble_eq_true rfl) (Nat.le_of_ble_eq_true rfl) ?_
      rcases hE9 with ⟨rfl, hR9⟩ | ⟨rfl, hR9⟩
      · skip
        exact absurd hR9 (kNo_not hc hp hm hf)
      · skip
        obtain ⟨c1, p1, m1, f1, hw9, hn9⟩ := hR9
        obtain ⟨rfl, rfl, rfl, rfl⟩ := kV_one hC12 hL8 hc hp hm hf hw9
        refine vx_catch (name := "java/util/NoSuchElementException") (E := "java/util/NoSuchElementException") hown [] (⟨0, 27, 28, 19⟩ : ExceptionTableEntry) [] (htab.trans rfl) (fun z hz => absurd hz List.not_mem_nil) (by decide) (by decide) w_0 (gCast hg.2.1.2.2.2.2.2.2.2.2.2.1) hc9 hv9 hf9 ?_
        refine lv_astore (lv' := [(6, .ref q9), (0, .ref (a 0)), (1, .int 0), (2, .int (nI c)), (3, .int (nI p)), (4, .int (nI m)), (5, .int (nI f))]) hx hb dL_held_28 hl (by decide) rfl (fun ls hl => ?_)
        refine lv_ldc (v := (-99000000)) hx hb hown w_1 dL_held_30 ?_
        exact W.widen (k := 4) (n := 24) (Nat.le_of_ble_eq_true rfl) (Nat.le_of_ble_eq_true rfl) (W.iret (v := (-99000000)) hx hb hr (fun t ht hW => ⟨⟨(-99000000), (), rfl, (by rw [hn9]; rfl), g_PD ht hP9 hD9⟩, hS9.F ht⟩) hS9.2.2 dL_held_32)
    rw [ht] at hB
    obtain ⟨hP, hD⟩ := hB
    refine W.widen (k := 4) (n := 24) (Nat.le_of_ble_eq_true rfl) (Nat.le_of_ble_eq_true rfl) ?_
    obtain ⟨c1, p1, m1, f1, hw9, j, hj, rfl⟩ := hw
    obtain ⟨rfl, rfl, rfl, rfl⟩ := kV_one hC12 hL8 hc hp hm hf hw9
    exact W.widen (k := 4) (n := 24) (Nat.le_of_ble_eq_true rfl) (Nat.le_of_ble_eq_true rfl) (W.iret (v := cv j) hx hb hr (fun t ht hW => ⟨⟨cv j, (), rfl, (by rw [hj]; rfl), g_PD ht hP hD⟩, hS.F ht⟩) hS.2.2 dL_held_27)
  · skip
    exact absurd c_1 (by decide)
set_option maxHeartbeats 4000000 in
set_option maxRecDepth 100000 in
/-- what holds -/
theorem kL_heldD (l : Launch) (D : va_G) (cI cZ cO cL : ClassId) (dt : Nat) (A : Nat → Prop) (a FA : Nat → Nat) (nC nR nL nF : Nat) (par wt : Nat → Int32) (sk fk : Nat → Nat) (hd : Nat → Option Nat) (rea sig : Nat → Int32) (ck cf cd : Nat → Nat) (cv : Nat → Int32) (nx : Nat → Option Nat) (pb rb cb : Nat) (pv rv kv : Nat → Int32) (L : List Nat) (c p m f : Nat) (hlt : l.stackTraces = false) (hOk : sOk nC nR nL nF par wt sk fk hd ck cf cd cv nx L) (hc : c < nC) (hp : p < 10) (hm : m < 4) (hf : f < nL + 1) : Met l yL_held wsL_held ({ frames := 10, cells := 4, slots := 24, locals := 183 } : Room) (gP D cI cZ cO cL dt A [.ref (a 0), .int 1, .int (nI c), .int (nI p), .int (nI m), .int (nI f)] (fun H => va_P D vwCl (WD cI cO a FA nC nR nL nF par wt (fun r => nI (sk r)) (fun r => nI (fk r)) hd rea sig ++ (WF FA ck cf cd cv nx nF ++ (LR cI pb rb cb pv rv kv))) H ∧ va_D A (WD cI cO a FA nC nR nL nF par wt (fun r => nI (sk r)) (fun r => nI (fk r)) hd rea sig ++ (WF FA ck cf cd cv nx nF ++ (LR cI pb rb cb pv rv kv))))) (va_Qi (fun (r : Int32) (_ : Unit) => r = hv (dbt cd) (hC ck cf cd nF (nI (c * 40 + p * 4 + m)) (nI f))) (fun _ t => va_P D vwCl (WD cI cO a FA nC nR nL nF par wt (fun r => nI (sk r)) (fun r => nI (fk r)) hd rea sig ++ (WF FA ck cf cd cv nx nF ++ (LR cI pb rb cb pv rv kv))) t.heap ∧ va_D A (WD cI cO a FA nC nR nL nF par wt (fun r => nI (sk r)) (fun r => nI (fk r)) hd rea sig ++ (WF FA ck cf cd cv nx nF ++ (LR cI pb rb cb pv rv kv)))) A) 4 24 A := by
  refine va_MetW (cc := cL_held) (maxL := 7) (ret := (some .int)) (hh := [(0, 27, 28, 19)]) (by decide) rfl ?_
  intro p9 e9 s m9 args below meth c9 s₁ B hml hv
  obtain ⟨rfl, hg, hP, hD⟩ := hv
  have hx := B.exec
  have hb := B.bytes
  have hr := B.returns
  have hts := atoms_spec (ws := wsL_held) B.pre
  have htab : c9.exceptionTable.toList = tableOf [(0, 27, 28, 19)] := vx_table (x := yL_held) B (hts _ List.mem_cons_self)
  have hown : s.vm.findClass RL = some m9.cls := findClass_of_methodNamed B.named
  have hlocks := B.notSynchronized
  have hK := hg.1
  have hS : va_S A s.heap s.heap [] := va_S.rf
  obtain ⟨⟨hC12, hR5, hL8, hF⟩, ⟨hT, hwt⟩, ⟨hsk12, hfk12, hskC⟩, ⟨hCh, hH, hN, hfL⟩, hck, hcf8, hcd, hcv, hckC⟩ := id hOk
  have hcf : ∀ k, cf k < 2 ^ 31 := fun k => by have := hcf8 k; omega
  have w_0 := hts (.classLink RL 19 "java/util/NoSuchElementException") (by decide +kernel)
  have w_1 := hts (.constant RL 21 (-99000000)) (by decide +kernel)
  have hl := lv_entry ([.ref (a 0), .int 1, .int (nI c), .int (nI p), .int (nI m), .int (nI f)]) (n := 7) (Nat.le_of_ble_eq_true rfl)
  rw [lg_entry_eq]
  generalize (lg_sl ([.ref (a 0), .int 1, .int (nI c), .int (nI p), .int (nI m), .int (nI f)]) ++ List.replicate (7 - (lg_sl ([.ref (a 0), .int 1, .int (nI c), .int (nI p), .int (nI m), .int (nI f)])).length) Slot.unset).toArray = ls at hl ⊢
  have hl : lv_has ls 7 [(0, .ref (a 0)), (1, .int 1), (2, .int (nI c)), (3, .int (nI p)), (4, .int (nI m)), (5, .int (nI f))] := hl
  refine lv_iload_n hx hb dL_held_0 rfl (lv_at hl 1 rfl) ?_
  refine lv_if_eq (tgt := 17) hx hb dL_held_1 (by decide) (fun c_1 => ?_) (fun c_1 => ?_)
  · skip
    exact absurd c_1 (by decide)
  · skip
    refine lv_aload_n hx hb dL_held_4 rfl (lv_at hl 0 rfl) ?_
    refine lv_iload_n hx hb dL_held_5 rfl (lv_at hl 2 rfl) ?_
    refine lv_iload_n hx hb dL_held_6 rfl (lv_at hl 3 rfl) ?_
    refine lv_iload hx hb dL_held_7 (lv_at hl 4 rfl) ?_
    refine lv_iload hx hb dL_held_9 (lv_at hl 5 rfl) ?_
    refine vx_calli (vx_runV (As := [.int (nI c), .int (nI p), .int (nI m), .int (nI f)]) (rest := []) ⟨hx, hb, hml, hown, hts⟩ (vx_pure (c4_doubt l D cI cZ cO cL dt A a FA nC nR nL nF par wt (fun r => nI (sk r)) (fun r => nI (fk r)) hd rea sig ck cf cd cv nx (LR cI pb rb cb pv rv kv) (nI c) (nI p) (nI m) (nI f) hlt hF hC12 hck hcf hcd hcv hwt hCh hL8)) (cwV 4 hts gL_held_X4_doubt rfl rfl rfl (by decide +kernel) ⟨(Nat.le_of_ble_eq_true rfl), (Nat.le_of_ble_eq_true rfl)⟩) (gP.v (hg.on hS) hP 3 rfl 0 rfl ⟨hP, hD⟩) rfl rfl hl.1 rfl (lv_room (Nat.le_of_ble_eq_true rfl)) dL_held_11 ⟨(Nat.le_of_ble_eq_true rfl), (Nat.le_of_ble_eq_true rfl)⟩) hS (fun q _ h => h) (fun q h => h) (fun q _ h => h) (fun E9 ce9 q9 u9 t9 H9 locs9 ht9 hvm9 _ hB9 hz9 hk9 hS9 hc9 hv9 hf9 => ?_) (fun r x t H locs ht hvm hw hB hz hk hS => ?_)
    · skip
      obtain ⟨hE9, hP9, hD9⟩ := hB9
      rw [ht9] at hP9
      refine vx_widen (k := 4) (n := 24) (Nat.le_of_ble_eq_true rfl) (Nat.le_of_ble_eq_true rfl) ?_
      rcases hE9 with ⟨rfl, hR9⟩ | ⟨rfl, hR9⟩
      · skip
        exact absurd hR9 (kNo_not hc hp hm hf)
      · skip
        obtain ⟨c1, p1, m1, f1, hw9, hn9⟩ := hR9
        obtain ⟨rfl, rfl, rfl, rfl⟩ := kV_one hC12 hL8 hc hp hm hf hw9
        refine vx_catch (name := "java/util/NoSuchElementException") (E := "java/util/NoSuchElementException") hown [] (⟨0, 27, 28, 19⟩ : ExceptionTableEntry) [] (htab.trans rfl) (fun z hz => absurd hz List.not_mem_nil) (by decide) (by decide) w_0 (gCast hg.2.1.2.2.2.2.2.2.2.2.2.1) hc9 hv9 hf9 ?_
        refine lv_astore (lv' := [(6, .ref q9), (0, .ref (a 0)), (1, .int 1), (2, .int (nI c)), (3, .int (nI p)), (4, .int (nI m)), (5, .int (nI f))]) hx hb dL_held_28 hl (by decide) rfl (fun ls hl => ?_)
        refine lv_ldc (v := (-99000000)) hx hb hown w_1 dL_held_30 ?_
        exact W.widen (k := 4) (n := 24) (Nat.le_of_ble_eq_true rfl) (Nat.le_of_ble_eq_true rfl) (W.iret (v := (-99000000)) hx hb hr (fun t ht hW => ⟨⟨(-99000000), (), rfl, (by rw [hn9]; rfl), g_PD ht hP9 hD9⟩, hS9.F ht⟩) hS9.2.2 dL_held_32)
    rw [ht] at hB
    obtain ⟨hP, hD⟩ := hB
    refine W.widen (k := 4) (n := 24) (Nat.le_of_ble_eq_true rfl) (Nat.le_of_ble_eq_true rfl) ?_
    obtain ⟨c1, p1, m1, f1, hw9, j, hj, rfl⟩ := hw
    obtain ⟨rfl, rfl, rfl, rfl⟩ := kV_one hC12 hL8 hc hp hm hf hw9
    refine lv_goto (tgt := 27) hx hb dL_held_14 (by decide) ?_
    exact W.widen (k := 4) (n := 24) (Nat.le_of_ble_eq_true rfl) (Nat.le_of_ble_eq_true rfl) (W.iret (v := nI (10 ^ cd j)) hx hb hr (fun t ht hW => ⟨⟨nI (10 ^ cd j), (), rfl, (by rw [hj]; rfl), g_PD ht hP hD⟩, hS.F ht⟩) hS.2.2 dL_held_27)
set_option maxHeartbeats 4000000 in
set_option maxRecDepth 100000 in
/-- what is derived -/
theorem kL_derived (l : Launch) (D : va_G) (cI cZ cO cL : ClassId) (dt : Nat) (A : Nat → Prop) (a FA : Nat → Nat) (nC nR nL nF : Nat) (par wt : Nat → Int32) (sk fk : Nat → Nat) (hd : Nat → Option Nat) (rea sig : Nat → Int32) (ck cf cd : Nat → Nat) (cv : Nat → Int32) (nx : Nat → Option Nat) (pb rb cb : Nat) (pv rv kv : Nat → Int32) (L : List Nat) (c p m f : Nat) (hlt : l.stackTraces = false) (hOk : sOk nC nR nL nF par wt sk fk hd ck cf cd cv nx L) (hc : c < nC) (hp : p < 10) (hm : m < 4) (hf : f < nL + 1) : Met l yL_derived wsL_derived ({ frames := 9, cells := 4, slots := 24, locals := 163 } : Room) (gP D cI cZ cO cL dt A [.ref (a 0), .int (nI c), .int (nI p), .int (nI m), .int (nI f)] (fun H => va_P D vwCl (WD cI cO a FA nC nR nL nF par wt (fun r => nI (sk r)) (fun r => nI (fk r)) hd rea sig ++ (WF FA ck cf cd cv nx nF ++ (LR cI pb rb cb pv rv kv))) H ∧ va_D A (WD cI cO a FA nC nR nL nF par wt (fun r => nI (sk r)) (fun r => nI (fk r)) hd rea sig ++ (WF FA ck cf cd cv nx nF ++ (LR cI pb rb cb pv rv kv))))) (va_Qi (fun (r : Int32) (u : (Nat → Int32) × (Nat → Int32)) => r = dvI (dV nC par wt (fun k => hC ck cf cd nF (nI (k * 40 + p * 4 + m)) (nI f)) cv c)) (fun u t => va_P D vwCl (WD cI cO a FA nC nR nL nF par wt (fun r => nI (sk r)) (fun r => nI (fk r)) hd u.1 u.2 ++ (WF FA ck cf cd cv nx nF ++ (LR cI pb rb cb pv rv kv))) t.heap ∧ va_D A (WD cI cO a FA nC nR nL nF par wt (fun r => nI (sk r)) (fun r => nI (fk r)) hd u.1 u.2 ++ (WF FA ck cf cd cv nx nF ++ (LR cI pb rb cb pv rv kv)))) A) 4 24 A := by
  refine va_MetW (cc := cL_derived) (maxL := 6) (ret := (some .int)) (hh := [(0, 9, 10, 19)]) (by decide) rfl ?_
  intro p9 e9 s m9 args below meth c9 s₁ B hml hv
  obtain ⟨rfl, hg, hP, hD⟩ := hv
  have hx := B.exec
  have hb := B.bytes
  have hr := B.returns
  have hts := atoms_spec (ws := wsL_derived) B.pre
  have htab : c9.exceptionTable.toList = tableOf [(0, 9, 10, 19)] := vx_table (x := yL_derived) B (hts _ List.mem_cons_self)
  have hown : s.vm.findClass RL = some m9.cls := findClass_of_methodNamed B.named
  have hlocks := B.notSynchronized
  have hK := hg.1
  have hS : va_S A s.heap s.heap [] := va_S.rf
  obtain ⟨⟨hC12, hR5, hL8, hF⟩, ⟨hT, hwt⟩, ⟨hsk12, hfk12, hskC⟩, ⟨hCh, hH, hN, hfL⟩, hck, hcf8, hcd, hcv, hckC⟩ := id hOk
  have hcf : ∀ k, cf k < 2 ^ 31 := fun k => by have := hcf8 k; omega
  have w_0 := hts (.classLink RL 19 "java/util/NoSuchElementException") (by decide +kernel)
  have w_1 := hts (.constant RL 21 (-99000000)) (by decide +kernel)
  have hl := lv_entry ([.ref (a 0), .int (nI c), .int (nI p), .int (nI m), .int (nI f)]) (n := 6) (Nat.le_of_ble_eq_true rfl)
  rw [lg_entry_eq]
  generalize (lg_sl ([.ref (a 0), .int (nI c), .int (nI p), .int (nI m), .int (nI f)]) ++ List.replicate (6 - (lg_sl ([.ref (a 0), .int (nI c), .int (nI p), .int (nI m), .int (nI f)])).length) Slot.unset).toArray = ls at hl ⊢
  have hl : lv_has ls 6 [(0, .ref (a 0)), (1, .int (nI c)), (2, .int (nI p)), (3, .int (nI m)), (4, .int (nI f))] := hl
  refine lv_aload_n hx hb dL_derived_0 rfl (lv_at hl 0 rfl) ?_
  refine lv_iload_n hx hb dL_derived_1 rfl (lv_at hl 1 rfl) ?_
  refine lv_iload_n hx hb dL_derived_2 rfl (lv_at hl 2 rfl) ?_
  refine lv_iload_n hx hb dL_derived_3 rfl (lv_at hl 3 rfl) ?_
  refine lv_iload hx hb dL_derived_4 (lv_at hl 4 rfl) ?_
  refine vx_calli (vx_runV (As := [.int (nI c), .int (nI p), .int (nI m), .int (nI f)]) (rest := []) ⟨hx, hb, hml, hown, hts⟩ (vx_same (c4_derived l D cI cZ cO cL dt A a FA nC nR nL nF par wt (fun r => nI (sk r)) (fun r => nI (fk r)) hd rea sig ck cf cd cv nx (LR cI pb rb cb pv rv kv) L (nI c) (nI p) (nI m) (nI f) hlt hC12 hL8 hck hcf hcd hCh hF hT)) (cwV 4 hts gL_derived_X4_derived rfl rfl rfl (by decide +kernel) ⟨(Nat.le_of_ble_eq_true rfl), (Nat.le_of_ble_eq_true rfl)⟩) (gP.v (hg.on hS) hP 3 rfl 0 rfl ⟨hP, hD⟩) rfl rfl hl.1 rfl (lv_room (Nat.le_of_ble_eq_true rfl)) dL_derived_6 ⟨(Nat.le_of_ble_eq_true rfl), (Nat.le_of_ble_eq_true rfl)⟩) hS (fun q _ h => h) (fun q h => h) (fun q _ h => h) (fun E9 ce9 q9 u9 t9 H9 locs9 ht9 hvm9 _ hB9 hz9 hk9 hS9 hc9 hv9 hf9 => ?_) (fun r x t H locs ht hvm hw hB hz hk hS => ?_)
  · skip
    obtain ⟨hE9, hP9, hD9⟩ := hB9
    rw [ht9] at hP9
    refine vx_widen (k := 4) (n := 24) (Nat.le_of_ble_eq_true rfl) (Nat.le_of_ble_eq_true rfl) ?_
    rcases hE9 with ⟨rfl, hR9⟩ | ⟨rfl, hR9⟩
    · skip
      exact absurd hR9 (kNo_not hc hp hm hf)
    · skip
      obtain ⟨c1, p1, m1, f1, hw9, hn9⟩ := hR9
      obtain ⟨rfl, rfl, rfl, rfl⟩ := kV_one hC12 hL8 hc hp hm hf hw9
      refine vx_catch (name := "java/util/NoSuchElementException") (E := "java/util/NoSuchElementException") hown [] (⟨0, 9, 10, 19⟩ : ExceptionTableEntry) [] (htab.trans rfl) (fun z hz => absurd hz List.not_mem_nil) (by decide) (by decide) w_0 (gCast hg.2.1.2.2.2.2.2.2.2.2.2.1) hc9 hv9 hf9 ?_
      refine lv_astore (lv' := [(5, .ref q9), (0, .ref (a 0)), (1, .int (nI c)), (2, .int (nI p)), (3, .int (nI m)), (4, .int (nI f))]) hx hb dL_derived_10 hl (by decide) rfl (fun ls hl => ?_)
      refine lv_ldc (v := (-99000000)) hx hb hown w_1 dL_derived_12 ?_
      exact W.widen (k := 4) (n := 24) (Nat.le_of_ble_eq_true rfl) (Nat.le_of_ble_eq_true rfl) (W.iret (v := (-99000000)) hx hb hr (fun t ht hW => ⟨⟨(-99000000), u9, rfl, (by rw [hn9]; rfl), g_PD ht hP9 hD9⟩, hS9.F ht⟩) hS9.2.2 dL_derived_14)
  rw [ht] at hB
  obtain ⟨hP, hD⟩ := hB
  refine W.widen (k := 4) (n := 24) (Nat.le_of_ble_eq_true rfl) (Nat.le_of_ble_eq_true rfl) ?_
  obtain ⟨hw9, hd9⟩ := hw
  obtain ⟨e1, e2, e3, e4⟩ := kV_one hC12 hL8 hc hp hm hf hw9
  rw [← e1, ← e2, ← e3, ← e4] at hd9
  exact W.widen (k := 4) (n := 24) (Nat.le_of_ble_eq_true rfl) (Nat.le_of_ble_eq_true rfl) (W.iret (v := r) hx hb hr (fun t ht hW => ⟨⟨r, x.2, rfl, (by rw [hd9]; rfl), g_PD ht hP hD⟩, hS.F ht⟩) hS.2.2 dL_derived_9)
set_option maxHeartbeats 4000000 in
set_option maxRecDepth 100000 in
/-- it hangs -/
theorem kL_hangs_0 (l : Launch) (D : va_G) (cI cZ cO cL : ClassId) (dt : Nat) (A : Nat → Prop) (a FA : Nat → Nat) (nC nR nL nF : Nat) (par wt : Nat → Int32) (sk fk : Nat → Nat) (hd : Nat → Option Nat) (rea sig : Nat → Int32) (ck cf cd : Nat → Nat) (cv : Nat → Int32) (nx : Nat → Option Nat) (pb rb cb : Nat) (pv rv kv : Nat → Int32) (L : List Nat) (c p : Nat) (ui : Int32) (hlt : l.stackTraces = false) (hOk : sOk nC nR nL nF par wt sk fk hd ck cf cd cv nx L) (hc : c < nC) (hp : p < nC) (ha : anc par (nI c) L (nI p) = false) : Met l yL_hangs wsL_hangs ({ frames := 8, cells := 3, slots := 18, locals := 135 } : Room) (gP D cI cZ cO cL dt A [.ref (a 0), .int (nI c), .int (nI p), .int ui] (fun H => va_P D vwCl (WD cI cO a FA nC nR nL nF par wt (fun r => nI (sk r)) (fun r => nI (fk r)) hd rea sig ++ (WF FA ck cf cd cv nx nF ++ (LR cI pb rb cb pv rv kv))) H ∧ va_D A (WD cI cO a FA nC nR nL nF par wt (fun r => nI (sk r)) (fun r => nI (fk r)) hd rea sig ++ (WF FA ck cf cd cv nx nF ++ (LR cI pb rb cb pv rv kv))))) (va_Qi (fun (r : Int32) (_ : Unit) => r = par c) (fun _ t => va_P D vwCl (WD cI cO a FA nC nR nL nF (upd par c (nI p)) (upd wt c (if ui = 0 then -1 else 1)) (fun r => nI (sk r)) (fun r => nI (fk r)) hd rea sig ++ (WF FA ck cf cd cv nx nF ++ (LR cI pb rb cb pv rv kv))) t.heap ∧ va_D A (WD cI cO a FA nC nR nL nF (upd par c (nI p)) (upd wt c (if ui = 0 then -1 else 1)) (fun r => nI (sk r)) (fun r => nI (fk r)) hd rea sig ++ (WF FA ck cf cd cv nx nF ++ (LR cI pb rb cb pv rv kv)))) A) 3 18 A := by
  refine va_MetW (cc := cL_hangs) (maxL := 5) (ret := (some .int)) (hh := [(0, 7, 8, 29)]) (by decide) rfl ?_
  intro p9 e9 s m9 args below meth c9 s₁ B hml hv
  obtain ⟨rfl, hg, hP, hD⟩ := hv
  have hx := B.exec
  have hb := B.bytes
  have hr := B.returns
  have hts := atoms_spec (ws := wsL_hangs) B.pre
  have htab : c9.exceptionTable.toList = tableOf [(0, 7, 8, 29)] := vx_table (x := yL_hangs) B (hts _ List.mem_cons_self)
  have hown : s.vm.findClass RL = some m9.cls := findClass_of_methodNamed B.named
  have hlocks := B.notSynchronized
  have hK := hg.1
  have hS : va_S A s.heap s.heap [] := va_S.rf
  obtain ⟨⟨hC12, hR5, hL8, hF⟩, ⟨hT, hwt⟩, ⟨hsk12, hfk12, hskC⟩, ⟨hCh, hH, hN, hfL⟩, hck, hcf8, hcd, hcv, hckC⟩ := id hOk
  have hcf : ∀ k, cf k < 2 ^ 31 := fun k => by have := hcf8 k; omega
  have hl := lv_entry ([.ref (a 0), .int (nI c), .int (nI p), .int ui]) (n := 5) (Nat.le_of_ble_eq_true rfl)
  rw [lg_entry_eq]
  generalize (lg_sl ([.ref (a 0), .int (nI c), .int (nI p), .int ui]) ++ List.replicate (5 - (lg_sl ([.ref (a 0), .int (nI c), .int (nI p), .int ui])).length) Slot.unset).toArray = ls at hl ⊢
  have hl : lv_has ls 5 [(0, .ref (a 0)), (1, .int (nI c)), (2, .int (nI p)), (3, .int ui)] := hl
  refine lv_aload_n hx hb dL_hangs_0 rfl (lv_at hl 0 rfl) ?_
  refine lv_iload_n hx hb dL_hangs_1 rfl (lv_at hl 1 rfl) ?_
  refine lv_iload_n hx hb dL_hangs_2 rfl (lv_at hl 2 rfl) ?_
  refine lv_iload_n hx hb dL_hangs_3 rfl (lv_at hl 3 rfl) ?_
  refine vx_calli (vx_runV (As := [.int (nI c), .int (nI p), .int ui]) (rest := []) ⟨hx, hb, hml, hown, hts⟩ (vx_mut (c4_hang l D cI cZ cO cL dt A a FA nC nR nL nF par wt (fun r => nI (sk r)) (fun r => nI (fk r)) hd rea sig ck cf cd cv nx (LR cI pb rb cb pv rv kv) L (nI c) (nI p) ui hlt hC12 hL8 hT)) (cwV 3 hts gL_hangs_X4_hang rfl rfl rfl (by decide +kernel) ⟨(Nat.le_of_ble_eq_true rfl), (Nat.le_of_ble_eq_true rfl)⟩) (gP.v (hg.on hS) hP 3 rfl 0 rfl ⟨hP, hD⟩) rfl rfl hl.1 rfl (lv_room (Nat.le_of_ble_eq_true rfl)) dL_hangs_4 ⟨(Nat.le_of_ble_eq_true rfl), (Nat.le_of_ble_eq_true rfl)⟩) hS (fun q _ h => h) (fun q h => h) (fun q _ h => h) (fun E9 ce9 q9 u9 t9 H9 locs9 ht9 hvm9 _ hB9 hz9 hk9 hS9 hc9 hv9 hf9 => ?_) (fun r x t H locs ht hvm hw hB hz hk hS => ?_)
  · skip
    obtain ⟨hE9, hP9, hD9⟩ := hB9
    rw [ht9] at hP9
    refine vx_widen (k := 3) (n := 18) (Nat.le_of_ble_eq_true rfl) (Nat.le_of_ble_eq_true rfl) ?_
    rcases hE9 with ⟨rfl, hR9⟩ | ⟨rfl, hR9⟩
    · skip
      exact absurd ⟨cOk_yes hc, cOk_yes hp⟩ hR9
    · skip
      obtain ⟨c1, p1, ⟨e1, -⟩, ⟨e2, -⟩, ha9⟩ := hR9
      rw [← e1, ← e2] at ha9
      exact absurd (ha.symm.trans ha9) (by decide)
  rw [ht] at hB
  obtain ⟨hP, hD⟩ := hB
  refine W.widen (k := 3) (n := 18) (Nat.le_of_ble_eq_true rfl) (Nat.le_of_ble_eq_true rfl) ?_
  obtain ⟨x1, x2⟩ := x
  obtain ⟨⟨e1, g1⟩, ⟨e2, g2⟩, -, rfl⟩ := hw
  dsimp only at e1 e2 g1 g2
  obtain rfl := (nI_eq (by omega) (by omega)).mp e1
  obtain rfl := (nI_eq (by omega) (by omega)).mp e2
  exact W.widen (k := 3) (n := 18) (Nat.le_of_ble_eq_true rfl) (Nat.le_of_ble_eq_true rfl) (W.iret (v := par c) hx hb hr (fun t ht hW => ⟨⟨par c, (), rfl, rfl, g_PD ht hP hD⟩, hS.F ht⟩) hS.2.2 dL_hangs_7)
set_option maxHeartbeats 4000000 in
set_option maxRecDepth 100000 in
/-- it may not hang -/
theorem kL_hangs_1 (l : Launch) (D : va_G) (cI cZ cO cL : ClassId) (dt : Nat) (A : Nat → Prop) (a FA : Nat → Nat) (nC nR nL nF : Nat) (par wt : Nat → Int32) (sk fk : Nat → Nat) (hd : Nat → Option Nat) (rea sig : Nat → Int32) (ck cf cd : Nat → Nat) (cv : Nat → Int32) (nx : Nat → Option Nat) (pb rb cb : Nat) (pv rv kv : Nat → Int32) (L : List Nat) (c p : Nat) (ui : Int32) (hlt : l.stackTraces = false) (hOk : sOk nC nR nL nF par wt sk fk hd ck cf cd cv nx L) (hc : c < nC) (hp : p < nC) (ha : anc par (nI c) L (nI p) = true) : Met l yL_hangs wsL_hangs ({ frames := 8, cells := 3, slots := 18, locals := 135 } : Room) (gP D cI cZ cO cL dt A [.ref (a 0), .int (nI c), .int (nI p), .int ui] (fun H => va_P D vwCl (WD cI cO a FA nC nR nL nF par wt (fun r => nI (sk r)) (fun r => nI (fk r)) hd rea sig ++ (WF FA ck cf cd cv nx nF ++ (LR cI pb rb cb pv rv kv))) H ∧ va_D A (WD cI cO a FA nC nR nL nF par wt (fun r => nI (sk r)) (fun r => nI (fk r)) hd rea sig ++ (WF FA ck cf cd cv nx nF ++ (LR cI pb rb cb pv rv kv))))) (va_Qi (fun (r : Int32) (_ : Unit) => r = -9) (fun _ t => va_P D vwCl (WD cI cO a FA nC nR nL nF par wt (fun r => nI (sk r)) (fun r => nI (fk r)) hd rea sig ++ (WF FA ck cf cd cv nx nF ++ (LR cI pb rb cb pv rv kv))) t.heap ∧ va_D A (WD cI cO a FA nC nR nL nF par wt (fun r => nI (sk r)) (fun r => nI (fk r)) hd rea sig ++ (WF FA ck cf cd cv nx nF ++ (LR cI pb rb cb pv rv kv)))) A) 3 18 A := by
  refine va_MetW (cc := cL_hangs) (maxL := 5) (ret := (some .int)) (hh := [(0, 7, 8, 29)]) (by decide) rfl ?_
  intro p9 e9 s m9 args below meth c9 s₁ B hml hv
  obtain ⟨rfl, hg, hP, hD⟩ := hv
  have hx := B.exec
  have hb := B.bytes
  have hr := B.returns
  have hts := atoms_spec (ws := wsL_hangs) B.pre
  have htab : c9.exceptionTable.toList = tableOf [(0, 7, 8, 29)] := vx_table (x := yL_hangs) B (hts _ List.mem_cons_self)
  have hown : s.vm.findClass RL = some m9.cls := findClass_of_methodNamed B.named
  have hlocks := B.notSynchronized
  have hK := hg.1
  have hS : va_S A s.heap s.heap [] := va_S.rf
  obtain ⟨⟨hC12, hR5, hL8, hF⟩, ⟨hT, hwt⟩, ⟨hsk12, hfk12, hskC⟩, ⟨hCh, hH, hN, hfL⟩, hck, hcf8, hcd, hcv, hckC⟩ := id hOk
  have hcf : ∀ k, cf k < 2 ^ 31 := fun k => by have := hcf8 k; omega
  have w_0 := hts (.classLink RL 29 "java/lang/IllegalArgumentException") (by decide +kernel)
  have hl := lv_entry ([.ref (a 0), .int (nI c), .int (nI p), .int ui]) (n := 5) (Nat.le_of_ble_eq_true rfl)
  rw [lg_entry_eq]
  generalize (lg_sl ([.ref (a 0), .int (nI c), .int (nI p), .int ui]) ++ List.replicate (5 - (lg_sl ([.ref (a 0), .int (nI c), .int (nI p), .int ui])).length) Slot.unset).toArray = ls at hl ⊢
  have hl : lv_has ls 5 [(0, .ref (a 0)), (1, .int (nI c)), (2, .int (nI p)), (3, .int ui)] := hl
  refine lv_aload_n hx hb dL_hangs_0 rfl (lv_at hl 0 rfl) ?_
  refine lv_iload_n hx hb dL_hangs_1 rfl (lv_at hl 1 rfl) ?_
  refine lv_iload_n hx hb dL_hangs_2 rfl (lv_at hl 2 rfl) ?_
  refine lv_iload_n hx hb dL_hangs_3 rfl (lv_at hl 3 rfl) ?_
  refine vx_calli (vx_runV (As := [.int (nI c), .int (nI p), .int ui]) (rest := []) ⟨hx, hb, hml, hown, hts⟩ (vx_mut (c4_hang l D cI cZ cO cL dt A a FA nC nR nL nF par wt (fun r => nI (sk r)) (fun r => nI (fk r)) hd rea sig ck cf cd cv nx (LR cI pb rb cb pv rv kv) L (nI c) (nI p) ui hlt hC12 hL8 hT)) (cwV 3 hts gL_hangs_X4_hang rfl rfl rfl (by decide +kernel) ⟨(Nat.le_of_ble_eq_true rfl), (Nat.le_of_ble_eq_true rfl)⟩) (gP.v (hg.on hS) hP 3 rfl 0 rfl ⟨hP, hD⟩) rfl rfl hl.1 rfl (lv_room (Nat.le_of_ble_eq_true rfl)) dL_hangs_4 ⟨(Nat.le_of_ble_eq_true rfl), (Nat.le_of_ble_eq_true rfl)⟩) hS (fun q _ h => h) (fun q h => h) (fun q _ h => h) (fun E9 ce9 q9 u9 t9 H9 locs9 ht9 hvm9 _ hB9 hz9 hk9 hS9 hc9 hv9 hf9 => ?_) (fun r x t H locs ht hvm hw hB hz hk hS => ?_)
  · skip
    obtain ⟨hE9, hP9, hD9⟩ := hB9
    rw [ht9] at hP9
    refine vx_widen (k := 3) (n := 18) (Nat.le_of_ble_eq_true rfl) (Nat.le_of_ble_eq_true rfl) ?_
    rcases hE9 with ⟨rfl, hR9⟩ | ⟨rfl, hR9⟩
    · skip
      exact absurd ⟨cOk_yes hc, cOk_yes hp⟩ hR9
    · skip
      refine vx_catch (name := "java/lang/IllegalArgumentException") (E := "java/lang/IllegalArgumentException") hown [] (⟨0, 7, 8, 29⟩ : ExceptionTableEntry) [] (htab.trans rfl) (fun z hz => absurd hz List.not_mem_nil) (by decide) (by decide) w_0 (gCast hg.2.1.2.2.2.2.2.2.2.1) hc9 hv9 hf9 ?_
      refine lv_astore (lv' := [(4, .ref q9), (0, .ref (a 0)), (1, .int (nI c)), (2, .int (nI p)), (3, .int ui)]) hx hb dL_hangs_8 hl (by decide) rfl (fun ls hl => ?_)
      refine lv_bipush (v := (-9)) hx hb dL_hangs_10 (by decide) ?_
      exact W.widen (k := 3) (n := 18) (Nat.le_of_ble_eq_true rfl) (Nat.le_of_ble_eq_true rfl) (W.iret (v := (-9)) hx hb hr (fun t ht hW => ⟨⟨(-9), (), rfl, rfl, g_PD ht hP9 hD9⟩, hS9.F ht⟩) hS9.2.2 dL_hangs_12)
  obtain ⟨⟨e1, -⟩, ⟨e2, -⟩, ha9, -⟩ := hw
  rw [← e1, ← e2] at ha9
  exact absurd (ha.symm.trans ha9) (by decide)
set_option maxHeartbeats 4000000 in
set_option maxRecDepth 100000 in
/-- a rule more -/
theorem kL_rolls_0 (l : Launch) (D : va_G) (cI cZ cO cL : ClassId) (dt : Nat) (A : Nat → Prop) (a FA : Nat → Nat) (nC nR nL nF : Nat) (par wt : Nat → Int32) (sk fk : Nat → Nat) (hd : Nat → Option Nat) (rea sig : Nat → Int32) (ck cf cd : Nat → Nat) (cv : Nat → Int32) (nx : Nat → Option Nat) (pb rb cb : Nat) (pv rv kv : Nat → Int32) (L : List Nat) (c p : Nat) (hlt : l.stackTraces = false) (hOk : sOk nC nR nL nF par wt sk fk hd ck cf cd cv nx L) (hc : c < nC) (hp : p < nC) (hne : ¬ c = p) (h5 : nR < 5) : Met l yL_rolls wsL_rolls ({ frames := 8, cells := 3, slots := 18, locals := 134 } : Room) (gP D cI cZ cO cL dt A [.ref (a 0), .int (nI c), .int (nI p)] (fun H => va_P D vwCl (WD cI cO a FA nC nR nL nF par wt (fun r => nI (sk r)) (fun r => nI (fk r)) hd rea sig ++ (WF FA ck cf cd cv nx nF ++ (LR cI pb rb cb pv rv kv))) H ∧ va_D A (WD cI cO a FA nC nR nL nF par wt (fun r => nI (sk r)) (fun r => nI (fk r)) hd rea sig ++ (WF FA ck cf cd cv nx nF ++ (LR cI pb rb cb pv rv kv))))) (va_Qi (fun (r : Int32) (_ : Unit) => r = nI nR) (fun _ t => va_P D vwCl (WD cI cO a FA nC (nR + 1) nL nF par wt (fun r => nI ((va_up sk nR c) r)) (fun r => nI ((va_up fk nR p) r)) hd rea sig ++ (WF FA ck cf cd cv nx nF ++ (LR cI pb rb cb pv rv kv))) t.heap ∧ va_D A (WD cI cO a FA nC (nR + 1) nL nF par wt (fun r => nI ((va_up sk nR c) r)) (fun r => nI ((va_up fk nR p) r)) hd rea sig ++ (WF FA ck cf cd cv nx nF ++ (LR cI pb rb cb pv rv kv)))) A) 3 18 A := by
  refine va_MetW (cc := cL_rolls) (maxL := 4) (ret := (some .int)) (hh := [(0, 6, 7, 29), (0, 6, 11, 35)]) (by decide) rfl ?_
  intro p9 e9 s m9 args below meth c9 s₁ B hml hv
  obtain ⟨rfl, hg, hP, hD⟩ := hv
  have hx := B.exec
  have hb := B.bytes
  have hr := B.returns
  have hts := atoms_spec (ws := wsL_rolls) B.pre
  have htab : c9.exceptionTable.toList = tableOf [(0, 6, 7, 29), (0, 6, 11, 35)] := vx_table (x := yL_rolls) B (hts _ List.mem_cons_self)
  have hown : s.vm.findClass RL = some m9.cls := findClass_of_methodNamed B.named
  have hlocks := B.notSynchronized
  have hK := hg.1
  have hS : va_S A s.heap s.heap [] := va_S.rf
  obtain ⟨⟨hC12, hR5, hL8, hF⟩, ⟨hT, hwt⟩, ⟨hsk12, hfk12, hskC⟩, ⟨hCh, hH, hN, hfL⟩, hck, hcf8, hcd, hcv, hckC⟩ := id hOk
  have hcf : ∀ k, cf k < 2 ^ 31 := fun k => by have := hcf8 k; omega
  have hl := lv_entry ([.ref (a 0), .int (nI c), .int (nI p)]) (n := 4) (Nat.le_of_ble_eq_true rfl)
  rw [lg_entry_eq]
  generalize (lg_sl ([.ref (a 0), .int (nI c), .int (nI p)]) ++ List.replicate (4 - (lg_sl ([.ref (a 0), .int (nI c), .int (nI p)])).length) Slot.unset).toArray = ls at hl ⊢
  have hl : lv_has ls 4 [(0, .ref (a 0)), (1, .int (nI c)), (2, .int (nI p))] := hl
  refine lv_aload_n hx hb dL_rolls_0 rfl (lv_at hl 0 rfl) ?_
  refine lv_iload_n hx hb dL_rolls_1 rfl (lv_at hl 1 rfl) ?_
  refine lv_iload_n hx hb dL_rolls_2 rfl (lv_at hl 2 rfl) ?_
  refine vx_calli (vx_runV (As := [.int (nI c), .int (nI p)]) (rest := []) ⟨hx, hb, hml, hown, hts⟩ (vx_mut (c4_addRoll l D cI cZ cO cL dt A a FA nC nR nL nF par wt (fun r => nI (sk r)) (fun r => nI (fk r)) hd rea sig ck cf cd cv nx (LR cI pb rb cb pv rv kv) (nI c) (nI p) hlt hC12 hL8 hR5)) (cwV 2 hts gL_rolls_X4_addRoll rfl rfl rfl (by decide +kernel) ⟨(Nat.le_of_ble_eq_true rfl), (Nat.le_of_ble_eq_true rfl)⟩) (gP.v (hg.on hS) hP 3 rfl 0 rfl ⟨hP, hD⟩) rfl rfl hl.1 rfl (lv_room (Nat.le_of_ble_eq_true rfl)) dL_rolls_3 ⟨(Nat.le_of_ble_eq_true rfl), (Nat.le_of_ble_eq_true rfl)⟩) hS (fun q _ h => h) (fun q h => h) (fun q _ h => h) (fun E9 ce9 q9 u9 t9 H9 locs9 ht9 hvm9 _ hB9 hz9 hk9 hS9 hc9 hv9 hf9 => ?_) (fun r x t H locs ht hvm hw hB hz hk hS => ?_)
  · skip
    obtain ⟨hE9, hP9, hD9⟩ := hB9
    rw [ht9] at hP9
    refine vx_widen (k := 3) (n := 18) (Nat.le_of_ble_eq_true rfl) (Nat.le_of_ble_eq_true rfl) ?_
    rcases hE9 with ⟨rfl, hR9⟩ | ⟨rfl, hR9⟩ | ⟨rfl, hR9⟩
    · skip
      exact absurd ⟨cOk_yes hc, cOk_yes hp⟩ hR9
    · skip
      exact absurd hR9.2 (fun z => hne ((nI_eq (by omega) (by omega)).mp z))
    · skip
      exact absurd h5 hR9.2.2
  rw [ht] at hB
  obtain ⟨hP, hD⟩ := hB
  refine W.widen (k := 3) (n := 18) (Nat.le_of_ble_eq_true rfl) (Nat.le_of_ble_eq_true rfl) ?_
  obtain ⟨x1, x2⟩ := x
  obtain ⟨⟨e1, g1⟩, ⟨e2, g2⟩, -, -, rfl⟩ := hw
  dsimp only at e1 e2 g1 g2
  obtain rfl := (nI_eq (by omega) (by omega)).mp e1
  obtain rfl := (nI_eq (by omega) (by omega)).mp e2
  rw [upd_nI sk nR c, upd_nI fk nR p] at hP hD
  exact W.widen (k := 3) (n := 18) (Nat.le_of_ble_eq_true rfl) (Nat.le_of_ble_eq_true rfl) (W.iret (v := nI nR) hx hb hr (fun t ht hW => ⟨⟨nI nR, (), rfl, rfl, g_PD ht hP hD⟩, hS.F ht⟩) hS.2.2 dL_rolls_6)
set_option maxHeartbeats 4000000 in
set_option maxRecDepth 100000 in
/-- stock and flow the same -/
theorem kL_rolls_1 (l : Launch) (D : va_G) (cI cZ cO cL : ClassId) (dt : Nat) (A : Nat → Prop) (a FA : Nat → Nat) (nC nR nL nF : Nat) (par wt : Nat → Int32) (sk fk : Nat → Nat) (hd : Nat → Option Nat) (rea sig : Nat → Int32) (ck cf cd : Nat → Nat) (cv : Nat → Int32) (nx : Nat → Option Nat) (pb rb cb : Nat) (pv rv kv : Nat → Int32) (L : List Nat) (c p : Nat) (hlt : l.stackTraces = false) (hOk : sOk nC nR nL nF par wt sk fk hd ck cf cd cv nx L) (hc : c < nC) (hp : p < nC) (heq : c = p) : Met l yL_rolls wsL_rolls ({ frames := 8, cells := 3, slots := 18, locals := 134 } : Room) (gP D cI cZ cO cL dt A [.ref (a 0), .int (nI c), .int (nI p)] (fun H => va_P D vwCl (WD cI cO a FA nC nR nL nF par wt (fun r => nI (sk r)) (fun r => nI (fk r)) hd rea sig ++ (WF FA ck cf cd cv nx nF ++ (LR cI pb rb cb pv rv kv))) H ∧ va_D A (WD cI cO a FA nC nR nL nF par wt (fun r => nI (sk r)) (fun r => nI (fk r)) hd rea sig ++ (WF FA ck cf cd cv nx nF ++ (LR cI pb rb cb pv rv kv))))) (va_Qi (fun (r : Int32) (_ : Unit) => r = -9) (fun _ t => va_P D vwCl (WD cI cO a FA nC nR nL nF par wt (fun r => nI (sk r)) (fun r => nI (fk r)) hd rea sig ++ (WF FA ck cf cd cv nx nF ++ (LR cI pb rb cb pv rv kv))) t.heap ∧ va_D A (WD cI cO a FA nC nR nL nF par wt (fun r => nI (sk r)) (fun r => nI (fk r)) hd rea sig ++ (WF FA ck cf cd cv nx nF ++ (LR cI pb rb cb pv rv kv)))) A) 3 18 A := by
  refine va_MetW (cc := cL_rolls) (maxL := 4) (ret := (some .int)) (hh := [(0, 6, 7, 29), (0, 6, 11, 35)]) (by decide) rfl ?_
  intro p9 e9 s m9 args below meth c9 s₁ B hml hv
  obtain ⟨rfl, hg, hP, hD⟩ := hv
  have hx := B.exec
  have hb := B.bytes
  have hr := B.returns
  have hts := atoms_spec (ws := wsL_rolls) B.pre
  have htab : c9.exceptionTable.toList = tableOf [(0, 6, 7, 29), (0, 6, 11, 35)] := vx_table (x := yL_rolls) B (hts _ List.mem_cons_self)
  have hown : s.vm.findClass RL = some m9.cls := findClass_of_methodNamed B.named
  have hlocks := B.notSynchronized
  have hK := hg.1
  have hS : va_S A s.heap s.heap [] := va_S.rf
  obtain ⟨⟨hC12, hR5, hL8, hF⟩, ⟨hT, hwt⟩, ⟨hsk12, hfk12, hskC⟩, ⟨hCh, hH, hN, hfL⟩, hck, hcf8, hcd, hcv, hckC⟩ := id hOk
  have hcf : ∀ k, cf k < 2 ^ 31 := fun k => by have := hcf8 k; omega
  have w_0 := hts (.classLink RL 29 "java/lang/IllegalArgumentException") (by decide +kernel)
  have hl := lv_entry ([.ref (a 0), .int (nI c), .int (nI p)]) (n := 4) (Nat.le_of_ble_eq_true rfl)
  rw [lg_entry_eq]
  generalize (lg_sl ([.ref (a 0), .int (nI c), .int (nI p)]) ++ List.replicate (4 - (lg_sl ([.ref (a 0), .int (nI c), .int (nI p)])).length) Slot.unset).toArray = ls at hl ⊢
  have hl : lv_has ls 4 [(0, .ref (a 0)), (1, .int (nI c)), (2, .int (nI p))] := hl
  refine lv_aload_n hx hb dL_rolls_0 rfl (lv_at hl 0 rfl) ?_
  refine lv_iload_n hx hb dL_rolls_1 rfl (lv_at hl 1 rfl) ?_
  refine lv_iload_n hx hb dL_rolls_2 rfl (lv_at hl 2 rfl) ?_
  refine vx_calli (vx_runV (As := [.int (nI c), .int (nI p)]) (rest := []) ⟨hx, hb, hml, hown, hts⟩ (vx_mut (c4_addRoll l D cI cZ cO cL dt A a FA nC nR nL nF par wt (fun r => nI (sk r)) (fun r => nI (fk r)) hd rea sig ck cf cd cv nx (LR cI pb rb cb pv rv kv) (nI c) (nI p) hlt hC12 hL8 hR5)) (cwV 2 hts gL_rolls_X4_addRoll rfl rfl rfl (by decide +kernel) ⟨(Nat.le_of_ble_eq_true rfl), (Nat.le_of_ble_eq_true rfl)⟩) (gP.v (hg.on hS) hP 3 rfl 0 rfl ⟨hP, hD⟩) rfl rfl hl.1 rfl (lv_room (Nat.le_of_ble_eq_true rfl)) dL_rolls_3 ⟨(Nat.le_of_ble_eq_true rfl), (Nat.le_of_ble_eq_true rfl)⟩) hS (fun q _ h => h) (fun q h => h) (fun q _ h => h) (fun E9 ce9 q9 u9 t9 H9 locs9 ht9 hvm9 _ hB9 hz9 hk9 hS9 hc9 hv9 hf9 => ?_) (fun r x t H locs ht hvm hw hB hz hk hS => ?_)
  · skip
    obtain ⟨hE9, hP9, hD9⟩ := hB9
    rw [ht9] at hP9
    refine vx_widen (k := 3) (n := 18) (Nat.le_of_ble_eq_true rfl) (Nat.le_of_ble_eq_true rfl) ?_
    rcases hE9 with ⟨rfl, hR9⟩ | ⟨rfl, hR9⟩ | ⟨rfl, hR9⟩
    · skip
      exact absurd ⟨cOk_yes hc, cOk_yes hp⟩ hR9
    · skip
      refine vx_catch (name := "java/lang/IllegalArgumentException") (E := "java/lang/IllegalArgumentException") hown [] (⟨0, 6, 7, 29⟩ : ExceptionTableEntry) [(⟨0, 6, 11, 35⟩ : ExceptionTableEntry)] (htab.trans rfl) (fun z hz => absurd hz List.not_mem_nil) (by decide) (by decide) w_0 (gCast hg.2.1.2.2.2.2.2.2.2.1) hc9 hv9 hf9 ?_
      refine lv_astore_n (lv' := [(3, .ref q9), (0, .ref (a 0)), (1, .int (nI c)), (2, .int (nI p))]) hx hb dL_rolls_7 rfl hl (by decide) rfl (fun ls hl => ?_)
      refine lv_bipush (v := (-9)) hx hb dL_rolls_8 (by decide) ?_
      exact W.widen (k := 3) (n := 18) (Nat.le_of_ble_eq_true rfl) (Nat.le_of_ble_eq_true rfl) (W.iret (v := (-9)) hx hb hr (fun t ht hW => ⟨⟨(-9), (), rfl, rfl, g_PD ht hP9 hD9⟩, hS9.F ht⟩) hS9.2.2 dL_rolls_10)
    · skip
      exact absurd (congrArg nI heq) hR9.2.1
  exact absurd (congrArg nI heq) hw.2.2.1
set_option maxHeartbeats 4000000 in
set_option maxRecDepth 100000 in
/-- there are five -/
theorem kL_rolls_2 (l : Launch) (D : va_G) (cI cZ cO cL : ClassId) (dt : Nat) (A : Nat → Prop) (a FA : Nat → Nat) (nC nR nL nF : Nat) (par wt : Nat → Int32) (sk fk : Nat → Nat) (hd : Nat → Option Nat) (rea sig : Nat → Int32) (ck cf cd : Nat → Nat) (cv : Nat → Int32) (nx : Nat → Option Nat) (pb rb cb : Nat) (pv rv kv : Nat → Int32) (L : List Nat) (c p : Nat) (hlt : l.stackTraces = false) (hOk : sOk nC nR nL nF par wt sk fk hd ck cf cd cv nx L) (hc : c < nC) (hp : p < nC) (hne : ¬ c = p) (h5 : ¬ nR < 5) : Met l yL_rolls wsL_rolls ({ frames := 8, cells := 3, slots := 18, locals := 134 } : Room) (gP D cI cZ cO cL dt A [.ref (a 0), .int (nI c), .int (nI p)] (fun H => va_P D vwCl (WD cI cO a FA nC nR nL nF par wt (fun r => nI (sk r)) (fun r => nI (fk r)) hd rea sig ++ (WF FA ck cf cd cv nx nF ++ (LR cI pb rb cb pv rv kv))) H ∧ va_D A (WD cI cO a FA nC nR nL nF par wt (fun r => nI (sk r)) (fun r => nI (fk r)) hd rea sig ++ (WF FA ck cf cd cv nx nF ++ (LR cI pb rb cb pv rv kv))))) (va_Qi (fun (r : Int32) (_ : Unit) => r = -8) (fun _ t => va_P D vwCl (WD cI cO a FA nC nR nL nF par wt (fun r => nI (sk r)) (fun r => nI (fk r)) hd rea sig ++ (WF FA ck cf cd cv nx nF ++ (LR cI pb rb cb pv rv kv))) t.heap ∧ va_D A (WD cI cO a FA nC nR nL nF par wt (fun r => nI (sk r)) (fun r => nI (fk r)) hd rea sig ++ (WF FA ck cf cd cv nx nF ++ (LR cI pb rb cb pv rv kv)))) A) 3 18 A := by
  refine va_MetW (cc := cL_rolls) (maxL := 4) (ret := (some .int)) (hh := [(0, 6, 7, 29), (0, 6, 11, 35)]) (by decide) rfl ?_
  intro p9 e9 s m9 args below meth c9 s₁ B hml hv
  obtain ⟨rfl, hg, hP, hD⟩ := hv
  have hx := B.exec
  have hb := B.bytes
  have hr := B.returns
  have hts := atoms_spec (ws := wsL_rolls) B.pre
  have htab : c9.exceptionTable.toList = tableOf [(0, 6, 7, 29), (0, 6, 11, 35)] := vx_table (x := yL_rolls) B (hts _ List.mem_cons_self)
  have hown : s.vm.findClass RL = some m9.cls := findClass_of_methodNamed B.named
  have hlocks := B.notSynchronized
  have hK := hg.1
  have hS : va_S A s.heap s.heap [] := va_S.rf
  obtain ⟨⟨hC12, hR5, hL8, hF⟩, ⟨hT, hwt⟩, ⟨hsk12, hfk12, hskC⟩, ⟨hCh, hH, hN, hfL⟩, hck, hcf8, hcd, hcv, hckC⟩ := id hOk
  have hcf : ∀ k, cf k < 2 ^ 31 := fun k => by have := hcf8 k; omega
  have w_0 := hts (.classLink RL 29 "java/lang/IllegalArgumentException") (by decide +kernel)
  have w_1 := hts (.classLink RL 35 "java/lang/IllegalStateException") (by decide +kernel)
  have hl := lv_entry ([.ref (a 0), .int (nI c), .int (nI p)]) (n := 4) (Nat.le_of_ble_eq_true rfl)
  rw [lg_entry_eq]
  generalize (lg_sl ([.ref (a 0), .int (nI c), .int (nI p)]) ++ List.replicate (4 - (lg_sl ([.ref (a 0), .int (nI c), .int (nI p)])).length) Slot.unset).toArray = ls at hl ⊢
  have hl : lv_has ls 4 [(0, .ref (a 0)), (1, .int (nI c)), (2, .int (nI p))] := hl
  refine lv_aload_n hx hb dL_rolls_0 rfl (lv_at hl 0 rfl) ?_
  refine lv_iload_n hx hb dL_rolls_1 rfl (lv_at hl 1 rfl) ?_
  refine lv_iload_n hx hb dL_rolls_2 rfl (lv_at hl 2 rfl) ?_
  refine vx_calli (vx_runV (As := [.int (nI c), .int (nI p)]) (rest := []) ⟨hx, hb, hml, hown, hts⟩ (vx_mut (c4_addRoll l D cI cZ cO cL dt A a FA nC nR nL nF par wt (fun r => nI (sk r)) (fun r => nI (fk r)) hd rea sig ck cf cd cv nx (LR cI pb rb cb pv rv kv) (nI c) (nI p) hlt hC12 hL8 hR5)) (cwV 2 hts gL_rolls_X4_addRoll rfl rfl rfl (by decide +kernel) ⟨(Nat.le_of_ble_eq_true rfl), (Nat.le_of_ble_eq_true rfl)⟩) (gP.v (hg.on hS) hP 3 rfl 0 rfl ⟨hP, hD⟩) rfl rfl hl.1 rfl (lv_room (Nat.le_of_ble_eq_true rfl)) dL_rolls_3 ⟨(Nat.le_of_ble_eq_true rfl), (Nat.le_of_ble_eq_true rfl)⟩) hS (fun q _ h => h) (fun q h => h) (fun q _ h => h) (fun E9 ce9 q9 u9 t9 H9 locs9 ht9 hvm9 _ hB9 hz9 hk9 hS9 hc9 hv9 hf9 => ?_) (fun r x t H locs ht hvm hw hB hz hk hS => ?_)
  · skip
    obtain ⟨hE9, hP9, hD9⟩ := hB9
    rw [ht9] at hP9
    refine vx_widen (k := 3) (n := 18) (Nat.le_of_ble_eq_true rfl) (Nat.le_of_ble_eq_true rfl) ?_
    rcases hE9 with ⟨rfl, hR9⟩ | ⟨rfl, hR9⟩ | ⟨rfl, hR9⟩
    · skip
      exact absurd ⟨cOk_yes hc, cOk_yes hp⟩ hR9
    · skip
      exact absurd hR9.2 (fun z => hne ((nI_eq (by omega) (by omega)).mp z))
    · skip
      refine vx_catch (name := "java/lang/IllegalStateException") (E := "java/lang/IllegalStateException") hown [(⟨0, 6, 7, 29⟩ : ExceptionTableEntry)] (⟨0, 6, 11, 35⟩ : ExceptionTableEntry) [] (htab.trans rfl) (fun z hz => by rw [List.mem_singleton.mp hz]; exact Or.inr ⟨by decide, "java/lang/IllegalArgumentException", w_0, hg.2.1.2.2.2.2.2.2.2.2.2.2.2.2.1⟩) (by decide) (by decide) w_1 (gCast hg.2.1.2.2.2.2.2.2.1) hc9 hv9 hf9 ?_
      refine lv_astore_n (lv' := [(3, .ref q9), (0, .ref (a 0)), (1, .int (nI c)), (2, .int (nI p))]) hx hb dL_rolls_11 rfl hl (by decide) rfl (fun ls hl => ?_)
      refine lv_bipush (v := (-8)) hx hb dL_rolls_12 (by decide) ?_
      exact W.widen (k := 3) (n := 18) (Nat.le_of_ble_eq_true rfl) (Nat.le_of_ble_eq_true rfl) (W.iret (v := (-8)) hx hb hr (fun t ht hW => ⟨⟨(-8), (), rfl, rfl, g_PD ht hP9 hD9⟩, hS9.F ht⟩) hS9.2.2 dL_rolls_14)
  exact absurd hw.2.2.2.1 h5
set_option maxHeartbeats 4000000 in
set_option maxRecDepth 100000 in
/-- a filing more -/
theorem kL_files_0 (l : Launch) (D : va_G) (cI cZ cO cL : ClassId) (dt : Nat) (A : Nat → Prop) (a FA : Nat → Nat) (nC nR nL nF : Nat) (par wt : Nat → Int32) (sk fk : Nat → Nat) (hd : Nat → Option Nat) (rea sig : Nat → Int32) (ck cf cd : Nat → Nat) (cv : Nat → Int32) (nx : Nat → Option Nat) (pb rb cb : Nat) (pv rv kv : Nat → Int32) (L : List Nat)  (hlt : l.stackTraces = false) (hOk : sOk nC nR nL nF par wt sk fk hd ck cf cd cv nx L) (h7 : nL < 7) : Met l yL_files wsL_files ({ frames := 7, cells := 1, slots := 6, locals := 110 } : Room) (gP D cI cZ cO cL dt A [.ref (a 0)] (fun H => va_P D vwCl (WD cI cO a FA nC nR nL nF par wt (fun r => nI (sk r)) (fun r => nI (fk r)) hd rea sig ++ (WF FA ck cf cd cv nx nF ++ (LR cI pb rb cb pv rv kv))) H ∧ va_D A (WD cI cO a FA nC nR nL nF par wt (fun r => nI (sk r)) (fun r => nI (fk r)) hd rea sig ++ (WF FA ck cf cd cv nx nF ++ (LR cI pb rb cb pv rv kv))))) (va_Qi (fun (r : Int32) (_ : Unit) => r = nI (nL + 1)) (fun _ t => va_P D vwCl (WD cI cO a FA nC nR (nL + 1) nF par wt (fun r => nI (sk r)) (fun r => nI (fk r)) hd rea sig ++ (WF FA ck cf cd cv nx nF ++ (LR cI pb rb cb pv rv kv))) t.heap ∧ va_D A (WD cI cO a FA nC nR (nL + 1) nF par wt (fun r => nI (sk r)) (fun r => nI (fk r)) hd rea sig ++ (WF FA ck cf cd cv nx nF ++ (LR cI pb rb cb pv rv kv)))) A) 1 6 A := by
  refine va_MetW (cc := cL_files) (maxL := 2) (ret := (some .int)) (hh := [(0, 4, 5, 35)]) (by decide) rfl ?_
  intro p9 e9 s m9 args below meth c9 s₁ B hml hv
  obtain ⟨rfl, hg, hP, hD⟩ := hv
  have hx := B.exec
  have hb := B.bytes
  have hr := B.returns
  have hts := atoms_spec (ws := wsL_files) B.pre
  have htab : c9.exceptionTable.toList = tableOf [(0, 4, 5, 35)] := vx_table (x := yL_files) B (hts _ List.mem_cons_self)
  have hown : s.vm.findClass RL = some m9.cls := findClass_of_methodNamed B.named
  have hlocks := B.notSynchronized
  have hK := hg.1
  have hS : va_S A s.heap s.heap [] := va_S.rf
  obtain ⟨⟨hC12, hR5, hL8, hF⟩, ⟨hT, hwt⟩, ⟨hsk12, hfk12, hskC⟩, ⟨hCh, hH, hN, hfL⟩, hck, hcf8, hcd, hcv, hckC⟩ := id hOk
  have hcf : ∀ k, cf k < 2 ^ 31 := fun k => by have := hcf8 k; omega
  have hl := lv_entry ([.ref (a 0)]) (n := 2) (Nat.le_of_ble_eq_true rfl)
  rw [lg_entry_eq]
  generalize (lg_sl ([.ref (a 0)]) ++ List.replicate (2 - (lg_sl ([.ref (a 0)])).length) Slot.unset).toArray = ls at hl ⊢
  have hl : lv_has ls 2 [(0, .ref (a 0))] := hl
  refine lv_aload_n hx hb dL_files_0 rfl (lv_at hl 0 rfl) ?_
  refine vx_calli (vx_runV (As := []) (rest := []) ⟨hx, hb, hml, hown, hts⟩ (vx_mut (c4_file l D cI cZ cO cL dt A a FA nC nR nL nF par wt (fun r => nI (sk r)) (fun r => nI (fk r)) hd rea sig ck cf cd cv nx (LR cI pb rb cb pv rv kv) hlt hC12 hL8)) (cwV 0 hts gL_files_X4_file rfl rfl rfl (by decide +kernel) ⟨(Nat.le_of_ble_eq_true rfl), (Nat.le_of_ble_eq_true rfl)⟩) (gP.v (hg.on hS) hP 3 rfl 0 rfl ⟨hP, hD⟩) rfl rfl hl.1 rfl (lv_room (Nat.le_of_ble_eq_true rfl)) dL_files_1 ⟨(Nat.le_of_ble_eq_true rfl), (Nat.le_of_ble_eq_true rfl)⟩) hS (fun q _ h => h) (fun q h => h) (fun q _ h => h) (fun E9 ce9 q9 u9 t9 H9 locs9 ht9 hvm9 _ hB9 hz9 hk9 hS9 hc9 hv9 hf9 => ?_) (fun r x t H locs ht hvm hw hB hz hk hS => ?_)
  · skip
    obtain ⟨hE9, hP9, hD9⟩ := hB9
    rw [ht9] at hP9
    refine vx_widen (k := 1) (n := 6) (Nat.le_of_ble_eq_true rfl) (Nat.le_of_ble_eq_true rfl) ?_
    rcases hE9 with ⟨rfl, hR9⟩
    · skip
      exact absurd h7 hR9
  rw [ht] at hB
  obtain ⟨hP, hD⟩ := hB
  refine W.widen (k := 1) (n := 6) (Nat.le_of_ble_eq_true rfl) (Nat.le_of_ble_eq_true rfl) ?_
  obtain ⟨-, rfl⟩ := hw
  exact W.widen (k := 1) (n := 6) (Nat.le_of_ble_eq_true rfl) (Nat.le_of_ble_eq_true rfl) (W.iret (v := nI (nL + 1)) hx hb hr (fun t ht hW => ⟨⟨nI (nL + 1), (), rfl, rfl, g_PD ht hP hD⟩, hS.F ht⟩) hS.2.2 dL_files_4)
set_option maxHeartbeats 4000000 in
set_option maxRecDepth 100000 in
/-- there are eight -/
theorem kL_files_1 (l : Launch) (D : va_G) (cI cZ cO cL : ClassId) (dt : Nat) (A : Nat → Prop) (a FA : Nat → Nat) (nC nR nL nF : Nat) (par wt : Nat → Int32) (sk fk : Nat → Nat) (hd : Nat → Option Nat) (rea sig : Nat → Int32) (ck cf cd : Nat → Nat) (cv : Nat → Int32) (nx : Nat → Option Nat) (pb rb cb : Nat) (pv rv kv : Nat → Int32) (L : List Nat)  (hlt : l.stackTraces = false) (hOk : sOk nC nR nL nF par wt sk fk hd ck cf cd cv nx L) (h7 : ¬ nL < 7) : Met l yL_files wsL_files ({ frames := 7, cells := 1, slots := 6, locals := 110 } : Room) (gP D cI cZ cO cL dt A [.ref (a 0)] (fun H => va_P D vwCl (WD cI cO a FA nC nR nL nF par wt (fun r => nI (sk r)) (fun r => nI (fk r)) hd rea sig ++ (WF FA ck cf cd cv nx nF ++ (LR cI pb rb cb pv rv kv))) H ∧ va_D A (WD cI cO a FA nC nR nL nF par wt (fun r => nI (sk r)) (fun r => nI (fk r)) hd rea sig ++ (WF FA ck cf cd cv nx nF ++ (LR cI pb rb cb pv rv kv))))) (va_Qi (fun (r : Int32) (_ : Unit) => r = -8) (fun _ t => va_P D vwCl (WD cI cO a FA nC nR nL nF par wt (fun r => nI (sk r)) (fun r => nI (fk r)) hd rea sig ++ (WF FA ck cf cd cv nx nF ++ (LR cI pb rb cb pv rv kv))) t.heap ∧ va_D A (WD cI cO a FA nC nR nL nF par wt (fun r => nI (sk r)) (fun r => nI (fk r)) hd rea sig ++ (WF FA ck cf cd cv nx nF ++ (LR cI pb rb cb pv rv kv)))) A) 1 6 A := by
  refine va_MetW (cc := cL_files) (maxL := 2) (ret := (some .int)) (hh := [(0, 4, 5, 35)]) (by decide) rfl ?_
  intro p9 e9 s m9 args below meth c9 s₁ B hml hv
  obtain ⟨rfl, hg, hP, hD⟩ := hv
  have hx := B.exec
  have hb := B.bytes
  have hr := B.returns
  have hts := atoms_spec (ws := wsL_files) B.pre
  have htab : c9.exceptionTable.toList = tableOf [(0, 4, 5, 35)] := vx_table (x := yL_files) B (hts _ List.mem_cons_self)
  have hown : s.vm.findClass RL = some m9.cls := findClass_of_methodNamed B.named
  have hlocks := B.notSynchronized
  have hK := hg.1
  have hS : va_S A s.heap s.heap [] := va_S.rf
  obtain ⟨⟨hC12, hR5, hL8, hF⟩, ⟨hT, hwt⟩, ⟨hsk12, hfk12, hskC⟩, ⟨hCh, hH, hN, hfL⟩, hck, hcf8, hcd, hcv, hckC⟩ := id hOk
  have hcf : ∀ k, cf k < 2 ^ 31 := fun k => by have := hcf8 k; omega
  have w_0 := hts (.classLink RL 35 "java/lang/IllegalStateException") (by decide +kernel)
  have hl := lv_entry ([.ref (a 0)]) (n := 2) (Nat.le_of_ble_eq_true rfl)
  rw [lg_entry_eq]
  generalize (lg_sl ([.ref (a 0)]) ++ List.replicate (2 - (lg_sl ([.ref (a 0)])).length) Slot.unset).toArray = ls at hl ⊢
  have hl : lv_has ls 2 [(0, .ref (a 0))] := hl
  refine lv_aload_n hx hb dL_files_0 rfl (lv_at hl 0 rfl) ?_
  refine vx_calli (vx_runV (As := []) (rest := []) ⟨hx, hb, hml, hown, hts⟩ (vx_mut (c4_file l D cI cZ cO cL dt A a FA nC nR nL nF par wt (fun r => nI (sk r)) (fun r => nI (fk r)) hd rea sig ck cf cd cv nx (LR cI pb rb cb pv rv kv) hlt hC12 hL8)) (cwV 0 hts gL_files_X4_file rfl rfl rfl (by decide +kernel) ⟨(Nat.le_of_ble_eq_true rfl), (Nat.le_of_ble_eq_true rfl)⟩) (gP.v (hg.on hS) hP 3 rfl 0 rfl ⟨hP, hD⟩) rfl rfl hl.1 rfl (lv_room (Nat.le_of_ble_eq_true rfl)) dL_files_1 ⟨(Nat.le_of_ble_eq_true rfl), (Nat.le_of_ble_eq_true rfl)⟩) hS (fun q _ h => h) (fun q h => h) (fun q _ h => h) (fun E9 ce9 q9 u9 t9 H9 locs9 ht9 hvm9 _ hB9 hz9 hk9 hS9 hc9 hv9 hf9 => ?_) (fun r x t H locs ht hvm hw hB hz hk hS => ?_)
  · skip
    obtain ⟨hE9, hP9, hD9⟩ := hB9
    rw [ht9] at hP9
    refine vx_widen (k := 1) (n := 6) (Nat.le_of_ble_eq_true rfl) (Nat.le_of_ble_eq_true rfl) ?_
    rcases hE9 with ⟨rfl, hR9⟩
    · skip
      refine vx_catch (name := "java/lang/IllegalStateException") (E := "java/lang/IllegalStateException") hown [] (⟨0, 4, 5, 35⟩ : ExceptionTableEntry) [] (htab.trans rfl) (fun z hz => absurd hz List.not_mem_nil) (by decide) (by decide) w_0 (gCast hg.2.1.2.2.2.2.2.2.1) hc9 hv9 hf9 ?_
      refine lv_astore_n (lv' := [(1, .ref q9), (0, .ref (a 0))]) hx hb dL_files_5 rfl hl (by decide) rfl (fun ls hl => ?_)
      refine lv_bipush (v := (-8)) hx hb dL_files_6 (by decide) ?_
      exact W.widen (k := 1) (n := 6) (Nat.le_of_ble_eq_true rfl) (Nat.le_of_ble_eq_true rfl) (W.iret (v := (-8)) hx hb hr (fun t ht hW => ⟨⟨(-8), (), rfl, rfl, g_PD ht hP9 hD9⟩, hS9.F ht⟩) hS9.2.2 dL_files_8)
  exact absurd hw.1 h7
set_option maxHeartbeats 4000000 in
set_option maxRecDepth 100000 in
/-- it is another, or hangs under it -/
theorem kL_hangsUnder (l : Launch) (D : va_G) (cI cZ cO cL : ClassId) (dt : Nat) (A : Nat → Prop) (a FA : Nat → Nat) (nC nR nL nF : Nat) (par wt : Nat → Int32) (sk fk : Nat → Nat) (hd : Nat → Option Nat) (rea sig : Nat → Int32) (ck cf cd : Nat → Nat) (cv : Nat → Int32) (nx : Nat → Option Nat) (pb rb cb : Nat) (pv rv kv : Nat → Int32) (L : List Nat) (c o : Nat) (hp9 : pOk nC par wt pv) (hC12 : nC ≤ 12) (hT : tree nC par L) (hc : c < nC) (ho : o < nC) : Met l yL_hangsUnder wsL_hangsUnder ({ frames := 1, cells := 0, slots := 0, locals := 21 } : Room) (gP D cI cZ cO cL dt A [.ref pb, .int (nI c), .int (nI o)] (fun H => va_P D vwCl (WD cI cO a FA nC nR nL nF par wt (fun r => nI (sk r)) (fun r => nI (fk r)) hd rea sig ++ (WF FA ck cf cd cv nx nF ++ (LR cI pb rb cb pv rv kv))) H)) (vp_Si (fun r => r = bI (anc par (nI o) L (nI c) = true))) 0 0 (fun _ => False) := by
  refine Met.ofW (cc := cL_hangsUnder) (maxL := 4) (ret := (some .boolean)) (by decide) rfl ?_
  intro p9 e9 s m9 args below meth c9 s₁ B hml hv
  obtain ⟨rfl, hg, hP⟩ := hv
  have hx := B.exec
  have hb := B.bytes
  have hr := B.returns
  have hts := atoms_spec (ws := wsL_hangsUnder) B.pre
  have hown : s.vm.findClass RL = some m9.cls := findClass_of_methodNamed B.named
  have hlocks := B.notSynchronized
  have hK := hg.1
  have hS : va_S A s.heap s.heap [] := va_S.rf
  have hl := lv_entry ([.ref pb, .int (nI c), .int (nI o)]) (n := 4) (Nat.le_of_ble_eq_true rfl)
  rw [lg_entry_eq]
  generalize (lg_sl ([.ref pb, .int (nI c), .int (nI o)]) ++ List.replicate (4 - (lg_sl ([.ref pb, .int (nI c), .int (nI o)])).length) Slot.unset).toArray = ls at hl ⊢
  have hl : lv_has ls 4 [(0, .ref pb), (1, .int (nI c)), (2, .int (nI o))] := hl
  have lp : ∀ (n : Nat) (x : Int32) (L' : List Nat), L'.length < n → topo par L' → L'.Nodup → (∀ k, k ∈ L' → k < nC) → atL L' x → anc par (nI o) L (nI c) = anc par (nI o) L' x → ∀ ls : Array Slot, lv_has ls 4 [(3, .int x), (0, .ref pb), (1, .int (nI c)), (2, .int (nI o))] → W p9 l e9 (headSpec wsL_hangsUnder ({ frames := 1, cells := 0, slots := 0, locals := 21 } : Room)).room s m9 ([.ref pb, .int (nI c), .int (nI o)] : List Value).toArray below meth c9 s.heap [] 0 0 (MQ below (vp_Si (fun r => r = bI (anc par (nI o) L (nI c) = true))) ([.ref pb, .int (nI c), .int (nI o)] : List Value).toArray s 0 0 (fun _ => False)) (F0 m9 2 ls []) := by
    intro n
    induction n with
    | zero => intro x L' h1; exact absurd h1 (by omega)
    | succ n ih =>
      intro x L' h1 h3 h4 h5 h6 h7 ls hl
      have hb5 : ∀ k, k ∈ L' → k < 2 ^ 31 := fun k hk => by have := h5 k hk; omega
      refine lv_iload_n hx hb dL_hangsUnder_2 rfl (lv_at hl 0 rfl) ?_
      refine lv_if_lt (tgt := 20) hx hb dL_hangsUnder_3 (by decide) (fun c_3 => ?_) (fun c_3 => ?_)
      · skip
        have hx1 : x = -1 := by
          rcases h6 with q | ⟨j, hj, q⟩
          · exact q
          · rw [q] at c_3; exact absurd c_3 (nI_pos (hb5 j hj))
        subst hx1
        have hf : anc par (nI o) L (nI c) = false := by rw [h7]; exact anc_m1 hb5
        refine lv_iload_n hx hb dL_hangsUnder_20 rfl (lv_at hl 0 rfl) ?_
        refine lv_iload_n hx hb dL_hangsUnder_21 rfl (lv_at hl 3 rfl) ?_
        refine lv_icmp_ne (tgt := 29) hx hb dL_hangsUnder_22 (by decide) (fun c_22 => ?_) (fun c_22 => ?_)
        · skip
          refine lv_iconst (v := 0) hx hb dL_hangsUnder_29 (by decide) ?_
          exact W.zret (v := 0) hx hb hr (rfl) (fun t ht hW => ⟨0, rfl, (bI_f (by rw [hf]; decide)), ht⟩) (fun q h => nomatch h) dL_hangsUnder_30
        · skip
          exact absurd c_22.symm (nI_nm1 (by omega))
      · skip
        have hx1 : ∃ j, j ∈ L' ∧ x = nI j := by
          rcases h6 with q | q
          · rw [q] at c_3; exact absurd (by decide) c_3
          · exact q
        obtain ⟨j, hj, rfl⟩ := hx1
        obtain ⟨L2, g1, g2, g3, g4, g5, g6, g7⟩ := anc_step h3 h4 hb5 hj
        rw [g7] at h7
        have hjC := h5 j hj
        refine lv_iload_n hx hb dL_hangsUnder_6 rfl (lv_at hl 0 rfl) ?_
        refine lv_iload_n hx hb dL_hangsUnder_7 rfl (lv_at hl 3 rfl) ?_
        refine lv_icmp_eq (tgt := 20) hx hb dL_hangsUnder_8 (by decide) (fun c_8 => ?_) (fun c_8 => ?_)
        · skip
          have hf : anc par (nI o) L (nI c) = true := by rw [h7, if_pos c_8]
          refine lv_iload_n hx hb dL_hangsUnder_20 rfl (lv_at hl 0 rfl) ?_
          refine lv_iload_n hx hb dL_hangsUnder_21 rfl (lv_at hl 3 rfl) ?_
          refine lv_icmp_ne (tgt := 29) hx hb dL_hangsUnder_22 (by decide) (fun c_22 => ?_) (fun c_22 => ?_)
          · skip
            exact absurd c_8 c_22
          · skip
            refine lv_iconst (v := 1) hx hb dL_hangsUnder_25 (by decide) ?_
            refine lv_goto (tgt := 30) hx hb dL_hangsUnder_26 (by decide) ?_
            exact W.zret (v := 1) hx hb hr (rfl) (fun t ht hW => ⟨1, rfl, (bI_t hf), ht⟩) (fun q h => nomatch h) dL_hangsUnder_30
        · skip
          rw [if_neg c_8] at h7
          refine lv_aload_n hx hb dL_hangsUnder_11 rfl (lv_at hl 1 rfl) ?_
          refine lv_iload_n hx hb dL_hangsUnder_12 rfl (lv_at hl 0 rfl) ?_
          refine g_csi (va_runS (As := [.ref pb, .int (nI j)]) (rest := []) ⟨hx, hb, hml, hown, hts⟩ (kL_under l D cI cZ cO cL dt A a FA nC nR nL nF par wt sk fk hd rea sig ck cf cd cv nx pb rb cb pv rv kv L j hp9 hC12 hjC) (va_cwS 2 hts gL_hangsUnder_L_under rfl rfl rfl (by decide +kernel) ⟨(Nat.le_of_ble_eq_true rfl), (Nat.le_of_ble_eq_true rfl)⟩) (gP.s (hg.on hS) hP) rfl rfl hl.1 rfl (lv_room (Nat.le_of_ble_eq_true rfl)) dL_hangsUnder_13 ⟨(Nat.le_of_ble_eq_true rfl), (Nat.le_of_ble_eq_true rfl)⟩) (fun r_1 hr_1 => ?_)
          obtain rfl : r_1 = par j := hr_1
          refine lv_istore_n (lv' := [(3, .int (par j)), (0, .ref pb), (1, .int (nI c)), (2, .int (nI o))]) hx hb dL_hangsUnder_16 rfl hl (by decide) rfl (fun ls hl => ?_)
          refine lv_goto (tgt := 2) hx hb dL_hangsUnder_17 (by decide) ?_
          exact ih (par j) L2 (by omega) g2 g3 (fun k hk => h5 k (g4 k hk)) g6 h7 _ (lv_sub hl [0, 1, 2, 3] rfl)
  refine lv_iload_n hx hb dL_hangsUnder_0 rfl (lv_at hl 1 rfl) ?_
  refine lv_istore_n (lv' := [(3, .int (nI c)), (0, .ref pb), (1, .int (nI c)), (2, .int (nI o))]) hx hb dL_hangsUnder_1 rfl hl (by decide) rfl (fun ls hl => ?_)
  exact lp (L.length + 1) (nI c) L (by omega) hT.1 hT.2.1 (fun k hk => (hT.2.2.1 k).mp hk) (Or.inr ⟨c, (hT.2.2.1 c).mpr hc, rfl⟩) rfl _ (lv_sub hl [0, 1, 2, 3] rfl)
