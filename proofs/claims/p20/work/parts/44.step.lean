set_option maxHeartbeats 4000000 in
set_option maxRecDepth 100000 in
/-- a step -/
theorem kL_step (l : Launch) (D : va_G) (cI cZ cO cL : ClassId) (dt : Nat) (A : Nat → Prop) (a FA : Nat → Nat) (nC nR nL nF : Nat) (par wt : Nat → Int32) (sk fk : Nat → Nat) (hd : Nat → Option Nat) (rea sig : Nat → Int32) (ck cf cd : Nat → Nat) (cv : Nat → Int32) (nx : Nat → Option Nat) (pb rb cb : Nat) (pv rv kv : Nat → Int32) (L : List Nat) (what x y : Nat) (hlt : l.stackTraces = false) (hOk : sOk nC nR nL nF par wt sk fk hd ck cf cd cv nx L) (hpk : pOk nC par wt pv) (hrk : rOk2 nR sk fk rv) (hkk : kOk nC nR nL nF kv) (hwb : what < 24) (hxb : x < 1073741824) (hyb : y < 1073741824) : Met l yL_step wsL_step ({ frames := 12, cells := 34, slots := 204, locals := 245 } : Room) (gP D cI cZ cO cL dt A [.ref (a 0), .int (nI what), .int (nI x), .int (nI y), .ref pb, .ref rb, .ref cb] (fun H => va_P D vwCl (WD cI cO a FA nC nR nL nF par wt (fun r => nI (sk r)) (fun r => nI (fk r)) hd rea sig ++ (WF FA ck cf cd cv nx nF ++ (LR cI pb rb cb pv rv kv))) H ∧ va_D A (WD cI cO a FA nC nR nL nF par wt (fun r => nI (sk r)) (fun r => nI (fk r)) hd rea sig ++ (WF FA ck cf cd cv nx nF ++ (LR cI pb rb cb pv rv kv))))) (va_Qi (fun (r : Int32) (_ : Unit) => r = 1) (fun _ t => lI D cI cO A a pb rb cb 1 t.heap) A) 34 204 A := by
  refine Met.ofW (cc := cL_step) (maxL := 12) (ret := (some .boolean)) (by decide) rfl ?_
  intro p9 e9 s m9 args below meth c9 s₁ B hml hv
  obtain ⟨rfl, hg, hP, hD⟩ := hv
  have hx := B.exec
  have hb := B.bytes
  have hr := B.returns
  have hts := atoms_spec (ws := wsL_step) B.pre
  have hown : s.vm.findClass RL = some m9.cls := findClass_of_methodNamed B.named
  have hlocks := B.notSynchronized
  have hK := hg.1
  have hS : va_S A s.heap s.heap [] := va_S.rf
  obtain ⟨⟨hC12, hR5, hL8, hF⟩, ⟨hT, hwt⟩, ⟨hsk12, hfk12, hskC⟩, ⟨hCh, hH, hN, hfL⟩, hck, hcf8, hcd, hcv, hckC⟩ := id hOk
  have hcf : ∀ k, cf k < 2 ^ 31 := fun k => by have := hcf8 k; omega
  obtain ⟨hk0, hk1, hk2, hk3⟩ := id hkk
  have hl := lv_entry ([.ref (a 0), .int (nI what), .int (nI x), .int (nI y), .ref pb, .ref rb, .ref cb]) (n := 12) (Nat.le_of_ble_eq_true rfl)
  rw [lg_entry_eq]
  generalize (lg_sl ([.ref (a 0), .int (nI what), .int (nI x), .int (nI y), .ref pb, .ref rb, .ref cb]) ++ List.replicate (12 - (lg_sl ([.ref (a 0), .int (nI what), .int (nI x), .int (nI y), .ref pb, .ref rb, .ref cb])).length) Slot.unset).toArray = ls at hl ⊢
  have hl : lv_has ls 12 [(0, .ref (a 0)), (1, .int (nI what)), (2, .int (nI x)), (3, .int (nI y)), (4, .ref pb), (5, .ref rb), (6, .ref cb)] := hl
  refine lv_iload_n hx hb dL_step_0 rfl (lv_at hl 1 rfl) ?_
  refine lv_iconst (v := 2) hx hb dL_step_1 (by decide) ?_
  refine lv_icmp_lt (tgt := 12) hx hb dL_step_2 (by decide) (fun c_2 => ?_) (fun c_2 => ?_)
  · skip
    refine lv_aload hx hb dL_step_12 (lv_at hl 6 rfl) ?_
    refine lv_iconst (v := 0) hx hb dL_step_14 (by decide) ?_
    refine g_iald hx hb hK hP (11 + nF + 2) 0 (n := 4) (f := kv) (WDRj 2 rfl) rfl 0 rfl (by omega) (by decide) dL_step_15 ?_
    refine lv_topi (fun dv edv => ?_)
    obtain rfl : dv = nI nC := by rw [edv]; exact hk0
    refine lv_bipush (v := 12) hx hb dL_step_16 (by decide) ?_
    refine lv_icmp_ne (tgt := 23) hx hb dL_step_18 (by decide) (fun c_18 => ?_) (fun c_18 => ?_)
    · skip
      have hn12 : nC < 12 := by have : ¬ nC = 12 := fun z => c_18 (by rw [z]; rfl); omega
      refine lv_aload hx hb dL_step_23 (lv_at hl 4 rfl) ?_
      refine lv_aload hx hb dL_step_25 (lv_at hl 6 rfl) ?_
      refine lv_iconst (v := 0) hx hb dL_step_27 (by decide) ?_
      refine g_iald hx hb hK hP (11 + nF + 2) 0 (n := 4) (f := kv) (WDRj 2 rfl) rfl 0 rfl (by omega) (by decide) dL_step_28 ?_
      refine lv_topi (fun dv edv => ?_)
      obtain rfl : dv = nI nC := by rw [edv]; exact hk0
      refine lv_iconst (v := 0) hx hb dL_step_29 (by decide) ?_
      refine g_iast hx hb hK hP hD hS (11 + nF + 0) 0 (n := 12) (f := pv) (WDRj 0 rfl) rfl nC rfl (by omega) (by decide) dL_step_30 (WD cI cO a FA nC nR nL nF par wt (fun r => nI (sk r)) (fun r => nI (fk r)) hd rea sig ++ (WF FA ck cf cd cv nx nF ++ (LR cI pb rb cb (upd pv nC 0) rv kv))) (WDRs 0 rfl) (fun H locs hP hD hS => ?_)
      have hP : va_P D vwCl (WD cI cO a FA nC nR nL nF par wt (fun r => nI (sk r)) (fun r => nI (fk r)) hd rea sig ++ (WF FA ck cf cd cv nx nF ++ (LR cI pb rb cb (upd pv nC 0) rv kv))) H := hP
      have hD : va_D A (WD cI cO a FA nC nR nL nF par wt (fun r => nI (sk r)) (fun r => nI (fk r)) hd rea sig ++ (WF FA ck cf cd cv nx nF ++ (LR cI pb rb cb (upd pv nC 0) rv kv))) := hD
      refine lv_aload hx hb dL_step_31 (lv_at hl 6 rfl) ?_
      refine lv_iconst (v := 0) hx hb dL_step_33 (by decide) ?_
      refine lv_dup2_11 hx hb dL_step_34 rfl rfl ?_
      refine g_iald hx hb hK hP (11 + nF + 2) 0 (n := 4) (f := kv) (WDRj 2 rfl) rfl 0 rfl (by omega) (by decide) dL_step_35 ?_
      refine lv_topi (fun dv edv => ?_)
      obtain rfl : dv = nI nC := by rw [edv]; exact hk0
      refine lv_iconst (v := 1) hx hb dL_step_36 (by decide) ?_
      refine lv_iadd hx hb dL_step_37 ?_
      refine lv_topi (fun dv edv => ?_)
      obtain rfl : dv = nI (nC + 1) := by rw [edv]; exact nI_add nC 1
      refine g_iast hx hb hK hP hD hS (11 + nF + 2) 0 (n := 4) (f := kv) (WDRj 2 rfl) rfl 0 rfl (by omega) (by decide) dL_step_38 (WD cI cO a FA nC nR nL nF par wt (fun r => nI (sk r)) (fun r => nI (fk r)) hd rea sig ++ (WF FA ck cf cd cv nx nF ++ (LR cI pb rb cb (upd pv nC 0) rv (upd kv 0 (nI (nC + 1)))))) (WDRs 2 rfl) (fun H locs hP hD hS => ?_)
      have hP : va_P D vwCl (WD cI cO a FA nC nR nL nF par wt (fun r => nI (sk r)) (fun r => nI (fk r)) hd rea sig ++ (WF FA ck cf cd cv nx nF ++ (LR cI pb rb cb (upd pv nC 0) rv (upd kv 0 (nI (nC + 1)))))) H := hP
      have hD : va_D A (WD cI cO a FA nC nR nL nF par wt (fun r => nI (sk r)) (fun r => nI (fk r)) hd rea sig ++ (WF FA ck cf cd cv nx nF ++ (LR cI pb rb cb (upd pv nC 0) rv (upd kv 0 (nI (nC + 1)))))) := hD
      refine lv_aload_n hx hb dL_step_39 rfl (lv_at hl 0 rfl) ?_
      refine va_calli (va_runV (As := []) (rest := []) ⟨hx, hb, hml, hown, hts⟩ (m4_addConcept l D cI cZ cO cL dt A a FA nC nR nL nF par wt (fun r => nI (sk r)) (fun r => nI (fk r)) hd rea sig ck cf cd cv nx (LR cI pb rb cb (upd pv nC 0) rv (upd kv 0 (nI (nC + 1)))) hlt hC12 hL8 hn12) (cwV 0 hts gL_step_X4_addConcept rfl rfl rfl (by decide +kernel) ⟨(Nat.le_of_ble_eq_true rfl), (Nat.le_of_ble_eq_true rfl)⟩) (gP.v (hg.on hS) hP 3 rfl 0 rfl (⟨hP, hD⟩)) rfl rfl hl.1 rfl (lv_room (Nat.le_of_ble_eq_true rfl)) dL_step_40 ⟨(Nat.le_of_ble_eq_true rfl), (Nat.le_of_ble_eq_true rfl)⟩) hS (fun q _ h => h) (fun q h => h) (fun r_1 ur_1 tr_1 H locs htr_1 hvmr_1 hr_1 hB hzr_1 hkr_1 hS => ?_)
      rw [htr_1] at hB
      obtain ⟨hP, hD⟩ := hB
      refine W.widen (k := 1) (n := 6) (Nat.le_of_ble_eq_true rfl) (Nat.le_of_ble_eq_true rfl) ?_
      have hP : va_P D vwCl (WD cI cO a FA (nC + 1) nR nL nF (upd par nC (-1)) wt (fun r => nI (sk r)) (fun r => nI (fk r)) hd rea sig ++ (WF FA ck cf cd cv nx nF ++ (LR cI pb rb cb (upd pv nC 0) rv (upd kv 0 (nI (nC + 1)))))) H := hP
      have hD : va_D A (WD cI cO a FA (nC + 1) nR nL nF (upd par nC (-1)) wt (fun r => nI (sk r)) (fun r => nI (fk r)) hd rea sig ++ (WF FA ck cf cd cv nx nF ++ (LR cI pb rb cb (upd pv nC 0) rv (upd kv 0 (nI (nC + 1)))))) := hD
      obtain rfl : r_1 = nI nC := hr_1
      have hOk9 := sOk_add hOk hn12
      have hpk9 := pOk_add hpk
      have hkk9 := kOk_0 hkk
      refine lv_aload hx hb dL_step_43 (lv_at hl 6 rfl) ?_
      refine lv_iconst (v := 0) hx hb dL_step_45 (by decide) ?_
      refine g_iald hx hb hK hP (11 + nF + 2) 0 (n := 4) (f := (upd kv 0 (nI (nC + 1)))) (WDRj 2 rfl) rfl 0 rfl (by omega) (by decide) dL_step_46 ?_
      refine lv_topi (fun dv edv => ?_)
      obtain rfl : dv = nI (nC + 1) := by rw [edv]; exact upd_eq
      refine lv_iconst (v := 1) hx hb dL_step_47 (by decide) ?_
      refine lv_isub hx hb dL_step_48 ?_
      refine lv_topi (fun dv edv => ?_)
      obtain rfl : dv = nI nC := by rw [edv]; exact nI_pred nC
      refine lv_icmp_ne (tgt := 56) hx hb dL_step_49 (by decide) (fun c_49 => ?_) (fun c_49 => ?_)
      · skip
        exact absurd rfl c_49
      · skip
        refine lv_iconst (v := 1) hx hb dL_step_52 (by decide) ?_
        refine lv_goto (tgt := 57) hx hb dL_step_53 (by decide) ?_
        exact W.widen (k := 34) (n := 204) (Nat.le_of_ble_eq_true rfl) (Nat.le_of_ble_eq_true rfl) (W.zret (v := 1) hx hb hr (rfl) (fun t ht hW => ⟨⟨1, (), rfl, rfl, (by show lI D cI cO A a pb rb cb 1 t.heap; rw [ht]; exact lI_mk (n0 := 1) (by omega) hOk9 hpk9 hrk hkk9 hP hD)⟩, hS.F ht⟩) hS.2.2 dL_step_57)
    · skip
      have hn12 : nC = 12 := (nI_eq (b := 12) (by omega) (by decide)).mp c_18
      refine lv_iconst (v := 1) hx hb dL_step_21 (by decide) ?_
      exact W.widen (k := 34) (n := 204) (Nat.le_of_ble_eq_true rfl) (Nat.le_of_ble_eq_true rfl) (W.zret (v := 1) hx hb hr (rfl) (fun t ht hW => ⟨⟨1, (), rfl, rfl, (by show lI D cI cO A a pb rb cb 1 t.heap; rw [ht]; exact lI_mk (n0 := 1) (by omega) hOk hpk hrk hkk hP hD)⟩, hS.F ht⟩) hS.2.2 dL_step_22)
  · skip
    refine lv_aload hx hb dL_step_5 (lv_at hl 6 rfl) ?_
    refine lv_iconst (v := 0) hx hb dL_step_7 (by decide) ?_
    refine g_iald hx hb hK hP (11 + nF + 2) 0 (n := 4) (f := kv) (WDRj 2 rfl) rfl 0 rfl (by omega) (by decide) dL_step_8 ?_
    refine lv_topi (fun dv edv => ?_)
    obtain rfl : dv = nI nC := by rw [edv]; exact hk0
    refine lv_if_ne (tgt := 58) hx hb dL_step_9 (by decide) (fun c_9 => ?_) (fun c_9 => ?_)
    · skip
      have hC0 : 0 < nC := Nat.pos_of_ne_zero (fun z => c_9 (by rw [z]; rfl))
      refine lv_iload_n hx hb dL_step_58 rfl (lv_at hl 1 rfl) ?_
      refine lv_iconst (v := 5) hx hb dL_step_59 (by decide) ?_
      refine lv_icmp_ge (tgt := 190) hx hb dL_step_60 (by decide) (fun c_60 => ?_) (fun c_60 => ?_)
      · skip
        refine lv_iload_n hx hb dL_step_190 rfl (lv_at hl 1 rfl) ?_
        refine lv_iconst (v := 5) hx hb dL_step_191 (by decide) ?_
        refine lv_icmp_ne (tgt := 247) hx hb dL_step_192 (by decide) (fun c_192 => ?_) (fun c_192 => ?_)
        · skip
          refine lv_iload_n hx hb dL_step_247 rfl (lv_at hl 1 rfl) ?_
          refine lv_bipush (v := 6) hx hb dL_step_248 (by decide) ?_
          refine lv_icmp_ne (tgt := 371) hx hb dL_step_250 (by decide) (fun c_250 => ?_) (fun c_250 => ?_)
          · skip
            refine lv_iload_n hx hb dL_step_371 rfl (lv_at hl 1 rfl) ?_
            refine lv_bipush (v := 7) hx hb dL_step_372 (by decide) ?_
            refine lv_icmp_ne (tgt := 478) hx hb dL_step_374 (by decide) (fun c_374 => ?_) (fun c_374 => ?_)
            · skip
              refine lv_aload_n hx hb dL_step_478 rfl (lv_at hl 0 rfl) ?_
              refine lv_iload_n hx hb dL_step_479 rfl (lv_at hl 2 rfl) ?_
              refine lv_iload_n hx hb dL_step_480 rfl (lv_at hl 3 rfl) ?_
              refine lv_aload hx hb dL_step_481 (lv_at hl 6 rfl) ?_
              refine va_calli (va_runS (As := [.ref (a 0), .int (nI x), .int (nI y), .ref cb]) (rest := []) ⟨hx, hb, hml, hown, hts⟩ (kL_tells l D cI cZ cO cL dt A a FA nC nR nL nF par wt sk fk hd rea sig ck cf cd cv nx pb rb cb pv rv kv L x y hlt hOk hpk hrk hkk hxb hyb hC0) (va_cwS 4 hts gL_step_L_tells rfl rfl rfl (by decide +kernel) ⟨(Nat.le_of_ble_eq_true rfl), (Nat.le_of_ble_eq_true rfl)⟩) (gP.s (hg.on hS) ⟨hP, hD⟩) rfl rfl hl.1 rfl (lv_room (Nat.le_of_ble_eq_true rfl)) dL_step_483 ⟨(Nat.le_of_ble_eq_true rfl), (Nat.le_of_ble_eq_true rfl)⟩) hS (fun q _ h => h) (fun q h => h) (fun r u t H locs ht hvm hw hB hz hk hS => ?_)
              rw [ht] at hB
              refine W.widen (k := 30) (n := 180) (Nat.le_of_ble_eq_true rfl) (Nat.le_of_ble_eq_true rfl) ?_
              exact W.widen (k := 34) (n := 204) (Nat.le_of_ble_eq_true rfl) (Nat.le_of_ble_eq_true rfl) (W.zret (v := r) hx hb hr (by rw [hw]; rfl) (fun t ht hW => ⟨⟨r, (), rfl, hw, by show lI D cI cO A a pb rb cb 1 t.heap; rw [ht]; exact hB⟩, hS.F ht⟩) hS.2.2 dL_step_486)
            · skip
              by_cases h7 : nL < 7
              · skip
                refine lv_aload_n hx hb dL_step_377 rfl (lv_at hl 0 rfl) ?_
                refine va_calli (vx_runSW (hh := [(0, 4, 5, 35)]) (As := [.ref (a 0)]) (rest := []) ⟨hx, hb, hml, hown, hts⟩ (kL_files_0 l D cI cZ cO cL dt A a FA nC nR nL nF par wt sk fk hd rea sig ck cf cd cv nx pb rb cb pv rv kv L hlt hOk h7) (vx_cwSW 1 hts gL_step_L_files rfl rfl rfl (by decide +kernel) ⟨(Nat.le_of_ble_eq_true rfl), (Nat.le_of_ble_eq_true rfl)⟩) (gP.s (hg.on hS) (⟨hP, hD⟩)) rfl rfl hl.1 rfl (lv_room (Nat.le_of_ble_eq_true rfl)) dL_step_378 ⟨(Nat.le_of_ble_eq_true rfl), (Nat.le_of_ble_eq_true rfl)⟩) hS (fun q _ h => h) (fun q h => h) (fun r_2 ur_2 tr_2 H locs htr_2 hvmr_2 hr_2 hB hzr_2 hkr_2 hS => ?_)
                rw [htr_2] at hB
                obtain ⟨hP, hD⟩ := hB
                refine W.widen (k := 1) (n := 6) (Nat.le_of_ble_eq_true rfl) (Nat.le_of_ble_eq_true rfl) ?_
                have hP : va_P D vwCl (WD cI cO a FA nC nR (nL + 1) nF par wt (fun r => nI (sk r)) (fun r => nI (fk r)) hd rea sig ++ (WF FA ck cf cd cv nx nF ++ (LR cI pb rb cb pv rv kv))) H := hP
                have hD : va_D A (WD cI cO a FA nC nR (nL + 1) nF par wt (fun r => nI (sk r)) (fun r => nI (fk r)) hd rea sig ++ (WF FA ck cf cd cv nx nF ++ (LR cI pb rb cb pv rv kv))) := hD
                obtain rfl : r_2 = nI (nL + 1) := hr_2
                have hOk9 := sOk_file hOk h7
                have hkk9 := kOk_2 hkk (nL + 1)
                refine lv_istore (lv' := [(7, .int (nI (nL + 1))), (0, .ref (a 0)), (1, .int (nI what)), (2, .int (nI x)), (3, .int (nI y)), (4, .ref pb), (5, .ref rb), (6, .ref cb)]) hx hb dL_step_381 hl (by decide) rfl (fun ls hl => ?_)
                refine lv_aload hx hb dL_step_383 (lv_at hl 7 rfl) ?_
                refine lv_iconst (v := 2) hx hb dL_step_385 (by decide) ?_
                refine lv_dup2_11 hx hb dL_step_386 rfl rfl ?_
                refine g_iald hx hb hK hP (11 + nF + 2) 0 (n := 4) (f := kv) (WDRj 2 rfl) rfl 2 rfl (by omega) (by decide) dL_step_387 ?_
                refine lv_topi (fun dv edv => ?_)
                obtain rfl : dv = nI (nL + 1) := by rw [edv]; exact hk2
                refine lv_iload hx hb dL_step_388 (lv_at hl 0 rfl) ?_
                refine lv_bipush (v := (-8)) hx hb dL_step_390 (by decide) ?_
                refine lv_icmp_ne (tgt := 399) hx hb dL_step_392 (by decide) (fun c_392 => ?_) (fun c_392 => ?_)
                · skip
                  refine lv_iconst (v := 1) hx hb dL_step_399 (by decide) ?_
                  refine lv_iadd hx hb dL_step_400 ?_
                  refine lv_topi (fun dv edv => ?_)
                  obtain rfl : dv = nI ((nL + 1) + 1) := by rw [edv]; exact nI_add (nL + 1) 1
                  refine g_iast hx hb hK hP hD hS (11 + nF + 2) 0 (n := 4) (f := kv) (WDRj 2 rfl) rfl 2 rfl (by omega) (by decide) dL_step_401 (WD cI cO a FA nC nR (nL + 1) nF par wt (fun r => nI (sk r)) (fun r => nI (fk r)) hd rea sig ++ (WF FA ck cf cd cv nx nF ++ (LR cI pb rb cb pv rv (upd kv 2 (nI ((nL + 1) + 1)))))) (WDRs 2 rfl) (fun H locs hP hD hS => ?_)
                  have hP : va_P D vwCl (WD cI cO a FA nC nR (nL + 1) nF par wt (fun r => nI (sk r)) (fun r => nI (fk r)) hd rea sig ++ (WF FA ck cf cd cv nx nF ++ (LR cI pb rb cb pv rv (upd kv 2 (nI ((nL + 1) + 1)))))) H := hP
                  have hD : va_D A (WD cI cO a FA nC nR (nL + 1) nF par wt (fun r => nI (sk r)) (fun r => nI (fk r)) hd rea sig ++ (WF FA ck cf cd cv nx nF ++ (LR cI pb rb cb pv rv (upd kv 2 (nI ((nL + 1) + 1)))))) := hD
                  refine lv_iload hx hb dL_step_402 (lv_at hl 0 rfl) ?_
                  refine lv_aload hx hb dL_step_404 (lv_at hl 7 rfl) ?_
                  refine lv_iconst (v := 2) hx hb dL_step_406 (by decide) ?_
                  refine g_iald hx hb hK hP (11 + nF + 2) 0 (n := 4) (f := (upd kv 2 (nI ((nL + 1) + 1)))) (WDRj 2 rfl) rfl 2 rfl (by omega) (by decide) dL_step_407 ?_
                  refine lv_topi (fun dv edv => ?_)
                  obtain rfl : dv = nI ((nL + 1) + 1) := by rw [edv]; exact upd_eq
                  refine lv_bipush (v := 8) hx hb dL_step_408 (by decide) ?_
                  refine lv_icmp_ne (tgt := 425) hx hb dL_step_410 (by decide) (fun c_410 => ?_) (fun c_410 => ?_)
                  · skip
                    refine lv_aload hx hb dL_step_425 (lv_at hl 7 rfl) ?_
                    refine lv_iconst (v := 2) hx hb dL_step_427 (by decide) ?_
                    refine g_iald hx hb hK hP (11 + nF + 2) 0 (n := 4) (f := (upd kv 2 (nI ((nL + 1) + 1)))) (WDRj 2 rfl) rfl 2 rfl (by omega) (by decide) dL_step_428 ?_
                    refine lv_topi (fun dv edv => ?_)
                    obtain rfl : dv = nI ((nL + 1) + 1) := by rw [edv]; exact upd_eq
                    refine lv_iconst (v := 1) hx hb dL_step_429 (by decide) ?_
                    refine lv_isub hx hb dL_step_430 ?_
                    refine lv_topi (fun dv edv => ?_)
                    obtain rfl : dv = nI (nL + 1) := by rw [edv]; exact nI_pred (nL + 1)
                    refine lv_icmp_ne (tgt := 476) hx hb dL_step_431 (by decide) (fun c_431 => ?_) (fun c_431 => ?_)
                    · skip
                      exact absurd rfl c_431
                    · skip
                      refine lv_aload_n hx hb dL_step_434 rfl (lv_at hl 1 rfl) ?_
                      refine lv_aload hx hb dL_step_435 (lv_at hl 7 rfl) ?_
                      refine lv_iconst (v := 2) hx hb dL_step_437 (by decide) ?_
                      refine g_iald hx hb hK hP (11 + nF + 2) 0 (n := 4) (f := (upd kv 2 (nI ((nL + 1) + 1)))) (WDRj 2 rfl) rfl 2 rfl (by omega) (by decide) dL_step_438 ?_
                      refine lv_topi (fun dv edv => ?_)
                      obtain rfl : dv = nI ((nL + 1) + 1) := by rw [edv]; exact upd_eq
                      refine lv_iconst (v := 1) hx hb dL_step_439 (by decide) ?_
                      refine lv_isub hx hb dL_step_440 ?_
                      refine lv_topi (fun dv edv => ?_)
                      obtain rfl : dv = nI (nL + 1) := by rw [edv]; exact nI_pred (nL + 1)
                      refine va_calli (va_runV (As := [.int (nI (nL + 1))]) (rest := []) ⟨hx, hb, hml, hown, hts⟩ (m4_disagreements l D cI cZ cO cL dt A a FA nC nR (nL + 1) nF par wt (fun r => nI (sk r)) (fun r => nI (fk r)) hd rea sig ck cf cd cv nx (LR cI pb rb cb pv rv (upd kv 2 (nI ((nL + 1) + 1)))) (nL + 1) hlt hF hC12 hck hcf hcd hcv hwt hCh (by omega) (by omega)) (cwV 1 hts gL_step_X4_disagreements rfl rfl rfl (by decide +kernel) ⟨(Nat.le_of_ble_eq_true rfl), (Nat.le_of_ble_eq_true rfl)⟩) (gP.v (hg.on hS) hP 3 rfl 0 rfl (⟨hP, hD⟩)) rfl rfl hl.1 rfl (lv_room (Nat.le_of_ble_eq_true rfl)) dL_step_441 ⟨(Nat.le_of_ble_eq_true rfl), (Nat.le_of_ble_eq_true rfl)⟩) hS (fun q _ h => h) (fun q h => h) (fun r_3 ur_3 tr_3 H locs htr_3 hvmr_3 hr_3 hB hzr_3 hkr_3 hS => ?_)
                      rw [htr_3] at hB
                      obtain ⟨hP, hD⟩ := hB
                      refine W.widen (k := 2) (n := 12) (Nat.le_of_ble_eq_true rfl) (Nat.le_of_ble_eq_true rfl) ?_
                      have hP : va_P D vwCl (WD cI cO a FA nC nR (nL + 1) nF par wt (fun r => nI (sk r)) (fun r => nI (fk r)) hd rea sig ++ (WF FA ck cf cd cv nx nF ++ (LR cI pb rb cb pv rv (upd kv 2 (nI ((nL + 1) + 1)))))) H := hP
                      have hD : va_D A (WD cI cO a FA nC nR (nL + 1) nF par wt (fun r => nI (sk r)) (fun r => nI (fk r)) hd rea sig ++ (WF FA ck cf cd cv nx nF ++ (LR cI pb rb cb pv rv (upd kv 2 (nI ((nL + 1) + 1)))))) := hD
                      obtain rfl : r_3 = 0 := hr_3.trans (dis_new hcf8 hfL h7)
                      refine lv_if_lt (tgt := 476) hx hb dL_step_444 (by decide) (fun c_444 => ?_) (fun c_444 => ?_)
                      · skip
                        exact absurd c_444 (by decide)
                      · skip
                        refine lv_iload hx hb dL_step_447 (lv_at hl 0 rfl) ?_
                        refine lv_bipush (v := (-8)) hx hb dL_step_449 (by decide) ?_
                        refine lv_icmp_eq (tgt := 472) hx hb dL_step_451 (by decide) (fun c_451 => ?_) (fun c_451 => ?_)
                        · skip
                          exact absurd c_451 (nI_neg (n := (nL + 1)) (by omega) (by decide))
                        · skip
                          refine lv_aload_n hx hb dL_step_454 rfl (lv_at hl 1 rfl) ?_
                          refine lv_iload hx hb dL_step_455 (lv_at hl 0 rfl) ?_
                          refine va_calli (va_runV (As := [.int (nI (nL + 1))]) (rest := []) ⟨hx, hb, hml, hown, hts⟩ (m4_disagreements l D cI cZ cO cL dt A a FA nC nR (nL + 1) nF par wt (fun r => nI (sk r)) (fun r => nI (fk r)) hd rea sig ck cf cd cv nx (LR cI pb rb cb pv rv (upd kv 2 (nI ((nL + 1) + 1)))) (nL + 1) hlt hF hC12 hck hcf hcd hcv hwt hCh (by omega) (by omega)) (cwV 1 hts gL_step_X4_disagreements rfl rfl rfl (by decide +kernel) ⟨(Nat.le_of_ble_eq_true rfl), (Nat.le_of_ble_eq_true rfl)⟩) (gP.v (hg.on hS) hP 3 rfl 0 rfl (⟨hP, hD⟩)) rfl rfl hl.1 rfl (lv_room (Nat.le_of_ble_eq_true rfl)) dL_step_457 ⟨(Nat.le_of_ble_eq_true rfl), (Nat.le_of_ble_eq_true rfl)⟩) hS (fun q _ h => h) (fun q h => h) (fun r_4 ur_4 tr_4 H locs htr_4 hvmr_4 hr_4 hB hzr_4 hkr_4 hS => ?_)
                          rw [htr_4] at hB
                          obtain ⟨hP, hD⟩ := hB
                          refine W.widen (k := 3) (n := 18) (Nat.le_of_ble_eq_true rfl) (Nat.le_of_ble_eq_true rfl) ?_
                          have hP : va_P D vwCl (WD cI cO a FA nC nR (nL + 1) nF par wt (fun r => nI (sk r)) (fun r => nI (fk r)) hd rea sig ++ (WF FA ck cf cd cv nx nF ++ (LR cI pb rb cb pv rv (upd kv 2 (nI ((nL + 1) + 1)))))) H := hP
                          have hD : va_D A (WD cI cO a FA nC nR (nL + 1) nF par wt (fun r => nI (sk r)) (fun r => nI (fk r)) hd rea sig ++ (WF FA ck cf cd cv nx nF ++ (LR cI pb rb cb pv rv (upd kv 2 (nI ((nL + 1) + 1)))))) := hD
                          obtain rfl : r_4 = 0 := hr_4.trans (dis_new hcf8 hfL h7)
                          refine lv_if_ne (tgt := 476) hx hb dL_step_460 (by decide) (fun c_460 => ?_) (fun c_460 => ?_)
                          · skip
                            exact absurd c_460 (by decide)
                          · skip
                            refine lv_aload_n hx hb dL_step_463 rfl (lv_at hl 1 rfl) ?_
                            refine lv_iload hx hb dL_step_464 (lv_at hl 0 rfl) ?_
                            refine va_calli (va_runV (As := [.int (nI (nL + 1))]) (rest := []) ⟨hx, hb, hml, hown, hts⟩ (m4_restated l D cI cZ cO cL dt A a FA nC nR (nL + 1) nF par wt (fun r => nI (sk r)) (fun r => nI (fk r)) hd rea sig ck cf cd cv nx (LR cI pb rb cb pv rv (upd kv 2 (nI ((nL + 1) + 1)))) (nL + 1) hlt hF hC12 hck hcf hcd hcv hwt hCh (by omega) (by omega)) (cwV 1 hts gL_step_X4_restated rfl rfl rfl (by decide +kernel) ⟨(Nat.le_of_ble_eq_true rfl), (Nat.le_of_ble_eq_true rfl)⟩) (gP.v (hg.on hS) hP 3 rfl 0 rfl (⟨hP, hD⟩)) rfl rfl hl.1 rfl (lv_room (Nat.le_of_ble_eq_true rfl)) dL_step_466 ⟨(Nat.le_of_ble_eq_true rfl), (Nat.le_of_ble_eq_true rfl)⟩) hS (fun q _ h => h) (fun q h => h) (fun r_5 ur_5 tr_5 H locs htr_5 hvmr_5 hr_5 hB hzr_5 hkr_5 hS => ?_)
                            rw [htr_5] at hB
                            obtain ⟨hP, hD⟩ := hB
                            refine W.widen (k := 4) (n := 24) (Nat.le_of_ble_eq_true rfl) (Nat.le_of_ble_eq_true rfl) ?_
                            have hP : va_P D vwCl (WD cI cO a FA nC nR (nL + 1) nF par wt (fun r => nI (sk r)) (fun r => nI (fk r)) hd rea sig ++ (WF FA ck cf cd cv nx nF ++ (LR cI pb rb cb pv rv (upd kv 2 (nI ((nL + 1) + 1)))))) H := hP
                            have hD : va_D A (WD cI cO a FA nC nR (nL + 1) nF par wt (fun r => nI (sk r)) (fun r => nI (fk r)) hd rea sig ++ (WF FA ck cf cd cv nx nF ++ (LR cI pb rb cb pv rv (upd kv 2 (nI ((nL + 1) + 1)))))) := hD
                            obtain rfl : r_5 = 0 := hr_5.trans (rst_new hcf8 hfL h7)
                            refine lv_if_ne (tgt := 476) hx hb dL_step_469 (by decide) (fun c_469 => ?_) (fun c_469 => ?_)
                            · skip
                              exact absurd c_469 (by decide)
                            · skip
                              refine lv_iconst (v := 1) hx hb dL_step_472 (by decide) ?_
                              refine lv_goto (tgt := 477) hx hb dL_step_473 (by decide) ?_
                              exact W.widen (k := 34) (n := 204) (Nat.le_of_ble_eq_true rfl) (Nat.le_of_ble_eq_true rfl) (W.zret (v := 1) hx hb hr (rfl) (fun t ht hW => ⟨⟨1, (), rfl, rfl, (by show lI D cI cO A a pb rb cb 1 t.heap; rw [ht]; exact lI_mk (n0 := 1) (by omega) hOk9 hpk hrk hkk9 hP hD)⟩, hS.F ht⟩) hS.2.2 dL_step_477)
                  · skip
                    refine lv_iload hx hb dL_step_413 (lv_at hl 0 rfl) ?_
                    refine lv_bipush (v := (-8)) hx hb dL_step_415 (by decide) ?_
                    refine lv_icmp_ne (tgt := 425) hx hb dL_step_417 (by decide) (fun c_417 => ?_) (fun c_417 => ?_)
                    · skip
                      refine lv_aload hx hb dL_step_425 (lv_at hl 7 rfl) ?_
                      refine lv_iconst (v := 2) hx hb dL_step_427 (by decide) ?_
                      refine g_iald hx hb hK hP (11 + nF + 2) 0 (n := 4) (f := (upd kv 2 (nI ((nL + 1) + 1)))) (WDRj 2 rfl) rfl 2 rfl (by omega) (by decide) dL_step_428 ?_
                      refine lv_topi (fun dv edv => ?_)
                      obtain rfl : dv = nI ((nL + 1) + 1) := by rw [edv]; exact upd_eq
                      refine lv_iconst (v := 1) hx hb dL_step_429 (by decide) ?_
                      refine lv_isub hx hb dL_step_430 ?_
                      refine lv_topi (fun dv edv => ?_)
                      obtain rfl : dv = nI (nL + 1) := by rw [edv]; exact nI_pred (nL + 1)
                      refine lv_icmp_ne (tgt := 476) hx hb dL_step_431 (by decide) (fun c_431 => ?_) (fun c_431 => ?_)
                      · skip
                        exact absurd rfl c_431
                      · skip
                        refine lv_aload_n hx hb dL_step_434 rfl (lv_at hl 1 rfl) ?_
                        refine lv_aload hx hb dL_step_435 (lv_at hl 7 rfl) ?_
                        refine lv_iconst (v := 2) hx hb dL_step_437 (by decide) ?_
                        refine g_iald hx hb hK hP (11 + nF + 2) 0 (n := 4) (f := (upd kv 2 (nI ((nL + 1) + 1)))) (WDRj 2 rfl) rfl 2 rfl (by omega) (by decide) dL_step_438 ?_
                        refine lv_topi (fun dv edv => ?_)
                        obtain rfl : dv = nI ((nL + 1) + 1) := by rw [edv]; exact upd_eq
                        refine lv_iconst (v := 1) hx hb dL_step_439 (by decide) ?_
                        refine lv_isub hx hb dL_step_440 ?_
                        refine lv_topi (fun dv edv => ?_)
                        obtain rfl : dv = nI (nL + 1) := by rw [edv]; exact nI_pred (nL + 1)
                        refine va_calli (va_runV (As := [.int (nI (nL + 1))]) (rest := []) ⟨hx, hb, hml, hown, hts⟩ (m4_disagreements l D cI cZ cO cL dt A a FA nC nR (nL + 1) nF par wt (fun r => nI (sk r)) (fun r => nI (fk r)) hd rea sig ck cf cd cv nx (LR cI pb rb cb pv rv (upd kv 2 (nI ((nL + 1) + 1)))) (nL + 1) hlt hF hC12 hck hcf hcd hcv hwt hCh (by omega) (by omega)) (cwV 1 hts gL_step_X4_disagreements rfl rfl rfl (by decide +kernel) ⟨(Nat.le_of_ble_eq_true rfl), (Nat.le_of_ble_eq_true rfl)⟩) (gP.v (hg.on hS) hP 3 rfl 0 rfl (⟨hP, hD⟩)) rfl rfl hl.1 rfl (lv_room (Nat.le_of_ble_eq_true rfl)) dL_step_441 ⟨(Nat.le_of_ble_eq_true rfl), (Nat.le_of_ble_eq_true rfl)⟩) hS (fun q _ h => h) (fun q h => h) (fun r_6 ur_6 tr_6 H locs htr_6 hvmr_6 hr_6 hB hzr_6 hkr_6 hS => ?_)
                        rw [htr_6] at hB
                        obtain ⟨hP, hD⟩ := hB
                        refine W.widen (k := 2) (n := 12) (Nat.le_of_ble_eq_true rfl) (Nat.le_of_ble_eq_true rfl) ?_
                        have hP : va_P D vwCl (WD cI cO a FA nC nR (nL + 1) nF par wt (fun r => nI (sk r)) (fun r => nI (fk r)) hd rea sig ++ (WF FA ck cf cd cv nx nF ++ (LR cI pb rb cb pv rv (upd kv 2 (nI ((nL + 1) + 1)))))) H := hP
                        have hD : va_D A (WD cI cO a FA nC nR (nL + 1) nF par wt (fun r => nI (sk r)) (fun r => nI (fk r)) hd rea sig ++ (WF FA ck cf cd cv nx nF ++ (LR cI pb rb cb pv rv (upd kv 2 (nI ((nL + 1) + 1)))))) := hD
                        obtain rfl : r_6 = 0 := hr_6.trans (dis_new hcf8 hfL h7)
                        refine lv_if_lt (tgt := 476) hx hb dL_step_444 (by decide) (fun c_444 => ?_) (fun c_444 => ?_)
                        · skip
                          exact absurd c_444 (by decide)
                        · skip
                          refine lv_iload hx hb dL_step_447 (lv_at hl 0 rfl) ?_
                          refine lv_bipush (v := (-8)) hx hb dL_step_449 (by decide) ?_
                          refine lv_icmp_eq (tgt := 472) hx hb dL_step_451 (by decide) (fun c_451 => ?_) (fun c_451 => ?_)
                          · skip
                            exact absurd c_451 (nI_neg (n := (nL + 1)) (by omega) (by decide))
                          · skip
                            refine lv_aload_n hx hb dL_step_454 rfl (lv_at hl 1 rfl) ?_
                            refine lv_iload hx hb dL_step_455 (lv_at hl 0 rfl) ?_
                            refine va_calli (va_runV (As := [.int (nI (nL + 1))]) (rest := []) ⟨hx, hb, hml, hown, hts⟩ (m4_disagreements l D cI cZ cO cL dt A a FA nC nR (nL + 1) nF par wt (fun r => nI (sk r)) (fun r => nI (fk r)) hd rea sig ck cf cd cv nx (LR cI pb rb cb pv rv (upd kv 2 (nI ((nL + 1) + 1)))) (nL + 1) hlt hF hC12 hck hcf hcd hcv hwt hCh (by omega) (by omega)) (cwV 1 hts gL_step_X4_disagreements rfl rfl rfl (by decide +kernel) ⟨(Nat.le_of_ble_eq_true rfl), (Nat.le_of_ble_eq_true rfl)⟩) (gP.v (hg.on hS) hP 3 rfl 0 rfl (⟨hP, hD⟩)) rfl rfl hl.1 rfl (lv_room (Nat.le_of_ble_eq_true rfl)) dL_step_457 ⟨(Nat.le_of_ble_eq_true rfl), (Nat.le_of_ble_eq_true rfl)⟩) hS (fun q _ h => h) (fun q h => h) (fun r_7 ur_7 tr_7 H locs htr_7 hvmr_7 hr_7 hB hzr_7 hkr_7 hS => ?_)
                            rw [htr_7] at hB
                            obtain ⟨hP, hD⟩ := hB
                            refine W.widen (k := 3) (n := 18) (Nat.le_of_ble_eq_true rfl) (Nat.le_of_ble_eq_true rfl) ?_
                            have hP : va_P D vwCl (WD cI cO a FA nC nR (nL + 1) nF par wt (fun r => nI (sk r)) (fun r => nI (fk r)) hd rea sig ++ (WF FA ck cf cd cv nx nF ++ (LR cI pb rb cb pv rv (upd kv 2 (nI ((nL + 1) + 1)))))) H := hP
                            have hD : va_D A (WD cI cO a FA nC nR (nL + 1) nF par wt (fun r => nI (sk r)) (fun r => nI (fk r)) hd rea sig ++ (WF FA ck cf cd cv nx nF ++ (LR cI pb rb cb pv rv (upd kv 2 (nI ((nL + 1) + 1)))))) := hD
                            obtain rfl : r_7 = 0 := hr_7.trans (dis_new hcf8 hfL h7)
                            refine lv_if_ne (tgt := 476) hx hb dL_step_460 (by decide) (fun c_460 => ?_) (fun c_460 => ?_)
                            · skip
                              exact absurd c_460 (by decide)
                            · skip
                              refine lv_aload_n hx hb dL_step_463 rfl (lv_at hl 1 rfl) ?_
                              refine lv_iload hx hb dL_step_464 (lv_at hl 0 rfl) ?_
                              refine va_calli (va_runV (As := [.int (nI (nL + 1))]) (rest := []) ⟨hx, hb, hml, hown, hts⟩ (m4_restated l D cI cZ cO cL dt A a FA nC nR (nL + 1) nF par wt (fun r => nI (sk r)) (fun r => nI (fk r)) hd rea sig ck cf cd cv nx (LR cI pb rb cb pv rv (upd kv 2 (nI ((nL + 1) + 1)))) (nL + 1) hlt hF hC12 hck hcf hcd hcv hwt hCh (by omega) (by omega)) (cwV 1 hts gL_step_X4_restated rfl rfl rfl (by decide +kernel) ⟨(Nat.le_of_ble_eq_true rfl), (Nat.le_of_ble_eq_true rfl)⟩) (gP.v (hg.on hS) hP 3 rfl 0 rfl (⟨hP, hD⟩)) rfl rfl hl.1 rfl (lv_room (Nat.le_of_ble_eq_true rfl)) dL_step_466 ⟨(Nat.le_of_ble_eq_true rfl), (Nat.le_of_ble_eq_true rfl)⟩) hS (fun q _ h => h) (fun q h => h) (fun r_8 ur_8 tr_8 H locs htr_8 hvmr_8 hr_8 hB hzr_8 hkr_8 hS => ?_)
                              rw [htr_8] at hB
                              obtain ⟨hP, hD⟩ := hB
                              refine W.widen (k := 4) (n := 24) (Nat.le_of_ble_eq_true rfl) (Nat.le_of_ble_eq_true rfl) ?_
                              have hP : va_P D vwCl (WD cI cO a FA nC nR (nL + 1) nF par wt (fun r => nI (sk r)) (fun r => nI (fk r)) hd rea sig ++ (WF FA ck cf cd cv nx nF ++ (LR cI pb rb cb pv rv (upd kv 2 (nI ((nL + 1) + 1)))))) H := hP
                              have hD : va_D A (WD cI cO a FA nC nR (nL + 1) nF par wt (fun r => nI (sk r)) (fun r => nI (fk r)) hd rea sig ++ (WF FA ck cf cd cv nx nF ++ (LR cI pb rb cb pv rv (upd kv 2 (nI ((nL + 1) + 1)))))) := hD
                              obtain rfl : r_8 = 0 := hr_8.trans (rst_new hcf8 hfL h7)
                              refine lv_if_ne (tgt := 476) hx hb dL_step_469 (by decide) (fun c_469 => ?_) (fun c_469 => ?_)
                              · skip
                                exact absurd c_469 (by decide)
                              · skip
                                refine lv_iconst (v := 1) hx hb dL_step_472 (by decide) ?_
                                refine lv_goto (tgt := 477) hx hb dL_step_473 (by decide) ?_
                                exact W.widen (k := 34) (n := 204) (Nat.le_of_ble_eq_true rfl) (Nat.le_of_ble_eq_true rfl) (W.zret (v := 1) hx hb hr (rfl) (fun t ht hW => ⟨⟨1, (), rfl, rfl, (by show lI D cI cO A a pb rb cb 1 t.heap; rw [ht]; exact lI_mk (n0 := 1) (by omega) hOk9 hpk hrk hkk9 hP hD)⟩, hS.F ht⟩) hS.2.2 dL_step_477)
                    · skip
                      exact absurd c_417 (nI_neg (n := (nL + 1)) (by omega) (by decide))
                · skip
                  exact absurd c_392 (nI_neg (n := (nL + 1)) (by omega) (by decide))
              · skip
                refine lv_aload_n hx hb dL_step_377 rfl (lv_at hl 0 rfl) ?_
                refine va_calli (vx_runSW (hh := [(0, 4, 5, 35)]) (As := [.ref (a 0)]) (rest := []) ⟨hx, hb, hml, hown, hts⟩ (kL_files_1 l D cI cZ cO cL dt A a FA nC nR nL nF par wt sk fk hd rea sig ck cf cd cv nx pb rb cb pv rv kv L hlt hOk h7) (vx_cwSW 1 hts gL_step_L_files rfl rfl rfl (by decide +kernel) ⟨(Nat.le_of_ble_eq_true rfl), (Nat.le_of_ble_eq_true rfl)⟩) (gP.s (hg.on hS) (⟨hP, hD⟩)) rfl rfl hl.1 rfl (lv_room (Nat.le_of_ble_eq_true rfl)) dL_step_378 ⟨(Nat.le_of_ble_eq_true rfl), (Nat.le_of_ble_eq_true rfl)⟩) hS (fun q _ h => h) (fun q h => h) (fun r_9 ur_9 tr_9 H locs htr_9 hvmr_9 hr_9 hB hzr_9 hkr_9 hS => ?_)
                rw [htr_9] at hB
                obtain ⟨hP, hD⟩ := hB
                refine W.widen (k := 1) (n := 6) (Nat.le_of_ble_eq_true rfl) (Nat.le_of_ble_eq_true rfl) ?_
                have hP : va_P D vwCl (WD cI cO a FA nC nR nL nF par wt (fun r => nI (sk r)) (fun r => nI (fk r)) hd rea sig ++ (WF FA ck cf cd cv nx nF ++ (LR cI pb rb cb pv rv kv))) H := hP
                have hD : va_D A (WD cI cO a FA nC nR nL nF par wt (fun r => nI (sk r)) (fun r => nI (fk r)) hd rea sig ++ (WF FA ck cf cd cv nx nF ++ (LR cI pb rb cb pv rv kv))) := hD
                obtain rfl : r_9 = (-8) := hr_9
                have hkk9 := kOk_2 hkk nL
                refine lv_istore (lv' := [(7, .int (-8)), (0, .ref (a 0)), (1, .int (nI what)), (2, .int (nI x)), (3, .int (nI y)), (4, .ref pb), (5, .ref rb), (6, .ref cb)]) hx hb dL_step_381 hl (by decide) rfl (fun ls hl => ?_)
                refine lv_aload hx hb dL_step_383 (lv_at hl 7 rfl) ?_
                refine lv_iconst (v := 2) hx hb dL_step_385 (by decide) ?_
                refine lv_dup2_11 hx hb dL_step_386 rfl rfl ?_
                refine g_iald hx hb hK hP (11 + nF + 2) 0 (n := 4) (f := kv) (WDRj 2 rfl) rfl 2 rfl (by omega) (by decide) dL_step_387 ?_
                refine lv_topi (fun dv edv => ?_)
                obtain rfl : dv = nI (nL + 1) := by rw [edv]; exact hk2
                refine lv_iload hx hb dL_step_388 (lv_at hl 0 rfl) ?_
                refine lv_bipush (v := (-8)) hx hb dL_step_390 (by decide) ?_
                refine lv_icmp_ne (tgt := 399) hx hb dL_step_392 (by decide) (fun c_392 => ?_) (fun c_392 => ?_)
                · skip
                  exact absurd c_392 (by decide)
                · skip
                  refine lv_iconst (v := 0) hx hb dL_step_395 (by decide) ?_
                  refine lv_goto (tgt := 400) hx hb dL_step_396 (by decide) ?_
                  refine lv_iadd hx hb dL_step_400 ?_
                  refine lv_topi (fun dv edv => ?_)
                  obtain rfl : dv = nI ((nL + 1) + 0) := by rw [edv]; exact nI_add (nL + 1) 0
                  refine g_iast hx hb hK hP hD hS (11 + nF + 2) 0 (n := 4) (f := kv) (WDRj 2 rfl) rfl 2 rfl (by omega) (by decide) dL_step_401 (WD cI cO a FA nC nR nL nF par wt (fun r => nI (sk r)) (fun r => nI (fk r)) hd rea sig ++ (WF FA ck cf cd cv nx nF ++ (LR cI pb rb cb pv rv (upd kv 2 (nI ((nL + 1) + 0)))))) (WDRs 2 rfl) (fun H locs hP hD hS => ?_)
                  have hP : va_P D vwCl (WD cI cO a FA nC nR nL nF par wt (fun r => nI (sk r)) (fun r => nI (fk r)) hd rea sig ++ (WF FA ck cf cd cv nx nF ++ (LR cI pb rb cb pv rv (upd kv 2 (nI ((nL + 1) + 0)))))) H := hP
                  have hD : va_D A (WD cI cO a FA nC nR nL nF par wt (fun r => nI (sk r)) (fun r => nI (fk r)) hd rea sig ++ (WF FA ck cf cd cv nx nF ++ (LR cI pb rb cb pv rv (upd kv 2 (nI ((nL + 1) + 0)))))) := hD
                  refine lv_iload hx hb dL_step_402 (lv_at hl 0 rfl) ?_
                  refine lv_aload hx hb dL_step_404 (lv_at hl 7 rfl) ?_
                  refine lv_iconst (v := 2) hx hb dL_step_406 (by decide) ?_
                  refine g_iald hx hb hK hP (11 + nF + 2) 0 (n := 4) (f := (upd kv 2 (nI ((nL + 1) + 0)))) (WDRj 2 rfl) rfl 2 rfl (by omega) (by decide) dL_step_407 ?_
                  refine lv_topi (fun dv edv => ?_)
                  obtain rfl : dv = nI (nL + 1) := by rw [edv]; exact upd_eq
                  refine lv_bipush (v := 8) hx hb dL_step_408 (by decide) ?_
                  refine lv_icmp_ne (tgt := 425) hx hb dL_step_410 (by decide) (fun c_410 => ?_) (fun c_410 => ?_)
                  · skip
                    exact absurd (by rw [show nL = 7 by omega]; rfl) c_410
                  · skip
                    refine lv_iload hx hb dL_step_413 (lv_at hl 0 rfl) ?_
                    refine lv_bipush (v := (-8)) hx hb dL_step_415 (by decide) ?_
                    refine lv_icmp_ne (tgt := 425) hx hb dL_step_417 (by decide) (fun c_417 => ?_) (fun c_417 => ?_)
                    · skip
                      exact absurd c_417 (by decide)
                    · skip
                      refine lv_bipush (v := (-8)) hx hb dL_step_420 (by decide) ?_
                      refine lv_goto (tgt := 431) hx hb dL_step_422 (by decide) ?_
                      refine lv_icmp_ne (tgt := 476) hx hb dL_step_431 (by decide) (fun c_431 => ?_) (fun c_431 => ?_)
                      · skip
                        exact absurd c_431 (by decide)
                      · skip
                        refine lv_aload_n hx hb dL_step_434 rfl (lv_at hl 1 rfl) ?_
                        refine lv_aload hx hb dL_step_435 (lv_at hl 7 rfl) ?_
                        refine lv_iconst (v := 2) hx hb dL_step_437 (by decide) ?_
                        refine g_iald hx hb hK hP (11 + nF + 2) 0 (n := 4) (f := (upd kv 2 (nI ((nL + 1) + 0)))) (WDRj 2 rfl) rfl 2 rfl (by omega) (by decide) dL_step_438 ?_
                        refine lv_topi (fun dv edv => ?_)
                        obtain rfl : dv = nI (nL + 1) := by rw [edv]; exact upd_eq
                        refine lv_iconst (v := 1) hx hb dL_step_439 (by decide) ?_
                        refine lv_isub hx hb dL_step_440 ?_
                        refine lv_topi (fun dv edv => ?_)
                        obtain rfl : dv = nI nL := by rw [edv]; exact nI_pred nL
                        refine va_calli (va_runV (As := [.int (nI nL)]) (rest := []) ⟨hx, hb, hml, hown, hts⟩ (m4_disagreements l D cI cZ cO cL dt A a FA nC nR nL nF par wt (fun r => nI (sk r)) (fun r => nI (fk r)) hd rea sig ck cf cd cv nx (LR cI pb rb cb pv rv (upd kv 2 (nI ((nL + 1) + 0)))) nL hlt hF hC12 hck hcf hcd hcv hwt hCh hL8 (by omega)) (cwV 1 hts gL_step_X4_disagreements rfl rfl rfl (by decide +kernel) ⟨(Nat.le_of_ble_eq_true rfl), (Nat.le_of_ble_eq_true rfl)⟩) (gP.v (hg.on hS) hP 3 rfl 0 rfl (⟨hP, hD⟩)) rfl rfl hl.1 rfl (lv_room (Nat.le_of_ble_eq_true rfl)) dL_step_441 ⟨(Nat.le_of_ble_eq_true rfl), (Nat.le_of_ble_eq_true rfl)⟩) hS (fun q _ h => h) (fun q h => h) (fun r_10 ur_10 tr_10 H locs htr_10 hvmr_10 hr_10 hB hzr_10 hkr_10 hS => ?_)
                        rw [htr_10] at hB
                        obtain ⟨hP, hD⟩ := hB
                        refine W.widen (k := 2) (n := 12) (Nat.le_of_ble_eq_true rfl) (Nat.le_of_ble_eq_true rfl) ?_
                        have hP : va_P D vwCl (WD cI cO a FA nC nR nL nF par wt (fun r => nI (sk r)) (fun r => nI (fk r)) hd rea sig ++ (WF FA ck cf cd cv nx nF ++ (LR cI pb rb cb pv rv (upd kv 2 (nI ((nL + 1) + 0)))))) H := hP
                        have hD : va_D A (WD cI cO a FA nC nR nL nF par wt (fun r => nI (sk r)) (fun r => nI (fk r)) hd rea sig ++ (WF FA ck cf cd cv nx nF ++ (LR cI pb rb cb pv rv (upd kv 2 (nI ((nL + 1) + 0)))))) := hD
                        obtain rfl : r_10 = disT ck cf cd cv nF nL := hr_10
                        refine lv_if_lt (tgt := 476) hx hb dL_step_444 (by decide) (fun c_444 => ?_) (fun c_444 => ?_)
                        · skip
                          exact absurd c_444 (dis_nn hF)
                        · skip
                          refine lv_iload hx hb dL_step_447 (lv_at hl 0 rfl) ?_
                          refine lv_bipush (v := (-8)) hx hb dL_step_449 (by decide) ?_
                          refine lv_icmp_eq (tgt := 472) hx hb dL_step_451 (by decide) (fun c_451 => ?_) (fun c_451 => ?_)
                          · skip
                            refine lv_iconst (v := 1) hx hb dL_step_472 (by decide) ?_
                            refine lv_goto (tgt := 477) hx hb dL_step_473 (by decide) ?_
                            exact W.widen (k := 34) (n := 204) (Nat.le_of_ble_eq_true rfl) (Nat.le_of_ble_eq_true rfl) (W.zret (v := 1) hx hb hr (rfl) (fun t ht hW => ⟨⟨1, (), rfl, rfl, (by show lI D cI cO A a pb rb cb 1 t.heap; rw [ht]; exact lI_mk (n0 := 1) (by omega) hOk hpk hrk hkk9 hP hD)⟩, hS.F ht⟩) hS.2.2 dL_step_477)
                          · skip
                            exact absurd c_451 (by decide)
          · skip
            refine lv_iload_n hx hb dL_step_253 rfl (lv_at hl 2 rfl) ?_
            refine lv_aload hx hb dL_step_254 (lv_at hl 6 rfl) ?_
            refine lv_iconst (v := 0) hx hb dL_step_256 (by decide) ?_
            refine g_iald hx hb hK hP (11 + nF + 2) 0 (n := 4) (f := kv) (WDRj 2 rfl) rfl 0 rfl (by omega) (by decide) dL_step_257 ?_
            refine lv_topi (fun dv edv => ?_)
            obtain rfl : dv = nI nC := by rw [edv]; exact hk0
            refine lv_irem hx hb dL_step_258 (nI_ne0 (by omega) (by omega)) ?_
            refine lv_topi (fun dv edv => ?_)
            obtain ⟨c1, hc1, ec1, rfl⟩ : ∃ z : Nat, z < nC ∧ z = x % nC ∧ dv = nI z := ⟨x % nC, Nat.mod_lt _ (by omega), rfl, by rw [edv]; exact pk_rem (a := x) (d := nC) (by omega) (by omega) (by omega)⟩
            refine lv_istore (lv' := [(7, .int (nI c1)), (0, .ref (a 0)), (1, .int (nI what)), (2, .int (nI x)), (3, .int (nI y)), (4, .ref pb), (5, .ref rb), (6, .ref cb)]) hx hb dL_step_259 hl (by decide) rfl (fun ls hl => ?_)
            refine lv_iload_n hx hb dL_step_261 rfl (lv_at hl 3 rfl) ?_
            refine lv_bipush (v := 12) hx hb dL_step_262 (by decide) ?_
            refine lv_idiv hx hb dL_step_264 (by decide) ?_
            refine lv_topi (fun dv edv => ?_)
            obtain rfl : dv = nI (x / 12) := by rw [edv]; exact pk_div (a := x) (d := 12) (by omega) (by omega) (by omega)
            refine lv_aload hx hb dL_step_265 (lv_at hl 7 rfl) ?_
            refine lv_iconst (v := 0) hx hb dL_step_267 (by decide) ?_
            refine g_iald hx hb hK hP (11 + nF + 2) 0 (n := 4) (f := kv) (WDRj 2 rfl) rfl 0 rfl (by omega) (by decide) dL_step_268 ?_
            refine lv_topi (fun dv edv => ?_)
            obtain rfl : dv = nI nC := by rw [edv]; exact hk0
            refine lv_irem hx hb dL_step_269 (nI_ne0 (by omega) (by omega)) ?_
            refine lv_topi (fun dv edv => ?_)
            obtain ⟨c2, hc2, ec2, rfl⟩ : ∃ z : Nat, z < nC ∧ z = (x / 12) % nC ∧ dv = nI z := ⟨(x / 12) % nC, Nat.mod_lt _ (by omega), rfl, by rw [edv]; exact pk_rem (a := (x / 12)) (d := nC) (by omega) (by omega) (by omega)⟩
            refine lv_istore (lv' := [(8, .int (nI c2)), (7, .int (nI c1)), (0, .ref (a 0)), (1, .int (nI what)), (2, .int (nI x)), (3, .int (nI y)), (4, .ref pb), (5, .ref rb), (6, .ref cb)]) hx hb dL_step_270 hl (by decide) rfl (fun ls hl => ?_)
            by_cases heq : c1 = c2
            · skip
              refine lv_aload_n hx hb dL_step_272 rfl (lv_at hl 2 rfl) ?_
              refine lv_iload hx hb dL_step_273 (lv_at hl 1 rfl) ?_
              refine lv_iload hx hb dL_step_275 (lv_at hl 0 rfl) ?_
              refine va_calli (vx_runSW (hh := [(0, 6, 7, 29), (0, 6, 11, 35)]) (As := [.ref (a 0), .int (nI c1), .int (nI c2)]) (rest := []) ⟨hx, hb, hml, hown, hts⟩ (kL_rolls_1 l D cI cZ cO cL dt A a FA nC nR nL nF par wt sk fk hd rea sig ck cf cd cv nx pb rb cb pv rv kv L c1 c2 hlt hOk hc1 hc2 heq) (vx_cwSW 3 hts gL_step_L_rolls rfl rfl rfl (by decide +kernel) ⟨(Nat.le_of_ble_eq_true rfl), (Nat.le_of_ble_eq_true rfl)⟩) (gP.s (hg.on hS) (⟨hP, hD⟩)) rfl rfl hl.1 rfl (lv_room (Nat.le_of_ble_eq_true rfl)) dL_step_277 ⟨(Nat.le_of_ble_eq_true rfl), (Nat.le_of_ble_eq_true rfl)⟩) hS (fun q _ h => h) (fun q h => h) (fun r_11 ur_11 tr_11 H locs htr_11 hvmr_11 hr_11 hB hzr_11 hkr_11 hS => ?_)
              rw [htr_11] at hB
              obtain ⟨hP, hD⟩ := hB
              refine W.widen (k := 3) (n := 18) (Nat.le_of_ble_eq_true rfl) (Nat.le_of_ble_eq_true rfl) ?_
              have hP : va_P D vwCl (WD cI cO a FA nC nR nL nF par wt (fun r => nI (sk r)) (fun r => nI (fk r)) hd rea sig ++ (WF FA ck cf cd cv nx nF ++ (LR cI pb rb cb pv rv kv))) H := hP
              have hD : va_D A (WD cI cO a FA nC nR nL nF par wt (fun r => nI (sk r)) (fun r => nI (fk r)) hd rea sig ++ (WF FA ck cf cd cv nx nF ++ (LR cI pb rb cb pv rv kv))) := hD
              obtain rfl : r_11 = (-9) := hr_11
              refine lv_istore (lv' := [(9, .int (-9)), (8, .int (nI c2)), (7, .int (nI c1)), (0, .ref (a 0)), (1, .int (nI what)), (2, .int (nI x)), (3, .int (nI y)), (4, .ref pb), (5, .ref rb), (6, .ref cb)]) hx hb dL_step_280 hl (by decide) rfl (fun ls hl => ?_)
              refine lv_iload hx hb dL_step_282 (lv_at hl 2 rfl) ?_
              refine lv_iload hx hb dL_step_284 (lv_at hl 1 rfl) ?_
              refine lv_icmp_eq (tgt := 297) hx hb dL_step_286 (by decide) (fun c_286 => ?_) (fun c_286 => ?_)
              · skip
                refine lv_iload hx hb dL_step_297 (lv_at hl 0 rfl) ?_
                refine lv_iload hx hb dL_step_299 (lv_at hl 2 rfl) ?_
                refine lv_iload hx hb dL_step_301 (lv_at hl 1 rfl) ?_
                refine lv_icmp_ne (tgt := 311) hx hb dL_step_303 (by decide) (fun c_303 => ?_) (fun c_303 => ?_)
                · skip
                  exact absurd (congrArg nI heq) c_303
                · skip
                  refine lv_bipush (v := (-9)) hx hb dL_step_306 (by decide) ?_
                  refine lv_goto (tgt := 313) hx hb dL_step_308 (by decide) ?_
                  refine lv_icmp_ne (tgt := 320) hx hb dL_step_313 (by decide) (fun c_313 => ?_) (fun c_313 => ?_)
                  · skip
                    exact absurd c_313 (by decide)
                  · skip
                    refine lv_iconst (v := 1) hx hb dL_step_316 (by decide) ?_
                    refine lv_goto (tgt := 321) hx hb dL_step_317 (by decide) ?_
                    exact W.widen (k := 34) (n := 204) (Nat.le_of_ble_eq_true rfl) (Nat.le_of_ble_eq_true rfl) (W.zret (v := 1) hx hb hr (rfl) (fun t ht hW => ⟨⟨1, (), rfl, rfl, (by show lI D cI cO A a pb rb cb 1 t.heap; rw [ht]; exact lI_mk (n0 := 1) (by omega) hOk hpk hrk hkk hP hD)⟩, hS.F ht⟩) hS.2.2 dL_step_321)
              · skip
                exact absurd (congrArg nI heq) c_286
            · skip
              by_cases h5 : nR < 5
              · skip
                refine lv_aload_n hx hb dL_step_272 rfl (lv_at hl 2 rfl) ?_
                refine lv_iload hx hb dL_step_273 (lv_at hl 1 rfl) ?_
                refine lv_iload hx hb dL_step_275 (lv_at hl 0 rfl) ?_
                refine va_calli (vx_runSW (hh := [(0, 6, 7, 29), (0, 6, 11, 35)]) (As := [.ref (a 0), .int (nI c1), .int (nI c2)]) (rest := []) ⟨hx, hb, hml, hown, hts⟩ (kL_rolls_0 l D cI cZ cO cL dt A a FA nC nR nL nF par wt sk fk hd rea sig ck cf cd cv nx pb rb cb pv rv kv L c1 c2 hlt hOk hc1 hc2 heq h5) (vx_cwSW 3 hts gL_step_L_rolls rfl rfl rfl (by decide +kernel) ⟨(Nat.le_of_ble_eq_true rfl), (Nat.le_of_ble_eq_true rfl)⟩) (gP.s (hg.on hS) (⟨hP, hD⟩)) rfl rfl hl.1 rfl (lv_room (Nat.le_of_ble_eq_true rfl)) dL_step_277 ⟨(Nat.le_of_ble_eq_true rfl), (Nat.le_of_ble_eq_true rfl)⟩) hS (fun q _ h => h) (fun q h => h) (fun r_12 ur_12 tr_12 H locs htr_12 hvmr_12 hr_12 hB hzr_12 hkr_12 hS => ?_)
                rw [htr_12] at hB
                obtain ⟨hP, hD⟩ := hB
                refine W.widen (k := 3) (n := 18) (Nat.le_of_ble_eq_true rfl) (Nat.le_of_ble_eq_true rfl) ?_
                have hP : va_P D vwCl (WD cI cO a FA nC (nR + 1) nL nF par wt (fun r => nI ((va_up sk nR c1) r)) (fun r => nI ((va_up fk nR c2) r)) hd rea sig ++ (WF FA ck cf cd cv nx nF ++ (LR cI pb rb cb pv rv kv))) H := hP
                have hD : va_D A (WD cI cO a FA nC (nR + 1) nL nF par wt (fun r => nI ((va_up sk nR c1) r)) (fun r => nI ((va_up fk nR c2) r)) hd rea sig ++ (WF FA ck cf cd cv nx nF ++ (LR cI pb rb cb pv rv kv))) := hD
                obtain rfl : r_12 = nI nR := hr_12
                have hOk9 := sOk_roll hOk hc1 hc2 h5
                have hrk9 := rOk2_roll hrk (c := c1) (p := c2)
                have hkk9 := kOk_1 hkk
                refine lv_istore (lv' := [(9, .int (nI nR)), (8, .int (nI c2)), (7, .int (nI c1)), (0, .ref (a 0)), (1, .int (nI what)), (2, .int (nI x)), (3, .int (nI y)), (4, .ref pb), (5, .ref rb), (6, .ref cb)]) hx hb dL_step_280 hl (by decide) rfl (fun ls hl => ?_)
                refine lv_iload hx hb dL_step_282 (lv_at hl 2 rfl) ?_
                refine lv_iload hx hb dL_step_284 (lv_at hl 1 rfl) ?_
                refine lv_icmp_eq (tgt := 297) hx hb dL_step_286 (by decide) (fun c_286 => ?_) (fun c_286 => ?_)
                · skip
                  exact absurd ((nI_eq (by omega) (by omega)).mp c_286) heq
                · skip
                  refine lv_aload hx hb dL_step_289 (lv_at hl 9 rfl) ?_
                  refine lv_iconst (v := 1) hx hb dL_step_291 (by decide) ?_
                  refine g_iald hx hb hK hP (11 + nF + 2) 0 (n := 4) (f := kv) (WDRj 2 rfl) rfl 1 rfl (by omega) (by decide) dL_step_292 ?_
                  refine lv_topi (fun dv edv => ?_)
                  obtain rfl : dv = nI nR := by rw [edv]; exact hk1
                  refine lv_iconst (v := 5) hx hb dL_step_293 (by decide) ?_
                  refine lv_icmp_ne (tgt := 322) hx hb dL_step_294 (by decide) (fun c_294 => ?_) (fun c_294 => ?_)
                  · skip
                    refine lv_aload hx hb dL_step_322 (lv_at hl 8 rfl) ?_
                    refine lv_iconst (v := 2) hx hb dL_step_324 (by decide) ?_
                    refine lv_aload hx hb dL_step_325 (lv_at hl 9 rfl) ?_
                    refine lv_iconst (v := 1) hx hb dL_step_327 (by decide) ?_
                    refine g_iald hx hb hK hP (11 + nF + 2) 0 (n := 4) (f := kv) (WDRj 2 rfl) rfl 1 rfl (by omega) (by decide) dL_step_328 ?_
                    refine lv_topi (fun dv edv => ?_)
                    obtain rfl : dv = nI nR := by rw [edv]; exact hk1
                    refine lv_imul hx hb dL_step_329 ?_
                    refine lv_topi (fun dv edv => ?_)
                    obtain rfl : dv = nI (2 * nR) := by rw [edv]; exact pk_mul 2 nR
                    refine lv_iload hx hb dL_step_330 (lv_at hl 2 rfl) ?_
                    refine g_iast hx hb hK hP hD hS (11 + nF + 1) 0 (n := 10) (f := rv) (WDRj 1 rfl) rfl (2 * nR) rfl (by omega) (by decide) dL_step_332 (WD cI cO a FA nC (nR + 1) nL nF par wt (fun r => nI ((va_up sk nR c1) r)) (fun r => nI ((va_up fk nR c2) r)) hd rea sig ++ (WF FA ck cf cd cv nx nF ++ (LR cI pb rb cb pv (upd rv (2 * nR) (nI c1)) kv))) (WDRs 1 rfl) (fun H locs hP hD hS => ?_)
                    have hP : va_P D vwCl (WD cI cO a FA nC (nR + 1) nL nF par wt (fun r => nI ((va_up sk nR c1) r)) (fun r => nI ((va_up fk nR c2) r)) hd rea sig ++ (WF FA ck cf cd cv nx nF ++ (LR cI pb rb cb pv (upd rv (2 * nR) (nI c1)) kv))) H := hP
                    have hD : va_D A (WD cI cO a FA nC (nR + 1) nL nF par wt (fun r => nI ((va_up sk nR c1) r)) (fun r => nI ((va_up fk nR c2) r)) hd rea sig ++ (WF FA ck cf cd cv nx nF ++ (LR cI pb rb cb pv (upd rv (2 * nR) (nI c1)) kv))) := hD
                    refine lv_aload hx hb dL_step_333 (lv_at hl 8 rfl) ?_
                    refine lv_iconst (v := 2) hx hb dL_step_335 (by decide) ?_
                    refine lv_aload hx hb dL_step_336 (lv_at hl 9 rfl) ?_
                    refine lv_iconst (v := 1) hx hb dL_step_338 (by decide) ?_
                    refine g_iald hx hb hK hP (11 + nF + 2) 0 (n := 4) (f := kv) (WDRj 2 rfl) rfl 1 rfl (by omega) (by decide) dL_step_339 ?_
                    refine lv_topi (fun dv edv => ?_)
                    obtain rfl : dv = nI nR := by rw [edv]; exact hk1
                    refine lv_imul hx hb dL_step_340 ?_
                    refine lv_topi (fun dv edv => ?_)
                    obtain rfl : dv = nI (2 * nR) := by rw [edv]; exact pk_mul 2 nR
                    refine lv_iconst (v := 1) hx hb dL_step_341 (by decide) ?_
                    refine lv_iadd hx hb dL_step_342 ?_
                    refine lv_topi (fun dv edv => ?_)
                    obtain rfl : dv = nI ((2 * nR) + 1) := by rw [edv]; exact nI_add (2 * nR) 1
                    refine lv_iload hx hb dL_step_343 (lv_at hl 1 rfl) ?_
                    refine g_iast hx hb hK hP hD hS (11 + nF + 1) 0 (n := 10) (f := (upd rv (2 * nR) (nI c1))) (WDRj 1 rfl) rfl ((2 * nR) + 1) rfl (by omega) (by decide) dL_step_345 (WD cI cO a FA nC (nR + 1) nL nF par wt (fun r => nI ((va_up sk nR c1) r)) (fun r => nI ((va_up fk nR c2) r)) hd rea sig ++ (WF FA ck cf cd cv nx nF ++ (LR cI pb rb cb pv (upd (upd rv (2 * nR) (nI c1)) ((2 * nR) + 1) (nI c2)) kv))) (WDRs 1 rfl) (fun H locs hP hD hS => ?_)
                    have hP : va_P D vwCl (WD cI cO a FA nC (nR + 1) nL nF par wt (fun r => nI ((va_up sk nR c1) r)) (fun r => nI ((va_up fk nR c2) r)) hd rea sig ++ (WF FA ck cf cd cv nx nF ++ (LR cI pb rb cb pv (upd (upd rv (2 * nR) (nI c1)) ((2 * nR) + 1) (nI c2)) kv))) H := hP
                    have hD : va_D A (WD cI cO a FA nC (nR + 1) nL nF par wt (fun r => nI ((va_up sk nR c1) r)) (fun r => nI ((va_up fk nR c2) r)) hd rea sig ++ (WF FA ck cf cd cv nx nF ++ (LR cI pb rb cb pv (upd (upd rv (2 * nR) (nI c1)) ((2 * nR) + 1) (nI c2)) kv))) := hD
                    refine lv_aload hx hb dL_step_346 (lv_at hl 9 rfl) ?_
                    refine lv_iconst (v := 1) hx hb dL_step_348 (by decide) ?_
                    refine lv_dup2_11 hx hb dL_step_349 rfl rfl ?_
                    refine g_iald hx hb hK hP (11 + nF + 2) 0 (n := 4) (f := kv) (WDRj 2 rfl) rfl 1 rfl (by omega) (by decide) dL_step_350 ?_
                    refine lv_topi (fun dv edv => ?_)
                    obtain rfl : dv = nI nR := by rw [edv]; exact hk1
                    refine lv_iconst (v := 1) hx hb dL_step_351 (by decide) ?_
                    refine lv_iadd hx hb dL_step_352 ?_
                    refine lv_topi (fun dv edv => ?_)
                    obtain rfl : dv = nI (nR + 1) := by rw [edv]; exact nI_add nR 1
                    refine g_iast hx hb hK hP hD hS (11 + nF + 2) 0 (n := 4) (f := kv) (WDRj 2 rfl) rfl 1 rfl (by omega) (by decide) dL_step_353 (WD cI cO a FA nC (nR + 1) nL nF par wt (fun r => nI ((va_up sk nR c1) r)) (fun r => nI ((va_up fk nR c2) r)) hd rea sig ++ (WF FA ck cf cd cv nx nF ++ (LR cI pb rb cb pv (upd (upd rv (2 * nR) (nI c1)) ((2 * nR) + 1) (nI c2)) (upd kv 1 (nI (nR + 1)))))) (WDRs 2 rfl) (fun H locs hP hD hS => ?_)
                    have hP : va_P D vwCl (WD cI cO a FA nC (nR + 1) nL nF par wt (fun r => nI ((va_up sk nR c1) r)) (fun r => nI ((va_up fk nR c2) r)) hd rea sig ++ (WF FA ck cf cd cv nx nF ++ (LR cI pb rb cb pv (upd (upd rv (2 * nR) (nI c1)) ((2 * nR) + 1) (nI c2)) (upd kv 1 (nI (nR + 1)))))) H := hP
                    have hD : va_D A (WD cI cO a FA nC (nR + 1) nL nF par wt (fun r => nI ((va_up sk nR c1) r)) (fun r => nI ((va_up fk nR c2) r)) hd rea sig ++ (WF FA ck cf cd cv nx nF ++ (LR cI pb rb cb pv (upd (upd rv (2 * nR) (nI c1)) ((2 * nR) + 1) (nI c2)) (upd kv 1 (nI (nR + 1)))))) := hD
                    refine lv_iload hx hb dL_step_354 (lv_at hl 0 rfl) ?_
                    refine lv_aload hx hb dL_step_356 (lv_at hl 9 rfl) ?_
                    refine lv_iconst (v := 1) hx hb dL_step_358 (by decide) ?_
                    refine g_iald hx hb hK hP (11 + nF + 2) 0 (n := 4) (f := (upd kv 1 (nI (nR + 1)))) (WDRj 2 rfl) rfl 1 rfl (by omega) (by decide) dL_step_359 ?_
                    refine lv_topi (fun dv edv => ?_)
                    obtain rfl : dv = nI (nR + 1) := by rw [edv]; exact upd_eq
                    refine lv_iconst (v := 1) hx hb dL_step_360 (by decide) ?_
                    refine lv_isub hx hb dL_step_361 ?_
                    refine lv_topi (fun dv edv => ?_)
                    obtain rfl : dv = nI nR := by rw [edv]; exact nI_pred nR
                    refine lv_icmp_ne (tgt := 369) hx hb dL_step_362 (by decide) (fun c_362 => ?_) (fun c_362 => ?_)
                    · skip
                      exact absurd rfl c_362
                    · skip
                      refine lv_iconst (v := 1) hx hb dL_step_365 (by decide) ?_
                      refine lv_goto (tgt := 370) hx hb dL_step_366 (by decide) ?_
                      exact W.widen (k := 34) (n := 204) (Nat.le_of_ble_eq_true rfl) (Nat.le_of_ble_eq_true rfl) (W.zret (v := 1) hx hb hr (rfl) (fun t ht hW => ⟨⟨1, (), rfl, rfl, (by show lI D cI cO A a pb rb cb 1 t.heap; rw [ht]; exact lI_mk (n0 := 1) (by omega) hOk9 hpk hrk9 hkk9 hP hD)⟩, hS.F ht⟩) hS.2.2 dL_step_370)
                  · skip
                    exact absurd ((nI_eq (b := 5) (by omega) (by decide)).mp c_294) (by omega)
              · skip
                refine lv_aload_n hx hb dL_step_272 rfl (lv_at hl 2 rfl) ?_
                refine lv_iload hx hb dL_step_273 (lv_at hl 1 rfl) ?_
                refine lv_iload hx hb dL_step_275 (lv_at hl 0 rfl) ?_
                refine va_calli (vx_runSW (hh := [(0, 6, 7, 29), (0, 6, 11, 35)]) (As := [.ref (a 0), .int (nI c1), .int (nI c2)]) (rest := []) ⟨hx, hb, hml, hown, hts⟩ (kL_rolls_2 l D cI cZ cO cL dt A a FA nC nR nL nF par wt sk fk hd rea sig ck cf cd cv nx pb rb cb pv rv kv L c1 c2 hlt hOk hc1 hc2 heq h5) (vx_cwSW 3 hts gL_step_L_rolls rfl rfl rfl (by decide +kernel) ⟨(Nat.le_of_ble_eq_true rfl), (Nat.le_of_ble_eq_true rfl)⟩) (gP.s (hg.on hS) (⟨hP, hD⟩)) rfl rfl hl.1 rfl (lv_room (Nat.le_of_ble_eq_true rfl)) dL_step_277 ⟨(Nat.le_of_ble_eq_true rfl), (Nat.le_of_ble_eq_true rfl)⟩) hS (fun q _ h => h) (fun q h => h) (fun r_13 ur_13 tr_13 H locs htr_13 hvmr_13 hr_13 hB hzr_13 hkr_13 hS => ?_)
                rw [htr_13] at hB
                obtain ⟨hP, hD⟩ := hB
                refine W.widen (k := 3) (n := 18) (Nat.le_of_ble_eq_true rfl) (Nat.le_of_ble_eq_true rfl) ?_
                have hP : va_P D vwCl (WD cI cO a FA nC nR nL nF par wt (fun r => nI (sk r)) (fun r => nI (fk r)) hd rea sig ++ (WF FA ck cf cd cv nx nF ++ (LR cI pb rb cb pv rv kv))) H := hP
                have hD : va_D A (WD cI cO a FA nC nR nL nF par wt (fun r => nI (sk r)) (fun r => nI (fk r)) hd rea sig ++ (WF FA ck cf cd cv nx nF ++ (LR cI pb rb cb pv rv kv))) := hD
                obtain rfl : r_13 = (-8) := hr_13
                refine lv_istore (lv' := [(9, .int (-8)), (8, .int (nI c2)), (7, .int (nI c1)), (0, .ref (a 0)), (1, .int (nI what)), (2, .int (nI x)), (3, .int (nI y)), (4, .ref pb), (5, .ref rb), (6, .ref cb)]) hx hb dL_step_280 hl (by decide) rfl (fun ls hl => ?_)
                refine lv_iload hx hb dL_step_282 (lv_at hl 2 rfl) ?_
                refine lv_iload hx hb dL_step_284 (lv_at hl 1 rfl) ?_
                refine lv_icmp_eq (tgt := 297) hx hb dL_step_286 (by decide) (fun c_286 => ?_) (fun c_286 => ?_)
                · skip
                  exact absurd ((nI_eq (by omega) (by omega)).mp c_286) heq
                · skip
                  refine lv_aload hx hb dL_step_289 (lv_at hl 9 rfl) ?_
                  refine lv_iconst (v := 1) hx hb dL_step_291 (by decide) ?_
                  refine g_iald hx hb hK hP (11 + nF + 2) 0 (n := 4) (f := kv) (WDRj 2 rfl) rfl 1 rfl (by omega) (by decide) dL_step_292 ?_
                  refine lv_topi (fun dv edv => ?_)
                  obtain rfl : dv = nI nR := by rw [edv]; exact hk1
                  refine lv_iconst (v := 5) hx hb dL_step_293 (by decide) ?_
                  refine lv_icmp_ne (tgt := 322) hx hb dL_step_294 (by decide) (fun c_294 => ?_) (fun c_294 => ?_)
                  · skip
                    exact absurd (by rw [show nR = 5 by omega]; rfl) c_294
                  · skip
                    refine lv_iload hx hb dL_step_297 (lv_at hl 0 rfl) ?_
                    refine lv_iload hx hb dL_step_299 (lv_at hl 2 rfl) ?_
                    refine lv_iload hx hb dL_step_301 (lv_at hl 1 rfl) ?_
                    refine lv_icmp_ne (tgt := 311) hx hb dL_step_303 (by decide) (fun c_303 => ?_) (fun c_303 => ?_)
                    · skip
                      refine lv_bipush (v := (-8)) hx hb dL_step_311 (by decide) ?_
                      refine lv_icmp_ne (tgt := 320) hx hb dL_step_313 (by decide) (fun c_313 => ?_) (fun c_313 => ?_)
                      · skip
                        exact absurd c_313 (by decide)
                      · skip
                        refine lv_iconst (v := 1) hx hb dL_step_316 (by decide) ?_
                        refine lv_goto (tgt := 321) hx hb dL_step_317 (by decide) ?_
                        exact W.widen (k := 34) (n := 204) (Nat.le_of_ble_eq_true rfl) (Nat.le_of_ble_eq_true rfl) (W.zret (v := 1) hx hb hr (rfl) (fun t ht hW => ⟨⟨1, (), rfl, rfl, (by show lI D cI cO A a pb rb cb 1 t.heap; rw [ht]; exact lI_mk (n0 := 1) (by omega) hOk hpk hrk hkk hP hD)⟩, hS.F ht⟩) hS.2.2 dL_step_321)
                    · skip
                      exact absurd ((nI_eq (by omega) (by omega)).mp c_303) heq
        · skip
          refine lv_iload_n hx hb dL_step_195 rfl (lv_at hl 3 rfl) ?_
          refine lv_iconst (v := 4) hx hb dL_step_196 (by decide) ?_
          refine lv_irem hx hb dL_step_197 (by decide) ?_
          refine lv_topi (fun dv edv => ?_)
          obtain rfl : dv = nI (y % 4) := by rw [edv]; exact pk_rem (a := y) (d := 4) (by omega) (by omega) (by omega)
          refine lv_if_le (tgt := 203) hx hb dL_step_198 (by decide) (fun c_198 => ?_) (fun c_198 => ?_)
          · skip
            refine lv_aload hx hb dL_step_203 (lv_at hl 4 rfl) ?_
            refine lv_iload_n hx hb dL_step_205 rfl (lv_at hl 2 rfl) ?_
            refine lv_aload hx hb dL_step_206 (lv_at hl 6 rfl) ?_
            refine lv_iconst (v := 0) hx hb dL_step_208 (by decide) ?_
            refine g_iald hx hb hK hP (11 + nF + 2) 0 (n := 4) (f := kv) (WDRj 2 rfl) rfl 0 rfl (by omega) (by decide) dL_step_209 ?_
            refine lv_topi (fun dv edv => ?_)
            obtain rfl : dv = nI nC := by rw [edv]; exact hk0
            refine lv_irem hx hb dL_step_210 (nI_ne0 (by omega) (by omega)) ?_
            refine lv_topi (fun dv edv => ?_)
            obtain ⟨c1, hc1, ec1, rfl⟩ : ∃ z : Nat, z < nC ∧ z = x % nC ∧ dv = nI z := ⟨x % nC, Nat.mod_lt _ (by omega), rfl, by rw [edv]; exact pk_rem (a := x) (d := nC) (by omega) (by omega) (by omega)⟩
            refine g_csi (va_runS (As := [.ref pb, .int (nI c1)]) (rest := []) ⟨hx, hb, hml, hown, hts⟩ (kL_under l D cI cZ cO cL dt A a FA nC nR nL nF par wt sk fk hd rea sig ck cf cd cv nx pb rb cb pv rv kv L c1 hpk hC12 hc1) (va_cwS 2 hts gL_step_L_under rfl rfl rfl (by decide +kernel) ⟨(Nat.le_of_ble_eq_true rfl), (Nat.le_of_ble_eq_true rfl)⟩) (gP.s (hg.on hS) hP) rfl rfl hl.1 rfl (lv_room (Nat.le_of_ble_eq_true rfl)) dL_step_211 ⟨(Nat.le_of_ble_eq_true rfl), (Nat.le_of_ble_eq_true rfl)⟩) (fun r_14 hr_14 => ?_)
            obtain rfl : r_14 = par c1 := hr_14
            refine lv_istore (lv' := [(7, .int (par c1)), (0, .ref (a 0)), (1, .int (nI what)), (2, .int (nI x)), (3, .int (nI y)), (4, .ref pb), (5, .ref rb), (6, .ref cb)]) hx hb dL_step_214 hl (by decide) rfl (fun ls hl => ?_)
            refine lv_aload hx hb dL_step_216 (lv_at hl 5 rfl) ?_
            refine lv_iload_n hx hb dL_step_218 rfl (lv_at hl 3 rfl) ?_
            refine lv_aload hx hb dL_step_219 (lv_at hl 7 rfl) ?_
            refine lv_iconst (v := 0) hx hb dL_step_221 (by decide) ?_
            refine g_iald hx hb hK hP (11 + nF + 2) 0 (n := 4) (f := kv) (WDRj 2 rfl) rfl 0 rfl (by omega) (by decide) dL_step_222 ?_
            refine lv_topi (fun dv edv => ?_)
            obtain rfl : dv = nI nC := by rw [edv]; exact hk0
            refine lv_irem hx hb dL_step_223 (nI_ne0 (by omega) (by omega)) ?_
            refine lv_topi (fun dv edv => ?_)
            obtain rfl : dv = nI c1 := by rw [edv, ec1]; exact pk_rem (a := x) (d := nC) (by omega) (by omega) (by omega)
            refine lv_iconst (v := 0) hx hb dL_step_224 (by decide) ?_
            refine g_iast hx hb hK hP hD hS (11 + nF + 0) 0 (n := 12) (f := pv) (WDRj 0 rfl) rfl c1 rfl (by omega) (by decide) dL_step_225 (WD cI cO a FA nC nR nL nF par wt (fun r => nI (sk r)) (fun r => nI (fk r)) hd rea sig ++ (WF FA ck cf cd cv nx nF ++ (LR cI pb rb cb (upd pv c1 0) rv kv))) (WDRs 0 rfl) (fun H locs hP hD hS => ?_)
            have hP : va_P D vwCl (WD cI cO a FA nC nR nL nF par wt (fun r => nI (sk r)) (fun r => nI (fk r)) hd rea sig ++ (WF FA ck cf cd cv nx nF ++ (LR cI pb rb cb (upd pv c1 0) rv kv))) H := hP
            have hD : va_D A (WD cI cO a FA nC nR nL nF par wt (fun r => nI (sk r)) (fun r => nI (fk r)) hd rea sig ++ (WF FA ck cf cd cv nx nF ++ (LR cI pb rb cb (upd pv c1 0) rv kv))) := hD
            refine lv_aload_n hx hb dL_step_226 rfl (lv_at hl 1 rfl) ?_
            refine lv_iload_n hx hb dL_step_227 rfl (lv_at hl 3 rfl) ?_
            refine lv_aload hx hb dL_step_228 (lv_at hl 7 rfl) ?_
            refine lv_iconst (v := 0) hx hb dL_step_230 (by decide) ?_
            refine g_iald hx hb hK hP (11 + nF + 2) 0 (n := 4) (f := kv) (WDRj 2 rfl) rfl 0 rfl (by omega) (by decide) dL_step_231 ?_
            refine lv_topi (fun dv edv => ?_)
            obtain rfl : dv = nI nC := by rw [edv]; exact hk0
            refine lv_irem hx hb dL_step_232 (nI_ne0 (by omega) (by omega)) ?_
            refine lv_topi (fun dv edv => ?_)
            obtain rfl : dv = nI c1 := by rw [edv, ec1]; exact pk_rem (a := x) (d := nC) (by omega) (by omega) (by omega)
            refine va_calli (va_runV (As := [.int (nI c1)]) (rest := []) ⟨hx, hb, hml, hown, hts⟩ (m4_unhang l D cI cZ cO cL dt A a FA nC nR nL nF par wt (fun r => nI (sk r)) (fun r => nI (fk r)) hd rea sig ck cf cd cv nx (LR cI pb rb cb (upd pv c1 0) rv kv) c1 hlt hC12 hL8 hc1) (cwV 1 hts gL_step_X4_unhang rfl rfl rfl (by decide +kernel) ⟨(Nat.le_of_ble_eq_true rfl), (Nat.le_of_ble_eq_true rfl)⟩) (gP.v (hg.on hS) hP 3 rfl 0 rfl (⟨hP, hD⟩)) rfl rfl hl.1 rfl (lv_room (Nat.le_of_ble_eq_true rfl)) dL_step_233 ⟨(Nat.le_of_ble_eq_true rfl), (Nat.le_of_ble_eq_true rfl)⟩) hS (fun q _ h => h) (fun q h => h) (fun r_15 ur_15 tr_15 H locs htr_15 hvmr_15 hr_15 hB hzr_15 hkr_15 hS => ?_)
            rw [htr_15] at hB
            obtain ⟨q1, q2⟩ := hr_15
            rw [q1] at hB
            obtain ⟨hP, hD⟩ := hB
            refine W.widen (k := 1) (n := 6) (Nat.le_of_ble_eq_true rfl) (Nat.le_of_ble_eq_true rfl) ?_
            have hP : va_P D vwCl (WD cI cO a FA nC nR nL nF (upd par c1 (-1)) wt (fun r => nI (sk r)) (fun r => nI (fk r)) hd rea sig ++ (WF FA ck cf cd cv nx nF ++ (LR cI pb rb cb (upd pv c1 0) rv kv))) H := hP
            have hD : va_D A (WD cI cO a FA nC nR nL nF (upd par c1 (-1)) wt (fun r => nI (sk r)) (fun r => nI (fk r)) hd rea sig ++ (WF FA ck cf cd cv nx nF ++ (LR cI pb rb cb (upd pv c1 0) rv kv))) := hD
            obtain rfl : r_15 = par c1 := q2
            have hOk9 := sOk_unhang hOk c1
            have hpk9 := pOk_unhang hpk c1
            refine lv_iload hx hb dL_step_236 (lv_at hl 0 rfl) ?_
            refine lv_icmp_ne (tgt := 245) hx hb dL_step_238 (by decide) (fun c_238 => ?_) (fun c_238 => ?_)
            · skip
              exact absurd rfl c_238
            · skip
              refine lv_iconst (v := 1) hx hb dL_step_241 (by decide) ?_
              refine lv_goto (tgt := 246) hx hb dL_step_242 (by decide) ?_
              exact W.widen (k := 34) (n := 204) (Nat.le_of_ble_eq_true rfl) (Nat.le_of_ble_eq_true rfl) (W.zret (v := 1) hx hb hr (rfl) (fun t ht hW => ⟨⟨1, (), rfl, rfl, (by show lI D cI cO A a pb rb cb 1 t.heap; rw [ht]; exact lI_mk (n0 := 1) (by omega) hOk9 hpk9 hrk hkk hP hD)⟩, hS.F ht⟩) hS.2.2 dL_step_246)
          · skip
            refine lv_iconst (v := 1) hx hb dL_step_201 (by decide) ?_
            exact W.widen (k := 34) (n := 204) (Nat.le_of_ble_eq_true rfl) (Nat.le_of_ble_eq_true rfl) (W.zret (v := 1) hx hb hr (rfl) (fun t ht hW => ⟨⟨1, (), rfl, rfl, (by show lI D cI cO A a pb rb cb 1 t.heap; rw [ht]; exact lI_mk (n0 := 1) (by omega) hOk hpk hrk hkk hP hD)⟩, hS.F ht⟩) hS.2.2 dL_step_202)
      · skip
        refine lv_iload_n hx hb dL_step_63 rfl (lv_at hl 2 rfl) ?_
        refine lv_aload hx hb dL_step_64 (lv_at hl 6 rfl) ?_
        refine lv_iconst (v := 0) hx hb dL_step_66 (by decide) ?_
        refine g_iald hx hb hK hP (11 + nF + 2) 0 (n := 4) (f := kv) (WDRj 2 rfl) rfl 0 rfl (by omega) (by decide) dL_step_67 ?_
        refine lv_topi (fun dv edv => ?_)
        obtain rfl : dv = nI nC := by rw [edv]; exact hk0
        refine lv_irem hx hb dL_step_68 (nI_ne0 (by omega) (by omega)) ?_
        refine lv_topi (fun dv edv => ?_)
        obtain ⟨c1, hc1, ec1, rfl⟩ : ∃ z : Nat, z < nC ∧ z = x % nC ∧ dv = nI z := ⟨x % nC, Nat.mod_lt _ (by omega), rfl, by rw [edv]; exact pk_rem (a := x) (d := nC) (by omega) (by omega) (by omega)⟩
        refine lv_istore (lv' := [(7, .int (nI c1)), (0, .ref (a 0)), (1, .int (nI what)), (2, .int (nI x)), (3, .int (nI y)), (4, .ref pb), (5, .ref rb), (6, .ref cb)]) hx hb dL_step_69 hl (by decide) rfl (fun ls hl => ?_)
        refine lv_iload_n hx hb dL_step_71 rfl (lv_at hl 3 rfl) ?_
        refine lv_bipush (v := 12) hx hb dL_step_72 (by decide) ?_
        refine lv_idiv hx hb dL_step_74 (by decide) ?_
        refine lv_topi (fun dv edv => ?_)
        obtain rfl : dv = nI (x / 12) := by rw [edv]; exact pk_div (a := x) (d := 12) (by omega) (by omega) (by omega)
        refine lv_aload hx hb dL_step_75 (lv_at hl 7 rfl) ?_
        refine lv_iconst (v := 0) hx hb dL_step_77 (by decide) ?_
        refine g_iald hx hb hK hP (11 + nF + 2) 0 (n := 4) (f := kv) (WDRj 2 rfl) rfl 0 rfl (by omega) (by decide) dL_step_78 ?_
        refine lv_topi (fun dv edv => ?_)
        obtain rfl : dv = nI nC := by rw [edv]; exact hk0
        refine lv_irem hx hb dL_step_79 (nI_ne0 (by omega) (by omega)) ?_
        refine lv_topi (fun dv edv => ?_)
        obtain ⟨c2, hc2, ec2, rfl⟩ : ∃ z : Nat, z < nC ∧ z = (x / 12) % nC ∧ dv = nI z := ⟨(x / 12) % nC, Nat.mod_lt _ (by omega), rfl, by rw [edv]; exact pk_rem (a := (x / 12)) (d := nC) (by omega) (by omega) (by omega)⟩
        refine lv_istore (lv' := [(8, .int (nI c2)), (7, .int (nI c1)), (0, .ref (a 0)), (1, .int (nI what)), (2, .int (nI x)), (3, .int (nI y)), (4, .ref pb), (5, .ref rb), (6, .ref cb)]) hx hb dL_step_80 hl (by decide) rfl (fun ls hl => ?_)
        refine lv_aload hx hb dL_step_82 (lv_at hl 6 rfl) ?_
        refine lv_iload hx hb dL_step_84 (lv_at hl 0 rfl) ?_
        refine lv_iload hx hb dL_step_86 (lv_at hl 1 rfl) ?_
        refine g_csi (va_runS (As := [.ref pb, .int (nI c2), .int (nI c1)]) (rest := []) ⟨hx, hb, hml, hown, hts⟩ (kL_hangsUnder l D cI cZ cO cL dt A a FA nC nR nL nF par wt sk fk hd rea sig ck cf cd cv nx pb rb cb pv rv kv L c2 c1 hpk hC12 hT hc2 hc1) (va_cwS 3 hts gL_step_L_hangsUnder rfl rfl rfl (by decide +kernel) ⟨(Nat.le_of_ble_eq_true rfl), (Nat.le_of_ble_eq_true rfl)⟩) (gP.s (hg.on hS) hP) rfl rfl hl.1 rfl (lv_room (Nat.le_of_ble_eq_true rfl)) dL_step_88 ⟨(Nat.le_of_ble_eq_true rfl), (Nat.le_of_ble_eq_true rfl)⟩) (fun r_16 hr_16 => ?_)
        obtain rfl : r_16 = bI (anc par (nI c1) L (nI c2) = true) := hr_16
        refine lv_if_ne (tgt := 98) hx hb dL_step_91 (by decide) (fun c_91 => ?_) (fun c_91 => ?_)
        · skip
          have c_91 := bI_n c_91
          refine lv_iconst (v := 0) hx hb dL_step_98 (by decide) ?_
          refine lv_istore (lv' := [(9, .int 0), (8, .int (nI c2)), (7, .int (nI c1)), (0, .ref (a 0)), (1, .int (nI what)), (2, .int (nI x)), (3, .int (nI y)), (4, .ref pb), (5, .ref rb), (6, .ref cb)]) hx hb dL_step_99 hl (by decide) rfl (fun ls hl => ?_)
          refine lv_aload hx hb dL_step_101 (lv_at hl 7 rfl) ?_
          refine lv_iload hx hb dL_step_103 (lv_at hl 2 rfl) ?_
          refine g_csi (va_runS (As := [.ref pb, .int (nI c1)]) (rest := []) ⟨hx, hb, hml, hown, hts⟩ (kL_under l D cI cZ cO cL dt A a FA nC nR nL nF par wt sk fk hd rea sig ck cf cd cv nx pb rb cb pv rv kv L c1 hpk hC12 hc1) (va_cwS 2 hts gL_step_L_under rfl rfl rfl (by decide +kernel) ⟨(Nat.le_of_ble_eq_true rfl), (Nat.le_of_ble_eq_true rfl)⟩) (gP.s (hg.on hS) hP) rfl rfl hl.1 rfl (lv_room (Nat.le_of_ble_eq_true rfl)) dL_step_105 ⟨(Nat.le_of_ble_eq_true rfl), (Nat.le_of_ble_eq_true rfl)⟩) (fun r_17 hr_17 => ?_)
          obtain rfl : r_17 = par c1 := hr_17
          refine lv_istore (lv' := [(10, .int (par c1)), (9, .int 0), (8, .int (nI c2)), (7, .int (nI c1)), (0, .ref (a 0)), (1, .int (nI what)), (2, .int (nI x)), (3, .int (nI y)), (4, .ref pb), (5, .ref rb), (6, .ref cb)]) hx hb dL_step_108 hl (by decide) rfl (fun ls hl => ?_)
          refine lv_aload_n hx hb dL_step_110 rfl (lv_at hl 4 rfl) ?_
          refine lv_iload hx hb dL_step_111 (lv_at hl 3 rfl) ?_
          refine lv_iload hx hb dL_step_113 (lv_at hl 2 rfl) ?_
          refine lv_iload_n hx hb dL_step_115 rfl (lv_at hl 7 rfl) ?_
          refine lv_iconst (v := 3) hx hb dL_step_116 (by decide) ?_
          refine lv_irem hx hb dL_step_117 (by decide) ?_
          refine lv_topi (fun dv edv => ?_)
          obtain rfl : dv = nI (y % 3) := by rw [edv]; exact pk_rem (a := y) (d := 3) (by omega) (by omega) (by omega)
          refine lv_if_le (tgt := 125) hx hb dL_step_118 (by decide) (fun c_118 => ?_) (fun c_118 => ?_)
          · skip
            refine lv_iconst (v := 0) hx hb dL_step_125 (by decide) ?_
            refine va_calli (vx_runSW (hh := [(0, 7, 8, 29)]) (As := [.ref (a 0), .int (nI c1), .int (nI c2), .int 0]) (rest := []) ⟨hx, hb, hml, hown, hts⟩ (kL_hangs_1 l D cI cZ cO cL dt A a FA nC nR nL nF par wt sk fk hd rea sig ck cf cd cv nx pb rb cb pv rv kv L c1 c2 0 hlt hOk hc1 hc2 c_91) (vx_cwSW 4 hts gL_step_L_hangs rfl rfl rfl (by decide +kernel) ⟨(Nat.le_of_ble_eq_true rfl), (Nat.le_of_ble_eq_true rfl)⟩) (gP.s (hg.on hS) (⟨hP, hD⟩)) rfl rfl hl.1 rfl (lv_room (Nat.le_of_ble_eq_true rfl)) dL_step_126 ⟨(Nat.le_of_ble_eq_true rfl), (Nat.le_of_ble_eq_true rfl)⟩) hS (fun q _ h => h) (fun q h => h) (fun r_18 ur_18 tr_18 H locs htr_18 hvmr_18 hr_18 hB hzr_18 hkr_18 hS => ?_)
            rw [htr_18] at hB
            obtain ⟨hP, hD⟩ := hB
            refine W.widen (k := 3) (n := 18) (Nat.le_of_ble_eq_true rfl) (Nat.le_of_ble_eq_true rfl) ?_
            have hP : va_P D vwCl (WD cI cO a FA nC nR nL nF par wt (fun r => nI (sk r)) (fun r => nI (fk r)) hd rea sig ++ (WF FA ck cf cd cv nx nF ++ (LR cI pb rb cb pv rv kv))) H := hP
            have hD : va_D A (WD cI cO a FA nC nR nL nF par wt (fun r => nI (sk r)) (fun r => nI (fk r)) hd rea sig ++ (WF FA ck cf cd cv nx nF ++ (LR cI pb rb cb pv rv kv))) := hD
            obtain rfl : r_18 = (-9) := hr_18
            refine lv_istore (lv' := [(11, .int (-9)), (10, .int (par c1)), (9, .int 0), (8, .int (nI c2)), (7, .int (nI c1)), (0, .ref (a 0)), (1, .int (nI what)), (2, .int (nI x)), (3, .int (nI y)), (4, .ref pb), (5, .ref rb), (6, .ref cb)]) hx hb dL_step_129 hl (by decide) rfl (fun ls hl => ?_)
            refine lv_aload hx hb dL_step_131 (lv_at hl 9 rfl) ?_
            refine lv_iload hx hb dL_step_133 (lv_at hl 4 rfl) ?_
            refine lv_iload hx hb dL_step_135 (lv_at hl 2 rfl) ?_
            refine lv_if_eq (tgt := 161) hx hb dL_step_137 (by decide) (fun c_137 => ?_) (fun c_137 => ?_)
            · skip
              refine lv_aload hx hb dL_step_161 (lv_at hl 9 rfl) ?_
              refine lv_iload hx hb dL_step_163 (lv_at hl 4 rfl) ?_
              refine g_iald hx hb hK hP (11 + nF + 0) 0 (n := 12) (f := pv) (WDRj 0 rfl) rfl c1 rfl (by omega) (by decide) dL_step_165 ?_
              refine g_iast hx hb hK hP hD hS (11 + nF + 0) 0 (n := 12) (f := pv) (WDRj 0 rfl) rfl c1 rfl (by omega) (by decide) dL_step_166 (WD cI cO a FA nC nR nL nF par wt (fun r => nI (sk r)) (fun r => nI (fk r)) hd rea sig ++ (WF FA ck cf cd cv nx nF ++ (LR cI pb rb cb (upd pv c1 (pv c1)) rv kv))) (WDRs 0 rfl) (fun H locs hP hD hS => ?_)
              rw [upd_self] at hP hD
              have hP : va_P D vwCl (WD cI cO a FA nC nR nL nF par wt (fun r => nI (sk r)) (fun r => nI (fk r)) hd rea sig ++ (WF FA ck cf cd cv nx nF ++ (LR cI pb rb cb pv rv kv))) H := hP
              have hD : va_D A (WD cI cO a FA nC nR nL nF par wt (fun r => nI (sk r)) (fun r => nI (fk r)) hd rea sig ++ (WF FA ck cf cd cv nx nF ++ (LR cI pb rb cb pv rv kv))) := hD
              refine lv_iload hx hb dL_step_167 (lv_at hl 0 rfl) ?_
              refine lv_iload hx hb dL_step_169 (lv_at hl 2 rfl) ?_
              refine lv_if_eq (tgt := 179) hx hb dL_step_171 (by decide) (fun c_171 => ?_) (fun c_171 => ?_)
              · skip
                refine lv_bipush (v := (-9)) hx hb dL_step_179 (by decide) ?_
                refine lv_icmp_ne (tgt := 188) hx hb dL_step_181 (by decide) (fun c_181 => ?_) (fun c_181 => ?_)
                · skip
                  exact absurd c_181 (by decide)
                · skip
                  refine lv_iconst (v := 1) hx hb dL_step_184 (by decide) ?_
                  refine lv_goto (tgt := 189) hx hb dL_step_185 (by decide) ?_
                  exact W.widen (k := 34) (n := 204) (Nat.le_of_ble_eq_true rfl) (Nat.le_of_ble_eq_true rfl) (W.zret (v := 1) hx hb hr (rfl) (fun t ht hW => ⟨⟨1, (), rfl, rfl, (by show lI D cI cO A a pb rb cb 1 t.heap; rw [ht]; exact lI_mk (n0 := 1) (by omega) hOk hpk hrk hkk hP hD)⟩, hS.F ht⟩) hS.2.2 dL_step_189)
              · skip
                exact absurd c_171 (by decide)
            · skip
              exact absurd c_137 (by decide)
          · skip
            refine lv_iconst (v := 1) hx hb dL_step_121 (by decide) ?_
            refine lv_goto (tgt := 126) hx hb dL_step_122 (by decide) ?_
            refine va_calli (vx_runSW (hh := [(0, 7, 8, 29)]) (As := [.ref (a 0), .int (nI c1), .int (nI c2), .int 1]) (rest := []) ⟨hx, hb, hml, hown, hts⟩ (kL_hangs_1 l D cI cZ cO cL dt A a FA nC nR nL nF par wt sk fk hd rea sig ck cf cd cv nx pb rb cb pv rv kv L c1 c2 1 hlt hOk hc1 hc2 c_91) (vx_cwSW 4 hts gL_step_L_hangs rfl rfl rfl (by decide +kernel) ⟨(Nat.le_of_ble_eq_true rfl), (Nat.le_of_ble_eq_true rfl)⟩) (gP.s (hg.on hS) (⟨hP, hD⟩)) rfl rfl hl.1 rfl (lv_room (Nat.le_of_ble_eq_true rfl)) dL_step_126 ⟨(Nat.le_of_ble_eq_true rfl), (Nat.le_of_ble_eq_true rfl)⟩) hS (fun q _ h => h) (fun q h => h) (fun r_19 ur_19 tr_19 H locs htr_19 hvmr_19 hr_19 hB hzr_19 hkr_19 hS => ?_)
            rw [htr_19] at hB
            obtain ⟨hP, hD⟩ := hB
            refine W.widen (k := 3) (n := 18) (Nat.le_of_ble_eq_true rfl) (Nat.le_of_ble_eq_true rfl) ?_
            have hP : va_P D vwCl (WD cI cO a FA nC nR nL nF par wt (fun r => nI (sk r)) (fun r => nI (fk r)) hd rea sig ++ (WF FA ck cf cd cv nx nF ++ (LR cI pb rb cb pv rv kv))) H := hP
            have hD : va_D A (WD cI cO a FA nC nR nL nF par wt (fun r => nI (sk r)) (fun r => nI (fk r)) hd rea sig ++ (WF FA ck cf cd cv nx nF ++ (LR cI pb rb cb pv rv kv))) := hD
            obtain rfl : r_19 = (-9) := hr_19
            refine lv_istore (lv' := [(11, .int (-9)), (10, .int (par c1)), (9, .int 0), (8, .int (nI c2)), (7, .int (nI c1)), (0, .ref (a 0)), (1, .int (nI what)), (2, .int (nI x)), (3, .int (nI y)), (4, .ref pb), (5, .ref rb), (6, .ref cb)]) hx hb dL_step_129 hl (by decide) rfl (fun ls hl => ?_)
            refine lv_aload hx hb dL_step_131 (lv_at hl 9 rfl) ?_
            refine lv_iload hx hb dL_step_133 (lv_at hl 4 rfl) ?_
            refine lv_iload hx hb dL_step_135 (lv_at hl 2 rfl) ?_
            refine lv_if_eq (tgt := 161) hx hb dL_step_137 (by decide) (fun c_137 => ?_) (fun c_137 => ?_)
            · skip
              refine lv_aload hx hb dL_step_161 (lv_at hl 9 rfl) ?_
              refine lv_iload hx hb dL_step_163 (lv_at hl 4 rfl) ?_
              refine g_iald hx hb hK hP (11 + nF + 0) 0 (n := 12) (f := pv) (WDRj 0 rfl) rfl c1 rfl (by omega) (by decide) dL_step_165 ?_
              refine g_iast hx hb hK hP hD hS (11 + nF + 0) 0 (n := 12) (f := pv) (WDRj 0 rfl) rfl c1 rfl (by omega) (by decide) dL_step_166 (WD cI cO a FA nC nR nL nF par wt (fun r => nI (sk r)) (fun r => nI (fk r)) hd rea sig ++ (WF FA ck cf cd cv nx nF ++ (LR cI pb rb cb (upd pv c1 (pv c1)) rv kv))) (WDRs 0 rfl) (fun H locs hP hD hS => ?_)
              rw [upd_self] at hP hD
              have hP : va_P D vwCl (WD cI cO a FA nC nR nL nF par wt (fun r => nI (sk r)) (fun r => nI (fk r)) hd rea sig ++ (WF FA ck cf cd cv nx nF ++ (LR cI pb rb cb pv rv kv))) H := hP
              have hD : va_D A (WD cI cO a FA nC nR nL nF par wt (fun r => nI (sk r)) (fun r => nI (fk r)) hd rea sig ++ (WF FA ck cf cd cv nx nF ++ (LR cI pb rb cb pv rv kv))) := hD
              refine lv_iload hx hb dL_step_167 (lv_at hl 0 rfl) ?_
              refine lv_iload hx hb dL_step_169 (lv_at hl 2 rfl) ?_
              refine lv_if_eq (tgt := 179) hx hb dL_step_171 (by decide) (fun c_171 => ?_) (fun c_171 => ?_)
              · skip
                refine lv_bipush (v := (-9)) hx hb dL_step_179 (by decide) ?_
                refine lv_icmp_ne (tgt := 188) hx hb dL_step_181 (by decide) (fun c_181 => ?_) (fun c_181 => ?_)
                · skip
                  exact absurd c_181 (by decide)
                · skip
                  refine lv_iconst (v := 1) hx hb dL_step_184 (by decide) ?_
                  refine lv_goto (tgt := 189) hx hb dL_step_185 (by decide) ?_
                  exact W.widen (k := 34) (n := 204) (Nat.le_of_ble_eq_true rfl) (Nat.le_of_ble_eq_true rfl) (W.zret (v := 1) hx hb hr (rfl) (fun t ht hW => ⟨⟨1, (), rfl, rfl, (by show lI D cI cO A a pb rb cb 1 t.heap; rw [ht]; exact lI_mk (n0 := 1) (by omega) hOk hpk hrk hkk hP hD)⟩, hS.F ht⟩) hS.2.2 dL_step_189)
              · skip
                exact absurd c_171 (by decide)
            · skip
              exact absurd c_137 (by decide)
        · skip
          have c_91 := bI_z c_91
          have ha : anc par (nI c1) L (nI c2) = false := Bool.eq_false_iff.mpr c_91
          refine lv_iconst (v := 1) hx hb dL_step_94 (by decide) ?_
          refine lv_goto (tgt := 99) hx hb dL_step_95 (by decide) ?_
          refine lv_istore (lv' := [(9, .int 1), (8, .int (nI c2)), (7, .int (nI c1)), (0, .ref (a 0)), (1, .int (nI what)), (2, .int (nI x)), (3, .int (nI y)), (4, .ref pb), (5, .ref rb), (6, .ref cb)]) hx hb dL_step_99 hl (by decide) rfl (fun ls hl => ?_)
          refine lv_aload hx hb dL_step_101 (lv_at hl 7 rfl) ?_
          refine lv_iload hx hb dL_step_103 (lv_at hl 2 rfl) ?_
          refine g_csi (va_runS (As := [.ref pb, .int (nI c1)]) (rest := []) ⟨hx, hb, hml, hown, hts⟩ (kL_under l D cI cZ cO cL dt A a FA nC nR nL nF par wt sk fk hd rea sig ck cf cd cv nx pb rb cb pv rv kv L c1 hpk hC12 hc1) (va_cwS 2 hts gL_step_L_under rfl rfl rfl (by decide +kernel) ⟨(Nat.le_of_ble_eq_true rfl), (Nat.le_of_ble_eq_true rfl)⟩) (gP.s (hg.on hS) hP) rfl rfl hl.1 rfl (lv_room (Nat.le_of_ble_eq_true rfl)) dL_step_105 ⟨(Nat.le_of_ble_eq_true rfl), (Nat.le_of_ble_eq_true rfl)⟩) (fun r_20 hr_20 => ?_)
          obtain rfl : r_20 = par c1 := hr_20
          refine lv_istore (lv' := [(10, .int (par c1)), (9, .int 1), (8, .int (nI c2)), (7, .int (nI c1)), (0, .ref (a 0)), (1, .int (nI what)), (2, .int (nI x)), (3, .int (nI y)), (4, .ref pb), (5, .ref rb), (6, .ref cb)]) hx hb dL_step_108 hl (by decide) rfl (fun ls hl => ?_)
          refine lv_aload_n hx hb dL_step_110 rfl (lv_at hl 4 rfl) ?_
          refine lv_iload hx hb dL_step_111 (lv_at hl 3 rfl) ?_
          refine lv_iload hx hb dL_step_113 (lv_at hl 2 rfl) ?_
          refine lv_iload_n hx hb dL_step_115 rfl (lv_at hl 7 rfl) ?_
          refine lv_iconst (v := 3) hx hb dL_step_116 (by decide) ?_
          refine lv_irem hx hb dL_step_117 (by decide) ?_
          refine lv_topi (fun dv edv => ?_)
          obtain rfl : dv = nI (y % 3) := by rw [edv]; exact pk_rem (a := y) (d := 3) (by omega) (by omega) (by omega)
          refine lv_if_le (tgt := 125) hx hb dL_step_118 (by decide) (fun c_118 => ?_) (fun c_118 => ?_)
          · skip
            refine lv_iconst (v := 0) hx hb dL_step_125 (by decide) ?_
            refine va_calli (vx_runSW (hh := [(0, 7, 8, 29)]) (As := [.ref (a 0), .int (nI c1), .int (nI c2), .int 0]) (rest := []) ⟨hx, hb, hml, hown, hts⟩ (kL_hangs_0 l D cI cZ cO cL dt A a FA nC nR nL nF par wt sk fk hd rea sig ck cf cd cv nx pb rb cb pv rv kv L c1 c2 0 hlt hOk hc1 hc2 ha) (vx_cwSW 4 hts gL_step_L_hangs rfl rfl rfl (by decide +kernel) ⟨(Nat.le_of_ble_eq_true rfl), (Nat.le_of_ble_eq_true rfl)⟩) (gP.s (hg.on hS) (⟨hP, hD⟩)) rfl rfl hl.1 rfl (lv_room (Nat.le_of_ble_eq_true rfl)) dL_step_126 ⟨(Nat.le_of_ble_eq_true rfl), (Nat.le_of_ble_eq_true rfl)⟩) hS (fun q _ h => h) (fun q h => h) (fun r_21 ur_21 tr_21 H locs htr_21 hvmr_21 hr_21 hB hzr_21 hkr_21 hS => ?_)
            rw [htr_21] at hB
            obtain ⟨hP, hD⟩ := hB
            refine W.widen (k := 3) (n := 18) (Nat.le_of_ble_eq_true rfl) (Nat.le_of_ble_eq_true rfl) ?_
            have hP : va_P D vwCl (WD cI cO a FA nC nR nL nF (upd par c1 (nI c2)) (upd wt c1 (if 0 = 0 then -1 else 1)) (fun r => nI (sk r)) (fun r => nI (fk r)) hd rea sig ++ (WF FA ck cf cd cv nx nF ++ (LR cI pb rb cb pv rv kv))) H := hP
            have hD : va_D A (WD cI cO a FA nC nR nL nF (upd par c1 (nI c2)) (upd wt c1 (if 0 = 0 then -1 else 1)) (fun r => nI (sk r)) (fun r => nI (fk r)) hd rea sig ++ (WF FA ck cf cd cv nx nF ++ (LR cI pb rb cb pv rv kv))) := hD
            obtain rfl : r_21 = par c1 := hr_21
            obtain ⟨L9, hOk9⟩ := sOk_hang hOk hc1 hc2 ha (w := (if (0 : Int32) = 0 then -1 else 1)) (Or.inr (Or.inl rfl))
            have hpk9 := pOk_hang0 hpk (c := c1) hc2
            refine lv_istore (lv' := [(11, .int (par c1)), (10, .int (par c1)), (9, .int 1), (8, .int (nI c2)), (7, .int (nI c1)), (0, .ref (a 0)), (1, .int (nI what)), (2, .int (nI x)), (3, .int (nI y)), (4, .ref pb), (5, .ref rb), (6, .ref cb)]) hx hb dL_step_129 hl (by decide) rfl (fun ls hl => ?_)
            refine lv_aload hx hb dL_step_131 (lv_at hl 9 rfl) ?_
            refine lv_iload hx hb dL_step_133 (lv_at hl 4 rfl) ?_
            refine lv_iload hx hb dL_step_135 (lv_at hl 2 rfl) ?_
            refine lv_if_eq (tgt := 161) hx hb dL_step_137 (by decide) (fun c_137 => ?_) (fun c_137 => ?_)
            · skip
              exact absurd c_137 (by decide)
            · skip
              refine lv_iconst (v := 2) hx hb dL_step_140 (by decide) ?_
              refine lv_iload hx hb dL_step_141 (lv_at hl 3 rfl) ?_
              refine lv_iconst (v := 1) hx hb dL_step_143 (by decide) ?_
              refine lv_iadd hx hb dL_step_144 ?_
              refine lv_topi (fun dv edv => ?_)
              obtain rfl : dv = nI (c2 + 1) := by rw [edv]; exact nI_add c2 1
              refine lv_imul hx hb dL_step_145 ?_
              refine lv_topi (fun dv edv => ?_)
              obtain rfl : dv = nI (2 * (c2 + 1)) := by rw [edv]; exact pk_mul 2 (c2 + 1)
              refine lv_iload_n hx hb dL_step_146 rfl (lv_at hl 8 rfl) ?_
              refine lv_iconst (v := 3) hx hb dL_step_147 (by decide) ?_
              refine lv_irem hx hb dL_step_148 (by decide) ?_
              refine lv_topi (fun dv edv => ?_)
              obtain rfl : dv = nI (y % 3) := by rw [edv]; exact pk_rem (a := y) (d := 3) (by omega) (by omega) (by omega)
              refine lv_if_le (tgt := 156) hx hb dL_step_149 (by decide) (fun c_149 => ?_) (fun c_149 => ?_)
              · skip
                refine lv_iconst (v := 0) hx hb dL_step_156 (by decide) ?_
                refine lv_iadd hx hb dL_step_157 ?_
                refine lv_topi (fun dv edv => ?_)
                obtain rfl : dv = nI ((2 * (c2 + 1)) + 0) := by rw [edv]; exact nI_add (2 * (c2 + 1)) 0
                refine lv_goto (tgt := 166) hx hb dL_step_158 (by decide) ?_
                refine g_iast hx hb hK hP hD hS (11 + nF + 0) 0 (n := 12) (f := pv) (WDRj 0 rfl) rfl c1 rfl (by omega) (by decide) dL_step_166 (WD cI cO a FA nC nR nL nF (upd par c1 (nI c2)) (upd wt c1 (if 0 = 0 then -1 else 1)) (fun r => nI (sk r)) (fun r => nI (fk r)) hd rea sig ++ (WF FA ck cf cd cv nx nF ++ (LR cI pb rb cb (upd pv c1 (nI ((2 * (c2 + 1)) + 0))) rv kv))) (WDRs 0 rfl) (fun H locs hP hD hS => ?_)
                skip
                have hP : va_P D vwCl (WD cI cO a FA nC nR nL nF (upd par c1 (nI c2)) (upd wt c1 (if 0 = 0 then -1 else 1)) (fun r => nI (sk r)) (fun r => nI (fk r)) hd rea sig ++ (WF FA ck cf cd cv nx nF ++ (LR cI pb rb cb (upd pv c1 (nI ((2 * (c2 + 1)) + 0))) rv kv))) H := hP
                have hD : va_D A (WD cI cO a FA nC nR nL nF (upd par c1 (nI c2)) (upd wt c1 (if 0 = 0 then -1 else 1)) (fun r => nI (sk r)) (fun r => nI (fk r)) hd rea sig ++ (WF FA ck cf cd cv nx nF ++ (LR cI pb rb cb (upd pv c1 (nI ((2 * (c2 + 1)) + 0))) rv kv))) := hD
                refine lv_iload hx hb dL_step_167 (lv_at hl 0 rfl) ?_
                refine lv_iload hx hb dL_step_169 (lv_at hl 2 rfl) ?_
                refine lv_if_eq (tgt := 179) hx hb dL_step_171 (by decide) (fun c_171 => ?_) (fun c_171 => ?_)
                · skip
                  exact absurd c_171 (by decide)
                · skip
                  refine lv_iload hx hb dL_step_174 (lv_at hl 1 rfl) ?_
                  refine lv_goto (tgt := 181) hx hb dL_step_176 (by decide) ?_
                  refine lv_icmp_ne (tgt := 188) hx hb dL_step_181 (by decide) (fun c_181 => ?_) (fun c_181 => ?_)
                  · skip
                    exact absurd rfl c_181
                  · skip
                    refine lv_iconst (v := 1) hx hb dL_step_184 (by decide) ?_
                    refine lv_goto (tgt := 189) hx hb dL_step_185 (by decide) ?_
                    exact W.widen (k := 34) (n := 204) (Nat.le_of_ble_eq_true rfl) (Nat.le_of_ble_eq_true rfl) (W.zret (v := 1) hx hb hr (rfl) (fun t ht hW => ⟨⟨1, (), rfl, rfl, (by show lI D cI cO A a pb rb cb 1 t.heap; rw [ht]; exact lI_mk (n0 := 1) (by omega) hOk9 hpk9 hrk hkk hP hD)⟩, hS.F ht⟩) hS.2.2 dL_step_189)
              · skip
                exact absurd c_118 c_149
          · skip
            refine lv_iconst (v := 1) hx hb dL_step_121 (by decide) ?_
            refine lv_goto (tgt := 126) hx hb dL_step_122 (by decide) ?_
            refine va_calli (vx_runSW (hh := [(0, 7, 8, 29)]) (As := [.ref (a 0), .int (nI c1), .int (nI c2), .int 1]) (rest := []) ⟨hx, hb, hml, hown, hts⟩ (kL_hangs_0 l D cI cZ cO cL dt A a FA nC nR nL nF par wt sk fk hd rea sig ck cf cd cv nx pb rb cb pv rv kv L c1 c2 1 hlt hOk hc1 hc2 ha) (vx_cwSW 4 hts gL_step_L_hangs rfl rfl rfl (by decide +kernel) ⟨(Nat.le_of_ble_eq_true rfl), (Nat.le_of_ble_eq_true rfl)⟩) (gP.s (hg.on hS) (⟨hP, hD⟩)) rfl rfl hl.1 rfl (lv_room (Nat.le_of_ble_eq_true rfl)) dL_step_126 ⟨(Nat.le_of_ble_eq_true rfl), (Nat.le_of_ble_eq_true rfl)⟩) hS (fun q _ h => h) (fun q h => h) (fun r_22 ur_22 tr_22 H locs htr_22 hvmr_22 hr_22 hB hzr_22 hkr_22 hS => ?_)
            rw [htr_22] at hB
            obtain ⟨hP, hD⟩ := hB
            refine W.widen (k := 3) (n := 18) (Nat.le_of_ble_eq_true rfl) (Nat.le_of_ble_eq_true rfl) ?_
            have hP : va_P D vwCl (WD cI cO a FA nC nR nL nF (upd par c1 (nI c2)) (upd wt c1 (if 1 = 0 then -1 else 1)) (fun r => nI (sk r)) (fun r => nI (fk r)) hd rea sig ++ (WF FA ck cf cd cv nx nF ++ (LR cI pb rb cb pv rv kv))) H := hP
            have hD : va_D A (WD cI cO a FA nC nR nL nF (upd par c1 (nI c2)) (upd wt c1 (if 1 = 0 then -1 else 1)) (fun r => nI (sk r)) (fun r => nI (fk r)) hd rea sig ++ (WF FA ck cf cd cv nx nF ++ (LR cI pb rb cb pv rv kv))) := hD
            obtain rfl : r_22 = par c1 := hr_22
            obtain ⟨L9, hOk9⟩ := sOk_hang hOk hc1 hc2 ha (w := (if (1 : Int32) = 0 then -1 else 1)) (Or.inl rfl)
            have hpk9 := pOk_hang1 hpk (c := c1) hc2
            refine lv_istore (lv' := [(11, .int (par c1)), (10, .int (par c1)), (9, .int 1), (8, .int (nI c2)), (7, .int (nI c1)), (0, .ref (a 0)), (1, .int (nI what)), (2, .int (nI x)), (3, .int (nI y)), (4, .ref pb), (5, .ref rb), (6, .ref cb)]) hx hb dL_step_129 hl (by decide) rfl (fun ls hl => ?_)
            refine lv_aload hx hb dL_step_131 (lv_at hl 9 rfl) ?_
            refine lv_iload hx hb dL_step_133 (lv_at hl 4 rfl) ?_
            refine lv_iload hx hb dL_step_135 (lv_at hl 2 rfl) ?_
            refine lv_if_eq (tgt := 161) hx hb dL_step_137 (by decide) (fun c_137 => ?_) (fun c_137 => ?_)
            · skip
              exact absurd c_137 (by decide)
            · skip
              refine lv_iconst (v := 2) hx hb dL_step_140 (by decide) ?_
              refine lv_iload hx hb dL_step_141 (lv_at hl 3 rfl) ?_
              refine lv_iconst (v := 1) hx hb dL_step_143 (by decide) ?_
              refine lv_iadd hx hb dL_step_144 ?_
              refine lv_topi (fun dv edv => ?_)
              obtain rfl : dv = nI (c2 + 1) := by rw [edv]; exact nI_add c2 1
              refine lv_imul hx hb dL_step_145 ?_
              refine lv_topi (fun dv edv => ?_)
              obtain rfl : dv = nI (2 * (c2 + 1)) := by rw [edv]; exact pk_mul 2 (c2 + 1)
              refine lv_iload_n hx hb dL_step_146 rfl (lv_at hl 8 rfl) ?_
              refine lv_iconst (v := 3) hx hb dL_step_147 (by decide) ?_
              refine lv_irem hx hb dL_step_148 (by decide) ?_
              refine lv_topi (fun dv edv => ?_)
              obtain rfl : dv = nI (y % 3) := by rw [edv]; exact pk_rem (a := y) (d := 3) (by omega) (by omega) (by omega)
              refine lv_if_le (tgt := 156) hx hb dL_step_149 (by decide) (fun c_149 => ?_) (fun c_149 => ?_)
              · skip
                exact absurd c_149 c_118
              · skip
                refine lv_iconst (v := 1) hx hb dL_step_152 (by decide) ?_
                refine lv_goto (tgt := 157) hx hb dL_step_153 (by decide) ?_
                refine lv_iadd hx hb dL_step_157 ?_
                refine lv_topi (fun dv edv => ?_)
                obtain rfl : dv = nI ((2 * (c2 + 1)) + 1) := by rw [edv]; exact nI_add (2 * (c2 + 1)) 1
                refine lv_goto (tgt := 166) hx hb dL_step_158 (by decide) ?_
                refine g_iast hx hb hK hP hD hS (11 + nF + 0) 0 (n := 12) (f := pv) (WDRj 0 rfl) rfl c1 rfl (by omega) (by decide) dL_step_166 (WD cI cO a FA nC nR nL nF (upd par c1 (nI c2)) (upd wt c1 (if 1 = 0 then -1 else 1)) (fun r => nI (sk r)) (fun r => nI (fk r)) hd rea sig ++ (WF FA ck cf cd cv nx nF ++ (LR cI pb rb cb (upd pv c1 (nI ((2 * (c2 + 1)) + 1))) rv kv))) (WDRs 0 rfl) (fun H locs hP hD hS => ?_)
                skip
                have hP : va_P D vwCl (WD cI cO a FA nC nR nL nF (upd par c1 (nI c2)) (upd wt c1 (if 1 = 0 then -1 else 1)) (fun r => nI (sk r)) (fun r => nI (fk r)) hd rea sig ++ (WF FA ck cf cd cv nx nF ++ (LR cI pb rb cb (upd pv c1 (nI ((2 * (c2 + 1)) + 1))) rv kv))) H := hP
                have hD : va_D A (WD cI cO a FA nC nR nL nF (upd par c1 (nI c2)) (upd wt c1 (if 1 = 0 then -1 else 1)) (fun r => nI (sk r)) (fun r => nI (fk r)) hd rea sig ++ (WF FA ck cf cd cv nx nF ++ (LR cI pb rb cb (upd pv c1 (nI ((2 * (c2 + 1)) + 1))) rv kv))) := hD
                refine lv_iload hx hb dL_step_167 (lv_at hl 0 rfl) ?_
                refine lv_iload hx hb dL_step_169 (lv_at hl 2 rfl) ?_
                refine lv_if_eq (tgt := 179) hx hb dL_step_171 (by decide) (fun c_171 => ?_) (fun c_171 => ?_)
                · skip
                  exact absurd c_171 (by decide)
                · skip
                  refine lv_iload hx hb dL_step_174 (lv_at hl 1 rfl) ?_
                  refine lv_goto (tgt := 181) hx hb dL_step_176 (by decide) ?_
                  refine lv_icmp_ne (tgt := 188) hx hb dL_step_181 (by decide) (fun c_181 => ?_) (fun c_181 => ?_)
                  · skip
                    exact absurd rfl c_181
                  · skip
                    refine lv_iconst (v := 1) hx hb dL_step_184 (by decide) ?_
                    refine lv_goto (tgt := 189) hx hb dL_step_185 (by decide) ?_
                    exact W.widen (k := 34) (n := 204) (Nat.le_of_ble_eq_true rfl) (Nat.le_of_ble_eq_true rfl) (W.zret (v := 1) hx hb hr (rfl) (fun t ht hW => ⟨⟨1, (), rfl, rfl, (by show lI D cI cO A a pb rb cb 1 t.heap; rw [ht]; exact lI_mk (n0 := 1) (by omega) hOk9 hpk9 hrk hkk hP hD)⟩, hS.F ht⟩) hS.2.2 dL_step_189)
    · skip
      have hC9 : nC = 0 := (nI_eq (b := 0) (by omega) (by decide)).mp c_9
      refine lv_aload hx hb dL_step_12 (lv_at hl 6 rfl) ?_
      refine lv_iconst (v := 0) hx hb dL_step_14 (by decide) ?_
      refine g_iald hx hb hK hP (11 + nF + 2) 0 (n := 4) (f := kv) (WDRj 2 rfl) rfl 0 rfl (by omega) (by decide) dL_step_15 ?_
      refine lv_topi (fun dv edv => ?_)
      obtain rfl : dv = nI nC := by rw [edv]; exact hk0
      refine lv_bipush (v := 12) hx hb dL_step_16 (by decide) ?_
      refine lv_icmp_ne (tgt := 23) hx hb dL_step_18 (by decide) (fun c_18 => ?_) (fun c_18 => ?_)
      · skip
        have hn12 : nC < 12 := by have : ¬ nC = 12 := fun z => c_18 (by rw [z]; rfl); omega
        refine lv_aload hx hb dL_step_23 (lv_at hl 4 rfl) ?_
        refine lv_aload hx hb dL_step_25 (lv_at hl 6 rfl) ?_
        refine lv_iconst (v := 0) hx hb dL_step_27 (by decide) ?_
        refine g_iald hx hb hK hP (11 + nF + 2) 0 (n := 4) (f := kv) (WDRj 2 rfl) rfl 0 rfl (by omega) (by decide) dL_step_28 ?_
        refine lv_topi (fun dv edv => ?_)
        obtain rfl : dv = nI nC := by rw [edv]; exact hk0
        refine lv_iconst (v := 0) hx hb dL_step_29 (by decide) ?_
        refine g_iast hx hb hK hP hD hS (11 + nF + 0) 0 (n := 12) (f := pv) (WDRj 0 rfl) rfl nC rfl (by omega) (by decide) dL_step_30 (WD cI cO a FA nC nR nL nF par wt (fun r => nI (sk r)) (fun r => nI (fk r)) hd rea sig ++ (WF FA ck cf cd cv nx nF ++ (LR cI pb rb cb (upd pv nC 0) rv kv))) (WDRs 0 rfl) (fun H locs hP hD hS => ?_)
        have hP : va_P D vwCl (WD cI cO a FA nC nR nL nF par wt (fun r => nI (sk r)) (fun r => nI (fk r)) hd rea sig ++ (WF FA ck cf cd cv nx nF ++ (LR cI pb rb cb (upd pv nC 0) rv kv))) H := hP
        have hD : va_D A (WD cI cO a FA nC nR nL nF par wt (fun r => nI (sk r)) (fun r => nI (fk r)) hd rea sig ++ (WF FA ck cf cd cv nx nF ++ (LR cI pb rb cb (upd pv nC 0) rv kv))) := hD
        refine lv_aload hx hb dL_step_31 (lv_at hl 6 rfl) ?_
        refine lv_iconst (v := 0) hx hb dL_step_33 (by decide) ?_
        refine lv_dup2_11 hx hb dL_step_34 rfl rfl ?_
        refine g_iald hx hb hK hP (11 + nF + 2) 0 (n := 4) (f := kv) (WDRj 2 rfl) rfl 0 rfl (by omega) (by decide) dL_step_35 ?_
        refine lv_topi (fun dv edv => ?_)
        obtain rfl : dv = nI nC := by rw [edv]; exact hk0
        refine lv_iconst (v := 1) hx hb dL_step_36 (by decide) ?_
        refine lv_iadd hx hb dL_step_37 ?_
        refine lv_topi (fun dv edv => ?_)
        obtain rfl : dv = nI (nC + 1) := by rw [edv]; exact nI_add nC 1
        refine g_iast hx hb hK hP hD hS (11 + nF + 2) 0 (n := 4) (f := kv) (WDRj 2 rfl) rfl 0 rfl (by omega) (by decide) dL_step_38 (WD cI cO a FA nC nR nL nF par wt (fun r => nI (sk r)) (fun r => nI (fk r)) hd rea sig ++ (WF FA ck cf cd cv nx nF ++ (LR cI pb rb cb (upd pv nC 0) rv (upd kv 0 (nI (nC + 1)))))) (WDRs 2 rfl) (fun H locs hP hD hS => ?_)
        have hP : va_P D vwCl (WD cI cO a FA nC nR nL nF par wt (fun r => nI (sk r)) (fun r => nI (fk r)) hd rea sig ++ (WF FA ck cf cd cv nx nF ++ (LR cI pb rb cb (upd pv nC 0) rv (upd kv 0 (nI (nC + 1)))))) H := hP
        have hD : va_D A (WD cI cO a FA nC nR nL nF par wt (fun r => nI (sk r)) (fun r => nI (fk r)) hd rea sig ++ (WF FA ck cf cd cv nx nF ++ (LR cI pb rb cb (upd pv nC 0) rv (upd kv 0 (nI (nC + 1)))))) := hD
        refine lv_aload_n hx hb dL_step_39 rfl (lv_at hl 0 rfl) ?_
        refine va_calli (va_runV (As := []) (rest := []) ⟨hx, hb, hml, hown, hts⟩ (m4_addConcept l D cI cZ cO cL dt A a FA nC nR nL nF par wt (fun r => nI (sk r)) (fun r => nI (fk r)) hd rea sig ck cf cd cv nx (LR cI pb rb cb (upd pv nC 0) rv (upd kv 0 (nI (nC + 1)))) hlt hC12 hL8 hn12) (cwV 0 hts gL_step_X4_addConcept rfl rfl rfl (by decide +kernel) ⟨(Nat.le_of_ble_eq_true rfl), (Nat.le_of_ble_eq_true rfl)⟩) (gP.v (hg.on hS) hP 3 rfl 0 rfl (⟨hP, hD⟩)) rfl rfl hl.1 rfl (lv_room (Nat.le_of_ble_eq_true rfl)) dL_step_40 ⟨(Nat.le_of_ble_eq_true rfl), (Nat.le_of_ble_eq_true rfl)⟩) hS (fun q _ h => h) (fun q h => h) (fun r_23 ur_23 tr_23 H locs htr_23 hvmr_23 hr_23 hB hzr_23 hkr_23 hS => ?_)
        rw [htr_23] at hB
        obtain ⟨hP, hD⟩ := hB
        refine W.widen (k := 1) (n := 6) (Nat.le_of_ble_eq_true rfl) (Nat.le_of_ble_eq_true rfl) ?_
        have hP : va_P D vwCl (WD cI cO a FA (nC + 1) nR nL nF (upd par nC (-1)) wt (fun r => nI (sk r)) (fun r => nI (fk r)) hd rea sig ++ (WF FA ck cf cd cv nx nF ++ (LR cI pb rb cb (upd pv nC 0) rv (upd kv 0 (nI (nC + 1)))))) H := hP
        have hD : va_D A (WD cI cO a FA (nC + 1) nR nL nF (upd par nC (-1)) wt (fun r => nI (sk r)) (fun r => nI (fk r)) hd rea sig ++ (WF FA ck cf cd cv nx nF ++ (LR cI pb rb cb (upd pv nC 0) rv (upd kv 0 (nI (nC + 1)))))) := hD
        obtain rfl : r_23 = nI nC := hr_23
        have hOk9 := sOk_add hOk hn12
        have hpk9 := pOk_add hpk
        have hkk9 := kOk_0 hkk
        refine lv_aload hx hb dL_step_43 (lv_at hl 6 rfl) ?_
        refine lv_iconst (v := 0) hx hb dL_step_45 (by decide) ?_
        refine g_iald hx hb hK hP (11 + nF + 2) 0 (n := 4) (f := (upd kv 0 (nI (nC + 1)))) (WDRj 2 rfl) rfl 0 rfl (by omega) (by decide) dL_step_46 ?_
        refine lv_topi (fun dv edv => ?_)
        obtain rfl : dv = nI (nC + 1) := by rw [edv]; exact upd_eq
        refine lv_iconst (v := 1) hx hb dL_step_47 (by decide) ?_
        refine lv_isub hx hb dL_step_48 ?_
        refine lv_topi (fun dv edv => ?_)
        obtain rfl : dv = nI nC := by rw [edv]; exact nI_pred nC
        refine lv_icmp_ne (tgt := 56) hx hb dL_step_49 (by decide) (fun c_49 => ?_) (fun c_49 => ?_)
        · skip
          exact absurd rfl c_49
        · skip
          refine lv_iconst (v := 1) hx hb dL_step_52 (by decide) ?_
          refine lv_goto (tgt := 57) hx hb dL_step_53 (by decide) ?_
          exact W.widen (k := 34) (n := 204) (Nat.le_of_ble_eq_true rfl) (Nat.le_of_ble_eq_true rfl) (W.zret (v := 1) hx hb hr (rfl) (fun t ht hW => ⟨⟨1, (), rfl, rfl, (by show lI D cI cO A a pb rb cb 1 t.heap; rw [ht]; exact lI_mk (n0 := 1) (by omega) hOk9 hpk9 hrk hkk9 hP hD)⟩, hS.F ht⟩) hS.2.2 dL_step_57)
      · skip
        have hn12 : nC = 12 := (nI_eq (b := 12) (by omega) (by decide)).mp c_18
        refine lv_iconst (v := 1) hx hb dL_step_21 (by decide) ?_
        exact W.widen (k := 34) (n := 204) (Nat.le_of_ble_eq_true rfl) (Nat.le_of_ble_eq_true rfl) (W.zret (v := 1) hx hb hr (rfl) (fun t ht hW => ⟨⟨1, (), rfl, rfl, (by show lI D cI cO A a pb rb cb 1 t.heap; rw [ht]; exact lI_mk (n0 := 1) (by omega) hOk hpk hrk hkk hP hD)⟩, hS.F ht⟩) hS.2.2 dL_step_22)
