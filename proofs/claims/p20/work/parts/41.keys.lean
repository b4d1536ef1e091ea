set_option maxHeartbeats 4000000 in
set_option maxRecDepth 100000 in
/-- sums and derivations of a key -/
theorem kL_isKey (l : Launch) (D : va_G) (cI cZ cO cL : ClassId) (dt : Nat) (A : Nat → Prop) (a FA : Nat → Nat) (nC nR nL nF : Nat) (par wt : Nat → Int32) (sk fk : Nat → Nat) (hd : Nat → Option Nat) (rea sig : Nat → Int32) (ck cf cd : Nat → Nat) (cv : Nat → Int32) (nx : Nat → Option Nat) (pb rb cb : Nat) (pv rv kv : Nat → Int32) (L : List Nat) (c p m f : Nat) (hlt : l.stackTraces = false) (hOk : sOk nC nR nL nF par wt sk fk hd ck cf cd cv nx L) (hpk : pOk nC par wt pv) (hkk : kOk nC nR nL nF kv) (hc : c < nC) (hp : p < 10) (hm : m < 4) (hf : f < nL + 1) : Met l yL_isKey wsL_isKey ({ frames := 11, cells := 170, slots := 1020, locals := 209 } : Room) (gP D cI cZ cO cL dt A [.ref (a 0), .ref pb, .ref cb, .int (nI c), .int (nI p), .int (nI m), .int (nI f)] (fun H => va_P D vwCl (WD cI cO a FA nC nR nL nF par wt (fun r => nI (sk r)) (fun r => nI (fk r)) hd rea sig ++ (WF FA ck cf cd cv nx nF ++ (LR cI pb rb cb pv rv kv))) H ∧ va_D A (WD cI cO a FA nC nR nL nF par wt (fun r => nI (sk r)) (fun r => nI (fk r)) hd rea sig ++ (WF FA ck cf cd cv nx nF ++ (LR cI pb rb cb pv rv kv))))) (va_Qi (fun (r : Int32) (u : (Nat → Int32) × (Nat → Int32)) => r = 1) (fun u t => va_P D vwCl (WD cI cO a FA nC nR nL nF par wt (fun r => nI (sk r)) (fun r => nI (fk r)) hd u.1 u.2 ++ (WF FA ck cf cd cv nx nF ++ (LR cI pb rb cb pv rv kv))) t.heap ∧ va_D A (WD cI cO a FA nC nR nL nF par wt (fun r => nI (sk r)) (fun r => nI (fk r)) hd u.1 u.2 ++ (WF FA ck cf cd cv nx nF ++ (LR cI pb rb cb pv rv kv)))) A) 170 1020 A := by
  refine Met.ofW (cc := cL_isKey) (maxL := 17) (ret := (some .boolean)) (by decide) rfl ?_
  intro p9 e9 s m9 args below meth c9 s₁ B hml hv
  obtain ⟨rfl, hg, hP, hD⟩ := hv
  have hx := B.exec
  have hb := B.bytes
  have hr := B.returns
  have hts := atoms_spec (ws := wsL_isKey) B.pre
  have hown : s.vm.findClass RL = some m9.cls := findClass_of_methodNamed B.named
  have hlocks := B.notSynchronized
  have hK := hg.1
  have hS : va_S A s.heap s.heap [] := va_S.rf
  obtain ⟨⟨hC12, hR5, hL8, hF⟩, ⟨hT, hwt⟩, ⟨hsk12, hfk12, hskC⟩, ⟨hCh, hH, hN, hfL⟩, hck, hcf8, hcd, hcv, hckC⟩ := id hOk
  have hcf : ∀ k, cf k < 2 ^ 31 := fun k => by have := hcf8 k; omega
  obtain ⟨hk0, hk1, hk2, hk3⟩ := id hkk
  have w_0 := hts (.constant RL 21 (-99000000)) (by decide +kernel)
  have hl := lv_entry ([.ref (a 0), .ref pb, .ref cb, .int (nI c), .int (nI p), .int (nI m), .int (nI f)]) (n := 17) (Nat.le_of_ble_eq_true rfl)
  rw [lg_entry_eq]
  generalize (lg_sl ([.ref (a 0), .ref pb, .ref cb, .int (nI c), .int (nI p), .int (nI m), .int (nI f)]) ++ List.replicate (17 - (lg_sl ([.ref (a 0), .ref pb, .ref cb, .int (nI c), .int (nI p), .int (nI m), .int (nI f)])).length) Slot.unset).toArray = ls at hl ⊢
  have hl : lv_has ls 17 [(0, .ref (a 0)), (1, .ref pb), (2, .ref cb), (3, .int (nI c)), (4, .int (nI p)), (5, .int (nI m)), (6, .int (nI f))] := hl
  refine lv_aload_n hx hb dL_isKey_0 rfl (lv_at hl 0 rfl) ?_
  refine lv_iconst (v := 0) hx hb dL_isKey_1 (by decide) ?_
  refine lv_iload_n hx hb dL_isKey_2 rfl (lv_at hl 3 rfl) ?_
  refine lv_iload hx hb dL_isKey_3 (lv_at hl 4 rfl) ?_
  refine lv_iload hx hb dL_isKey_5 (lv_at hl 5 rfl) ?_
  refine lv_iload hx hb dL_isKey_7 (lv_at hl 6 rfl) ?_
  refine va_calli (vx_runSW (hh := [(0, 27, 28, 19)]) (As := [.ref (a 0), .int 0, .int (nI c), .int (nI p), .int (nI m), .int (nI f)]) (rest := []) ⟨hx, hb, hml, hown, hts⟩ (kL_held l D cI cZ cO cL dt A a FA nC nR nL nF par wt sk fk hd rea sig ck cf cd cv nx pb rb cb pv rv kv L c p m f hlt hOk (by omega) (by omega) (by omega) (by omega)) (vx_cwSW 6 hts gL_isKey_L_held rfl rfl rfl (by decide +kernel) ⟨(Nat.le_of_ble_eq_true rfl), (Nat.le_of_ble_eq_true rfl)⟩) (gP.s (hg.on hS) (⟨hP, hD⟩)) rfl rfl hl.1 rfl (lv_room (Nat.le_of_ble_eq_true rfl)) dL_isKey_9 ⟨(Nat.le_of_ble_eq_true rfl), (Nat.le_of_ble_eq_true rfl)⟩) hS (fun q _ h => h) (fun q h => h) (fun r_1 ur_1 tr_1 H locs htr_1 hvmr_1 hr_1 hB hzr_1 hkr_1 hS => ?_)
  rw [htr_1] at hB
  obtain ⟨hP, hD⟩ := hB
  refine W.widen (k := 4) (n := 24) (Nat.le_of_ble_eq_true rfl) (Nat.le_of_ble_eq_true rfl) ?_
  have hP : va_P D vwCl (WD cI cO a FA nC nR nL nF par wt (fun r => nI (sk r)) (fun r => nI (fk r)) hd rea sig ++ (WF FA ck cf cd cv nx nF ++ (LR cI pb rb cb pv rv kv))) H := hP
  have hD : va_D A (WD cI cO a FA nC nR nL nF par wt (fun r => nI (sk r)) (fun r => nI (fk r)) hd rea sig ++ (WF FA ck cf cd cv nx nF ++ (LR cI pb rb cb pv rv kv))) := hD
  obtain ⟨o_r_1, hOj1⟩ : ∃ z, hC ck cf cd nF (nI (c * 40 + p * 4 + m)) (nI f) = z := ⟨_, rfl⟩
  rcases o_r_1 with _ | j1
  · skip
    obtain rfl : r_1 = (-99000000) := hr_1.trans (congrArg (hv cv) hOj1)
    refine lv_istore (lv' := [(7, .int (-99000000)), (0, .ref (a 0)), (1, .ref pb), (2, .ref cb), (3, .int (nI c)), (4, .int (nI p)), (5, .int (nI m)), (6, .int (nI f))]) hx hb dL_isKey_12 hl (by decide) rfl (fun ls hl => ?_)
    refine lv_iload hx hb dL_isKey_14 (lv_at hl 0 rfl) ?_
    refine lv_ldc (v := (-99000000)) hx hb hown w_0 dL_isKey_16 ?_
    refine lv_icmp_ne (tgt := 25) hx hb dL_isKey_18 (by decide) (fun c_18 => ?_) (fun c_18 => ?_)
    · skip
      exact absurd c_18 (by decide)
    · skip
      refine lv_iconst (v := 0) hx hb dL_isKey_21 (by decide) ?_
      refine lv_goto (tgt := 37) hx hb dL_isKey_22 (by decide) ?_
      refine lv_istore (lv' := [(8, .int 0), (7, .int (-99000000)), (0, .ref (a 0)), (1, .ref pb), (2, .ref cb), (3, .int (nI c)), (4, .int (nI p)), (5, .int (nI m)), (6, .int (nI f))]) hx hb dL_isKey_37 hl (by decide) rfl (fun ls hl => ?_)
      refine lv_iconst (v := 0) hx hb dL_isKey_39 (by decide) ?_
      refine lv_istore (lv' := [(9, .int 0), (8, .int 0), (7, .int (-99000000)), (0, .ref (a 0)), (1, .ref pb), (2, .ref cb), (3, .int (nI c)), (4, .int (nI p)), (5, .int (nI m)), (6, .int (nI f))]) hx hb dL_isKey_40 hl (by decide) rfl (fun ls hl => ?_)
      refine lv_iconst (v := 0) hx hb dL_isKey_42 (by decide) ?_
      refine lv_istore (lv' := [(10, .int 0), (9, .int 0), (8, .int 0), (7, .int (-99000000)), (0, .ref (a 0)), (1, .ref pb), (2, .ref cb), (3, .int (nI c)), (4, .int (nI p)), (5, .int (nI m)), (6, .int (nI f))]) hx hb dL_isKey_43 hl (by decide) rfl (fun ls hl => ?_)
      refine lv_iconst (v := 0) hx hb dL_isKey_45 (by decide) ?_
      refine lv_istore (lv' := [(11, .int 0), (10, .int 0), (9, .int 0), (8, .int 0), (7, .int (-99000000)), (0, .ref (a 0)), (1, .ref pb), (2, .ref cb), (3, .int (nI c)), (4, .int (nI p)), (5, .int (nI m)), (6, .int (nI f))]) hx hb dL_isKey_46 hl (by decide) rfl (fun ls hl => ?_)
      refine lv_iconst (v := 0) hx hb dL_isKey_48 (by decide) ?_
      refine lv_istore (lv' := [(12, .int 0), (11, .int 0), (10, .int 0), (9, .int 0), (8, .int 0), (7, .int (-99000000)), (0, .ref (a 0)), (1, .ref pb), (2, .ref cb), (3, .int (nI c)), (4, .int (nI p)), (5, .int (nI m)), (6, .int (nI f))]) hx hb dL_isKey_49 hl (by decide) rfl (fun ls hl => ?_)
      refine lv_iconst (v := 0) hx hb dL_isKey_51 (by decide) ?_
      refine lv_istore (lv' := [(13, .int 0), (12, .int 0), (11, .int 0), (10, .int 0), (9, .int 0), (8, .int 0), (7, .int (-99000000)), (0, .ref (a 0)), (1, .ref pb), (2, .ref cb), (3, .int (nI c)), (4, .int (nI p)), (5, .int (nI m)), (6, .int (nI f))]) hx hb dL_isKey_52 hl (by decide) rfl (fun ls hl => ?_)
      refine lv_iconst (v := 0) hx hb dL_isKey_54 (by decide) ?_
      refine lv_istore (lv' := [(14, .int 0), (13, .int 0), (12, .int 0), (11, .int 0), (10, .int 0), (9, .int 0), (8, .int 0), (7, .int (-99000000)), (0, .ref (a 0)), (1, .ref pb), (2, .ref cb), (3, .int (nI c)), (4, .int (nI p)), (5, .int (nI m)), (6, .int (nI f))]) hx hb dL_isKey_55 hl (by decide) rfl (fun ls hl => ?_)
      have lp : ∀ (n k : Nat) (r9 : Nat → Int32) (s9 : Nat → Int32) (x8 : Int32) (x9 : Int32) (x10 : Int32) (x11 : Int32) (x12 : Int32) (x13 : Int32) (H : Heap) (locs : List Loc), nC < k + n → k ≤ nC → (x8 = 0 + dbtN par (fun k => hC ck cf cd nF (nI (k * 40 + p * 4 + m)) (nI f)) cd (nI c) k) → (x9 = sumN par wt (fun k => hC ck cf cd nF (nI (k * 40 + p * 4 + m)) (nI f)) cv (nI c) k) → (x10 = nI (cntN par (fun k => hC ck cf cd nF (nI (k * 40 + p * 4 + m)) (nI f)) (nI c) k)) → (x11 = chS par wt (dV nC par wt (fun k => hC ck cf cd nF (nI (k * 40 + p * 4 + m)) (nI f)) cv) c k) → (x12 = nI (chG par (dV nC par wt (fun k => hC ck cf cd nF (nI (k * 40 + p * 4 + m)) (nI f)) cv) c k)) → (x13 = nI (chC par c k)) → va_P D vwCl (WD cI cO a FA nC nR nL nF par wt (fun r => nI (sk r)) (fun r => nI (fk r)) hd r9 s9 ++ (WF FA ck cf cd cv nx nF ++ (LR cI pb rb cb pv rv kv))) H → va_D A (WD cI cO a FA nC nR nL nF par wt (fun r => nI (sk r)) (fun r => nI (fk r)) hd r9 s9 ++ (WF FA ck cf cd cv nx nF ++ (LR cI pb rb cb pv rv kv))) → va_S A s.heap H locs → ∀ ls : Array Slot, lv_has ls 17 [(14, .int (nI k)), (13, .int x13), (12, .int x12), (11, .int x11), (10, .int x10), (9, .int x9), (8, .int x8), (7, .int (-99000000)), (6, .int (nI f)), (5, .int (nI m)), (4, .int (nI p)), (3, .int (nI c)), (2, .ref cb), (1, .ref pb), (0, .ref (a 0))] → W p9 l e9 (headSpec wsL_isKey ({ frames := 11, cells := 170, slots := 1020, locals := 209 } : Room)).room s m9 ([.ref (a 0), .ref pb, .ref cb, .int (nI c), .int (nI p), .int (nI m), .int (nI f)] : List Value).toArray below meth c9 H locs (12 * k + 4) (72 * k + 24) (MQ below (va_Qi (fun (r : Int32) (u : (Nat → Int32) × (Nat → Int32)) => r = 1) (fun u t => va_P D vwCl (WD cI cO a FA nC nR nL nF par wt (fun r => nI (sk r)) (fun r => nI (fk r)) hd u.1 u.2 ++ (WF FA ck cf cd cv nx nF ++ (LR cI pb rb cb pv rv kv))) t.heap ∧ va_D A (WD cI cO a FA nC nR nL nF par wt (fun r => nI (sk r)) (fun r => nI (fk r)) hd u.1 u.2 ++ (WF FA ck cf cd cv nx nF ++ (LR cI pb rb cb pv rv kv)))) A) ([.ref (a 0), .ref pb, .ref cb, .int (nI c), .int (nI p), .int (nI m), .int (nI f)] : List Value).toArray s 170 1020 A) (F0 m9 57 ls []) := by
        intro n
        induction n with
        | zero => intro k r9 s9 x8 x9 x10 x11 x12 x13 H locs h1 h2; exact absurd h1 (by omega)
        | succ n ih_lp =>
          intro k r9 s9 x8 x9 x10 x11 x12 x13 H locs hn_lp hk_lp e8 e9 e10 e11 e12 e13 hP hD hS ls hl
          refine lv_iload hx hb dL_isKey_57 (lv_at hl 0 rfl) ?_
          refine lv_aload_n hx hb dL_isKey_59 rfl (lv_at hl 12 rfl) ?_
          refine lv_iconst (v := 0) hx hb dL_isKey_60 (by decide) ?_
          refine g_iald hx hb hK hP (11 + nF + 2) 0 (n := 4) (f := kv) (WDRj 2 rfl) rfl 0 rfl (by omega) (by decide) dL_isKey_61 ?_
          refine lv_topi (fun dv edv => ?_)
          obtain rfl : dv = nI nC := by rw [edv]; exact hk0
          refine lv_icmp_ge (tgt := 226) hx hb dL_isKey_62 (by decide) (fun c_62 => ?_) (fun c_62 => ?_)
          · skip
            have hkF : k = nC := by have := (nI_leI (a := nC) (b := k) (by omega) (by omega)).mp c_62; omega
            rw [hkF] at e8 e9 e10 e11 e12 e13
            have hcl := chC_le (par := par) (k := c) nC
            have hgl := chG_le (par := par) (g := (dV nC par wt (fun k => hC ck cf cd nF (nI (k * 40 + p * 4 + m)) (nI f)) cv)) (k := c) nC
            have hnl := cntN_le (par := par) (h := (fun k => hC ck cf cd nF (nI (k * 40 + p * 4 + m)) (nI f))) (c := nI c) nC
            refine W.widen (k := 148) (n := 888) (by omega) (by omega) ?_
            refine lv_iload hx hb dL_isKey_226 (lv_at hl 7 rfl) ?_
            refine lv_ldc (v := (-99000000)) hx hb hown w_0 dL_isKey_228 ?_
            refine lv_icmp_eq (tgt := 254) hx hb dL_isKey_230 (by decide) (fun c_230 => ?_) (fun c_230 => ?_)
            · skip
              have hoff : bI (sumOff nC par wt (fun k => hC ck cf cd nF (nI (k * 40 + p * 4 + m)) (nI f)) cd cv (nI c) (hC ck cf cd nF (nI (c * 40 + p * 4 + m)) (nI f)) = true) = 0 := (bI_f (so_none hOj1)).symm
              refine lv_iconst (v := 0) hx hb dL_isKey_254 (by decide) ?_
              refine lv_istore (lv' := [(14, .int 0), (13, .int x13), (12, .int x12), (11, .int x11), (10, .int x10), (9, .int x9), (8, .int x8), (7, .int (-99000000)), (6, .int (nI f)), (5, .int (nI m)), (4, .int (nI p)), (3, .int (nI c)), (2, .ref cb), (1, .ref pb), (0, .ref (a 0))]) hx hb dL_isKey_255 hl (by decide) rfl (fun ls hl => ?_)
              refine lv_iload hx hb dL_isKey_257 (lv_at hl 7 rfl) ?_
              refine lv_ldc (v := (-99000000)) hx hb hown w_0 dL_isKey_259 ?_
              refine lv_icmp_eq (tgt := 269) hx hb dL_isKey_261 (by decide) (fun c_261 => ?_) (fun c_261 => ?_)
              · skip
                refine lv_iload hx hb dL_isKey_269 (lv_at hl 1 rfl) ?_
                refine lv_if_le (tgt := 286) hx hb dL_isKey_271 (by decide) (fun c_271 => ?_) (fun c_271 => ?_)
                · skip
                  have ha0 : ¬ 0 < chC par c nC := fun z => absurd c_271 (by rw [e13]; exact nI_nle z (Nat.lt_of_le_of_lt hcl (by omega)))
                  have hdue : dvI ((dV nC par wt (fun k => hC ck cf cd nF (nI (k * 40 + p * 4 + m)) (nI f)) cv) c) = (-99000000) := dv_no hT hC12 hc hOj1 (fun z => ha0 z.1)
                  refine lv_ldc (v := (-99000000)) hx hb hown w_0 dL_isKey_286 ?_
                  refine lv_istore (lv' := [(15, .int (-99000000)), (14, .int 0), (13, .int x13), (12, .int x12), (11, .int x11), (10, .int x10), (9, .int x9), (8, .int x8), (7, .int (-99000000)), (6, .int (nI f)), (5, .int (nI m)), (4, .int (nI p)), (3, .int (nI c)), (2, .ref cb), (1, .ref pb), (0, .ref (a 0))]) hx hb dL_isKey_288 hl (by decide) rfl (fun ls hl => ?_)
                  refine lv_aload_n hx hb dL_isKey_290 rfl (lv_at hl 15 rfl) ?_
                  refine lv_iload_n hx hb dL_isKey_291 rfl (lv_at hl 12 rfl) ?_
                  refine lv_iload hx hb dL_isKey_292 (lv_at hl 11 rfl) ?_
                  refine lv_iload hx hb dL_isKey_294 (lv_at hl 10 rfl) ?_
                  refine lv_iload hx hb dL_isKey_296 (lv_at hl 9 rfl) ?_
                  refine va_calli (va_runV (As := [.int (nI c), .int (nI p), .int (nI m), .int (nI f)]) (rest := []) ⟨hx, hb, hml, hown, hts⟩ (m4_sum l D cI cZ cO cL dt A a FA nC nR nL nF par wt (fun r => nI (sk r)) (fun r => nI (fk r)) hd r9 s9 ck cf cd cv nx (LR cI pb rb cb pv rv kv) c p m f hlt hF hC12 hck hcf hcd hcv hwt hCh hL8 hc hp hm hf) (cwV 4 hts gL_isKey_X4_sum rfl rfl rfl (by decide +kernel) ⟨(Nat.le_of_ble_eq_true rfl), (Nat.le_of_ble_eq_true rfl)⟩) (gP.v (hg.on hS) hP 3 rfl 0 rfl (⟨hP, hD⟩)) rfl rfl hl.1 rfl (lv_room (Nat.le_of_ble_eq_true rfl)) dL_isKey_298 ⟨(Nat.le_of_ble_eq_true rfl), (Nat.le_of_ble_eq_true rfl)⟩) hS (fun q _ h => h) (fun q h => h) (fun r_2 ur_2 tr_2 H locs htr_2 hvmr_2 hr_2 hB hzr_2 hkr_2 hS => ?_)
                  rw [htr_2] at hB
                  obtain ⟨hP, hD⟩ := hB
                  refine W.widen (k := 151) (n := 906) (Nat.le_of_ble_eq_true rfl) (Nat.le_of_ble_eq_true rfl) ?_
                  have hP : va_P D vwCl (WD cI cO a FA nC nR nL nF par wt (fun r => nI (sk r)) (fun r => nI (fk r)) hd r9 s9 ++ (WF FA ck cf cd cv nx nF ++ (LR cI pb rb cb pv rv kv))) H := hP
                  have hD : va_D A (WD cI cO a FA nC nR nL nF par wt (fun r => nI (sk r)) (fun r => nI (fk r)) hd r9 s9 ++ (WF FA ck cf cd cv nx nF ++ (LR cI pb rb cb pv rv kv))) := hD
                  obtain rfl : r_2 = sumN par wt (fun k => hC ck cf cd nF (nI (k * 40 + p * 4 + m)) (nI f)) cv (nI c) nC := hr_2
                  refine lv_iload hx hb dL_isKey_301 (lv_at hl 6 rfl) ?_
                  refine lv_icmp_ne (tgt := 379) hx hb dL_isKey_303 (by decide) (fun c_303 => ?_) (fun c_303 => ?_)
                  · skip
                    exact absurd e9.symm c_303
                  · skip
                    refine lv_aload_n hx hb dL_isKey_306 rfl (lv_at hl 15 rfl) ?_
                    refine lv_iload_n hx hb dL_isKey_307 rfl (lv_at hl 12 rfl) ?_
                    refine lv_iload hx hb dL_isKey_308 (lv_at hl 11 rfl) ?_
                    refine lv_iload hx hb dL_isKey_310 (lv_at hl 10 rfl) ?_
                    refine lv_iload hx hb dL_isKey_312 (lv_at hl 9 rfl) ?_
                    refine va_calli (va_runV (As := [.int (nI c), .int (nI p), .int (nI m), .int (nI f)]) (rest := []) ⟨hx, hb, hml, hown, hts⟩ (m4_isSumOff l D cI cZ cO cL dt A a FA nC nR nL nF par wt (fun r => nI (sk r)) (fun r => nI (fk r)) hd r9 s9 ck cf cd cv nx (LR cI pb rb cb pv rv kv) c p m f hlt hF hC12 hck hcf hcd hcv hwt hCh hL8 hc hp hm hf) (cwV 4 hts gL_isKey_X4_isSumOff rfl rfl rfl (by decide +kernel) ⟨(Nat.le_of_ble_eq_true rfl), (Nat.le_of_ble_eq_true rfl)⟩) (gP.v (hg.on hS) hP 3 rfl 0 rfl (⟨hP, hD⟩)) rfl rfl hl.1 rfl (lv_room (Nat.le_of_ble_eq_true rfl)) dL_isKey_314 ⟨(Nat.le_of_ble_eq_true rfl), (Nat.le_of_ble_eq_true rfl)⟩) hS (fun q _ h => h) (fun q h => h) (fun r_3 ur_3 tr_3 H locs htr_3 hvmr_3 hr_3 hB hzr_3 hkr_3 hS => ?_)
                    rw [htr_3] at hB
                    obtain ⟨hP, hD⟩ := hB
                    refine W.widen (k := 154) (n := 924) (Nat.le_of_ble_eq_true rfl) (Nat.le_of_ble_eq_true rfl) ?_
                    have hP : va_P D vwCl (WD cI cO a FA nC nR nL nF par wt (fun r => nI (sk r)) (fun r => nI (fk r)) hd r9 s9 ++ (WF FA ck cf cd cv nx nF ++ (LR cI pb rb cb pv rv kv))) H := hP
                    have hD : va_D A (WD cI cO a FA nC nR nL nF par wt (fun r => nI (sk r)) (fun r => nI (fk r)) hd r9 s9 ++ (WF FA ck cf cd cv nx nF ++ (LR cI pb rb cb pv rv kv))) := hD
                    obtain rfl : r_3 = bI (sumOff nC par wt (fun k => hC ck cf cd nF (nI (k * 40 + p * 4 + m)) (nI f)) cd cv (nI c) (hC ck cf cd nF (nI (c * 40 + p * 4 + m)) (nI f)) = true) := hr_3
                    refine lv_iload hx hb dL_isKey_317 (lv_at hl 1 rfl) ?_
                    refine lv_icmp_ne (tgt := 379) hx hb dL_isKey_319 (by decide) (fun c_319 => ?_) (fun c_319 => ?_)
                    · skip
                      exact absurd hoff c_319
                    · skip
                      refine lv_aload_n hx hb dL_isKey_322 rfl (lv_at hl 15 rfl) ?_
                      refine lv_iload_n hx hb dL_isKey_323 rfl (lv_at hl 12 rfl) ?_
                      refine lv_iload hx hb dL_isKey_324 (lv_at hl 11 rfl) ?_
                      refine lv_iload hx hb dL_isKey_326 (lv_at hl 10 rfl) ?_
                      refine lv_iload hx hb dL_isKey_328 (lv_at hl 9 rfl) ?_
                      refine va_calli (vx_runSW (hh := [(0, 9, 10, 19)]) (As := [.ref (a 0), .int (nI c), .int (nI p), .int (nI m), .int (nI f)]) (rest := []) ⟨hx, hb, hml, hown, hts⟩ (kL_derived l D cI cZ cO cL dt A a FA nC nR nL nF par wt sk fk hd r9 s9 ck cf cd cv nx pb rb cb pv rv kv L c p m f hlt hOk (by omega) hp hm hf) (vx_cwSW 5 hts gL_isKey_L_derived rfl rfl rfl (by decide +kernel) ⟨(Nat.le_of_ble_eq_true rfl), (Nat.le_of_ble_eq_true rfl)⟩) (gP.s (hg.on hS) (⟨hP, hD⟩)) rfl rfl hl.1 rfl (lv_room (Nat.le_of_ble_eq_true rfl)) dL_isKey_330 ⟨(Nat.le_of_ble_eq_true rfl), (Nat.le_of_ble_eq_true rfl)⟩) hS (fun q _ h => h) (fun q h => h) (fun r_4 ur_4 tr_4 H locs htr_4 hvmr_4 hr_4 hB hzr_4 hkr_4 hS => ?_)
                      rw [htr_4] at hB
                      obtain ⟨hP, hD⟩ := hB
                      refine W.widen (k := 158) (n := 948) (Nat.le_of_ble_eq_true rfl) (Nat.le_of_ble_eq_true rfl) ?_
                      have hP : va_P D vwCl (WD cI cO a FA nC nR nL nF par wt (fun r => nI (sk r)) (fun r => nI (fk r)) hd ur_4.1 ur_4.2 ++ (WF FA ck cf cd cv nx nF ++ (LR cI pb rb cb pv rv kv))) H := hP
                      have hD : va_D A (WD cI cO a FA nC nR nL nF par wt (fun r => nI (sk r)) (fun r => nI (fk r)) hd ur_4.1 ur_4.2 ++ (WF FA ck cf cd cv nx nF ++ (LR cI pb rb cb pv rv kv))) := hD
                      obtain rfl : r_4 = dvI ((dV nC par wt (fun k => hC ck cf cd nF (nI (k * 40 + p * 4 + m)) (nI f)) cv) c) := hr_4
                      refine lv_iload hx hb dL_isKey_333 (lv_at hl 0 rfl) ?_
                      refine lv_icmp_ne (tgt := 379) hx hb dL_isKey_335 (by decide) (fun c_335 => ?_) (fun c_335 => ?_)
                      · skip
                        exact absurd hdue c_335
                      · skip
                        refine lv_iload hx hb dL_isKey_338 (lv_at hl 8 rfl) ?_
                        refine lv_ldc (v := (-99000000)) hx hb hown w_0 dL_isKey_340 ?_
                        refine lv_icmp_ne (tgt := 349) hx hb dL_isKey_342 (by decide) (fun c_342 => ?_) (fun c_342 => ?_)
                        · skip
                          exact absurd c_342 (by decide)
                        · skip
                          refine lv_iconst (v := 1) hx hb dL_isKey_345 (by decide) ?_
                          refine lv_goto (tgt := 350) hx hb dL_isKey_346 (by decide) ?_
                          refine lv_aload_n hx hb dL_isKey_350 rfl (lv_at hl 15 rfl) ?_
                          refine lv_iconst (v := 1) hx hb dL_isKey_351 (by decide) ?_
                          refine lv_iload_n hx hb dL_isKey_352 rfl (lv_at hl 12 rfl) ?_
                          refine lv_iload hx hb dL_isKey_353 (lv_at hl 11 rfl) ?_
                          refine lv_iload hx hb dL_isKey_355 (lv_at hl 10 rfl) ?_
                          refine lv_iload hx hb dL_isKey_357 (lv_at hl 9 rfl) ?_
                          refine va_calli (vx_runSW (hh := [(0, 27, 28, 19)]) (As := [.ref (a 0), .int 1, .int (nI c), .int (nI p), .int (nI m), .int (nI f)]) (rest := [.int 1]) ⟨hx, hb, hml, hown, hts⟩ (kL_heldD l D cI cZ cO cL dt A a FA nC nR nL nF par wt sk fk hd ur_4.1 ur_4.2 ck cf cd cv nx pb rb cb pv rv kv L c p m f hlt hOk (by omega) (by omega) (by omega) (by omega)) (vx_cwSW 6 hts gL_isKey_L_held rfl rfl rfl (by decide +kernel) ⟨(Nat.le_of_ble_eq_true rfl), (Nat.le_of_ble_eq_true rfl)⟩) (gP.s (hg.on hS) (⟨hP, hD⟩)) rfl rfl hl.1 rfl (lv_room (Nat.le_of_ble_eq_true rfl)) dL_isKey_359 ⟨(Nat.le_of_ble_eq_true rfl), (Nat.le_of_ble_eq_true rfl)⟩) hS (fun q _ h => h) (fun q h => h) (fun r_5 ur_5 tr_5 H locs htr_5 hvmr_5 hr_5 hB hzr_5 hkr_5 hS => ?_)
                          rw [htr_5] at hB
                          obtain ⟨hP, hD⟩ := hB
                          refine W.widen (k := 162) (n := 972) (Nat.le_of_ble_eq_true rfl) (Nat.le_of_ble_eq_true rfl) ?_
                          have hP : va_P D vwCl (WD cI cO a FA nC nR nL nF par wt (fun r => nI (sk r)) (fun r => nI (fk r)) hd ur_4.1 ur_4.2 ++ (WF FA ck cf cd cv nx nF ++ (LR cI pb rb cb pv rv kv))) H := hP
                          have hD : va_D A (WD cI cO a FA nC nR nL nF par wt (fun r => nI (sk r)) (fun r => nI (fk r)) hd ur_4.1 ur_4.2 ++ (WF FA ck cf cd cv nx nF ++ (LR cI pb rb cb pv rv kv))) := hD
                          obtain rfl : r_5 = (-99000000) := hr_5.trans (by rw [hOj1]; rfl)
                          refine lv_ldc (v := (-99000000)) hx hb hown w_0 dL_isKey_362 ?_
                          refine lv_icmp_ne (tgt := 371) hx hb dL_isKey_364 (by decide) (fun c_364 => ?_) (fun c_364 => ?_)
                          · skip
                            exact absurd c_364 (by decide)
                          · skip
                            refine lv_iconst (v := 1) hx hb dL_isKey_367 (by decide) ?_
                            refine lv_goto (tgt := 372) hx hb dL_isKey_368 (by decide) ?_
                            refine lv_icmp_ne (tgt := 379) hx hb dL_isKey_372 (by decide) (fun c_372 => ?_) (fun c_372 => ?_)
                            · skip
                              exact absurd c_372 (by decide)
                            · skip
                              refine lv_iconst (v := 1) hx hb dL_isKey_375 (by decide) ?_
                              refine lv_goto (tgt := 380) hx hb dL_isKey_376 (by decide) ?_
                              exact W.widen (k := 170) (n := 1020) (Nat.le_of_ble_eq_true rfl) (Nat.le_of_ble_eq_true rfl) (W.zret (v := 1) hx hb hr (rfl) (fun t ht hW => ⟨⟨1, (ur_4.1, ur_4.2), rfl, rfl, g_PD ht hP hD⟩, hS.F ht⟩) hS.2.2 dL_isKey_380)
                · skip
                  have ha1 : 0 < chC par c nC := Nat.pos_of_ne_zero (fun z => c_271 (by rw [e13, z]; decide))
                  refine lv_iload hx hb dL_isKey_274 (lv_at hl 2 rfl) ?_
                  refine lv_iload hx hb dL_isKey_276 (lv_at hl 1 rfl) ?_
                  refine lv_icmp_ne (tgt := 286) hx hb dL_isKey_278 (by decide) (fun c_278 => ?_) (fun c_278 => ?_)
                  · skip
                    have hdue : dvI ((dV nC par wt (fun k => hC ck cf cd nF (nI (k * 40 + p * 4 + m)) (nI f)) cv) c) = (-99000000) := dv_no hT hC12 hc hOj1 (fun z => c_278 (by rw [e12, e13, z.2]))
                    refine lv_ldc (v := (-99000000)) hx hb hown w_0 dL_isKey_286 ?_
                    refine lv_istore (lv' := [(15, .int (-99000000)), (14, .int 0), (13, .int x13), (12, .int x12), (11, .int x11), (10, .int x10), (9, .int x9), (8, .int x8), (7, .int (-99000000)), (6, .int (nI f)), (5, .int (nI m)), (4, .int (nI p)), (3, .int (nI c)), (2, .ref cb), (1, .ref pb), (0, .ref (a 0))]) hx hb dL_isKey_288 hl (by decide) rfl (fun ls hl => ?_)
                    refine lv_aload_n hx hb dL_isKey_290 rfl (lv_at hl 15 rfl) ?_
                    refine lv_iload_n hx hb dL_isKey_291 rfl (lv_at hl 12 rfl) ?_
                    refine lv_iload hx hb dL_isKey_292 (lv_at hl 11 rfl) ?_
                    refine lv_iload hx hb dL_isKey_294 (lv_at hl 10 rfl) ?_
                    refine lv_iload hx hb dL_isKey_296 (lv_at hl 9 rfl) ?_
                    refine va_calli (va_runV (As := [.int (nI c), .int (nI p), .int (nI m), .int (nI f)]) (rest := []) ⟨hx, hb, hml, hown, hts⟩ (m4_sum l D cI cZ cO cL dt A a FA nC nR nL nF par wt (fun r => nI (sk r)) (fun r => nI (fk r)) hd r9 s9 ck cf cd cv nx (LR cI pb rb cb pv rv kv) c p m f hlt hF hC12 hck hcf hcd hcv hwt hCh hL8 hc hp hm hf) (cwV 4 hts gL_isKey_X4_sum rfl rfl rfl (by decide +kernel) ⟨(Nat.le_of_ble_eq_true rfl), (Nat.le_of_ble_eq_true rfl)⟩) (gP.v (hg.on hS) hP 3 rfl 0 rfl (⟨hP, hD⟩)) rfl rfl hl.1 rfl (lv_room (Nat.le_of_ble_eq_true rfl)) dL_isKey_298 ⟨(Nat.le_of_ble_eq_true rfl), (Nat.le_of_ble_eq_true rfl)⟩) hS (fun q _ h => h) (fun q h => h) (fun r_6 ur_6 tr_6 H locs htr_6 hvmr_6 hr_6 hB hzr_6 hkr_6 hS => ?_)
                    rw [htr_6] at hB
                    obtain ⟨hP, hD⟩ := hB
                    refine W.widen (k := 151) (n := 906) (Nat.le_of_ble_eq_true rfl) (Nat.le_of_ble_eq_true rfl) ?_
                    have hP : va_P D vwCl (WD cI cO a FA nC nR nL nF par wt (fun r => nI (sk r)) (fun r => nI (fk r)) hd r9 s9 ++ (WF FA ck cf cd cv nx nF ++ (LR cI pb rb cb pv rv kv))) H := hP
                    have hD : va_D A (WD cI cO a FA nC nR nL nF par wt (fun r => nI (sk r)) (fun r => nI (fk r)) hd r9 s9 ++ (WF FA ck cf cd cv nx nF ++ (LR cI pb rb cb pv rv kv))) := hD
                    obtain rfl : r_6 = sumN par wt (fun k => hC ck cf cd nF (nI (k * 40 + p * 4 + m)) (nI f)) cv (nI c) nC := hr_6
                    refine lv_iload hx hb dL_isKey_301 (lv_at hl 6 rfl) ?_
                    refine lv_icmp_ne (tgt := 379) hx hb dL_isKey_303 (by decide) (fun c_303 => ?_) (fun c_303 => ?_)
                    · skip
                      exact absurd e9.symm c_303
                    · skip
                      refine lv_aload_n hx hb dL_isKey_306 rfl (lv_at hl 15 rfl) ?_
                      refine lv_iload_n hx hb dL_isKey_307 rfl (lv_at hl 12 rfl) ?_
                      refine lv_iload hx hb dL_isKey_308 (lv_at hl 11 rfl) ?_
                      refine lv_iload hx hb dL_isKey_310 (lv_at hl 10 rfl) ?_
                      refine lv_iload hx hb dL_isKey_312 (lv_at hl 9 rfl) ?_
                      refine va_calli (va_runV (As := [.int (nI c), .int (nI p), .int (nI m), .int (nI f)]) (rest := []) ⟨hx, hb, hml, hown, hts⟩ (m4_isSumOff l D cI cZ cO cL dt A a FA nC nR nL nF par wt (fun r => nI (sk r)) (fun r => nI (fk r)) hd r9 s9 ck cf cd cv nx (LR cI pb rb cb pv rv kv) c p m f hlt hF hC12 hck hcf hcd hcv hwt hCh hL8 hc hp hm hf) (cwV 4 hts gL_isKey_X4_isSumOff rfl rfl rfl (by decide +kernel) ⟨(Nat.le_of_ble_eq_true rfl), (Nat.le_of_ble_eq_true rfl)⟩) (gP.v (hg.on hS) hP 3 rfl 0 rfl (⟨hP, hD⟩)) rfl rfl hl.1 rfl (lv_room (Nat.le_of_ble_eq_true rfl)) dL_isKey_314 ⟨(Nat.le_of_ble_eq_true rfl), (Nat.le_of_ble_eq_true rfl)⟩) hS (fun q _ h => h) (fun q h => h) (fun r_7 ur_7 tr_7 H locs htr_7 hvmr_7 hr_7 hB hzr_7 hkr_7 hS => ?_)
                      rw [htr_7] at hB
                      obtain ⟨hP, hD⟩ := hB
                      refine W.widen (k := 154) (n := 924) (Nat.le_of_ble_eq_true rfl) (Nat.le_of_ble_eq_true rfl) ?_
                      have hP : va_P D vwCl (WD cI cO a FA nC nR nL nF par wt (fun r => nI (sk r)) (fun r => nI (fk r)) hd r9 s9 ++ (WF FA ck cf cd cv nx nF ++ (LR cI pb rb cb pv rv kv))) H := hP
                      have hD : va_D A (WD cI cO a FA nC nR nL nF par wt (fun r => nI (sk r)) (fun r => nI (fk r)) hd r9 s9 ++ (WF FA ck cf cd cv nx nF ++ (LR cI pb rb cb pv rv kv))) := hD
                      obtain rfl : r_7 = bI (sumOff nC par wt (fun k => hC ck cf cd nF (nI (k * 40 + p * 4 + m)) (nI f)) cd cv (nI c) (hC ck cf cd nF (nI (c * 40 + p * 4 + m)) (nI f)) = true) := hr_7
                      refine lv_iload hx hb dL_isKey_317 (lv_at hl 1 rfl) ?_
                      refine lv_icmp_ne (tgt := 379) hx hb dL_isKey_319 (by decide) (fun c_319 => ?_) (fun c_319 => ?_)
                      · skip
                        exact absurd hoff c_319
                      · skip
                        refine lv_aload_n hx hb dL_isKey_322 rfl (lv_at hl 15 rfl) ?_
                        refine lv_iload_n hx hb dL_isKey_323 rfl (lv_at hl 12 rfl) ?_
                        refine lv_iload hx hb dL_isKey_324 (lv_at hl 11 rfl) ?_
                        refine lv_iload hx hb dL_isKey_326 (lv_at hl 10 rfl) ?_
                        refine lv_iload hx hb dL_isKey_328 (lv_at hl 9 rfl) ?_
                        refine va_calli (vx_runSW (hh := [(0, 9, 10, 19)]) (As := [.ref (a 0), .int (nI c), .int (nI p), .int (nI m), .int (nI f)]) (rest := []) ⟨hx, hb, hml, hown, hts⟩ (kL_derived l D cI cZ cO cL dt A a FA nC nR nL nF par wt sk fk hd r9 s9 ck cf cd cv nx pb rb cb pv rv kv L c p m f hlt hOk (by omega) hp hm hf) (vx_cwSW 5 hts gL_isKey_L_derived rfl rfl rfl (by decide +kernel) ⟨(Nat.le_of_ble_eq_true rfl), (Nat.le_of_ble_eq_true rfl)⟩) (gP.s (hg.on hS) (⟨hP, hD⟩)) rfl rfl hl.1 rfl (lv_room (Nat.le_of_ble_eq_true rfl)) dL_isKey_330 ⟨(Nat.le_of_ble_eq_true rfl), (Nat.le_of_ble_eq_true rfl)⟩) hS (fun q _ h => h) (fun q h => h) (fun r_8 ur_8 tr_8 H locs htr_8 hvmr_8 hr_8 hB hzr_8 hkr_8 hS => ?_)
                        rw [htr_8] at hB
                        obtain ⟨hP, hD⟩ := hB
                        refine W.widen (k := 158) (n := 948) (Nat.le_of_ble_eq_true rfl) (Nat.le_of_ble_eq_true rfl) ?_
                        have hP : va_P D vwCl (WD cI cO a FA nC nR nL nF par wt (fun r => nI (sk r)) (fun r => nI (fk r)) hd ur_8.1 ur_8.2 ++ (WF FA ck cf cd cv nx nF ++ (LR cI pb rb cb pv rv kv))) H := hP
                        have hD : va_D A (WD cI cO a FA nC nR nL nF par wt (fun r => nI (sk r)) (fun r => nI (fk r)) hd ur_8.1 ur_8.2 ++ (WF FA ck cf cd cv nx nF ++ (LR cI pb rb cb pv rv kv))) := hD
                        obtain rfl : r_8 = dvI ((dV nC par wt (fun k => hC ck cf cd nF (nI (k * 40 + p * 4 + m)) (nI f)) cv) c) := hr_8
                        refine lv_iload hx hb dL_isKey_333 (lv_at hl 0 rfl) ?_
                        refine lv_icmp_ne (tgt := 379) hx hb dL_isKey_335 (by decide) (fun c_335 => ?_) (fun c_335 => ?_)
                        · skip
                          exact absurd hdue c_335
                        · skip
                          refine lv_iload hx hb dL_isKey_338 (lv_at hl 8 rfl) ?_
                          refine lv_ldc (v := (-99000000)) hx hb hown w_0 dL_isKey_340 ?_
                          refine lv_icmp_ne (tgt := 349) hx hb dL_isKey_342 (by decide) (fun c_342 => ?_) (fun c_342 => ?_)
                          · skip
                            exact absurd c_342 (by decide)
                          · skip
                            refine lv_iconst (v := 1) hx hb dL_isKey_345 (by decide) ?_
                            refine lv_goto (tgt := 350) hx hb dL_isKey_346 (by decide) ?_
                            refine lv_aload_n hx hb dL_isKey_350 rfl (lv_at hl 15 rfl) ?_
                            refine lv_iconst (v := 1) hx hb dL_isKey_351 (by decide) ?_
                            refine lv_iload_n hx hb dL_isKey_352 rfl (lv_at hl 12 rfl) ?_
                            refine lv_iload hx hb dL_isKey_353 (lv_at hl 11 rfl) ?_
                            refine lv_iload hx hb dL_isKey_355 (lv_at hl 10 rfl) ?_
                            refine lv_iload hx hb dL_isKey_357 (lv_at hl 9 rfl) ?_
                            refine va_calli (vx_runSW (hh := [(0, 27, 28, 19)]) (As := [.ref (a 0), .int 1, .int (nI c), .int (nI p), .int (nI m), .int (nI f)]) (rest := [.int 1]) ⟨hx, hb, hml, hown, hts⟩ (kL_heldD l D cI cZ cO cL dt A a FA nC nR nL nF par wt sk fk hd ur_8.1 ur_8.2 ck cf cd cv nx pb rb cb pv rv kv L c p m f hlt hOk (by omega) (by omega) (by omega) (by omega)) (vx_cwSW 6 hts gL_isKey_L_held rfl rfl rfl (by decide +kernel) ⟨(Nat.le_of_ble_eq_true rfl), (Nat.le_of_ble_eq_true rfl)⟩) (gP.s (hg.on hS) (⟨hP, hD⟩)) rfl rfl hl.1 rfl (lv_room (Nat.le_of_ble_eq_true rfl)) dL_isKey_359 ⟨(Nat.le_of_ble_eq_true rfl), (Nat.le_of_ble_eq_true rfl)⟩) hS (fun q _ h => h) (fun q h => h) (fun r_9 ur_9 tr_9 H locs htr_9 hvmr_9 hr_9 hB hzr_9 hkr_9 hS => ?_)
                            rw [htr_9] at hB
                            obtain ⟨hP, hD⟩ := hB
                            refine W.widen (k := 162) (n := 972) (Nat.le_of_ble_eq_true rfl) (Nat.le_of_ble_eq_true rfl) ?_
                            have hP : va_P D vwCl (WD cI cO a FA nC nR nL nF par wt (fun r => nI (sk r)) (fun r => nI (fk r)) hd ur_8.1 ur_8.2 ++ (WF FA ck cf cd cv nx nF ++ (LR cI pb rb cb pv rv kv))) H := hP
                            have hD : va_D A (WD cI cO a FA nC nR nL nF par wt (fun r => nI (sk r)) (fun r => nI (fk r)) hd ur_8.1 ur_8.2 ++ (WF FA ck cf cd cv nx nF ++ (LR cI pb rb cb pv rv kv))) := hD
                            obtain rfl : r_9 = (-99000000) := hr_9.trans (by rw [hOj1]; rfl)
                            refine lv_ldc (v := (-99000000)) hx hb hown w_0 dL_isKey_362 ?_
                            refine lv_icmp_ne (tgt := 371) hx hb dL_isKey_364 (by decide) (fun c_364 => ?_) (fun c_364 => ?_)
                            · skip
                              exact absurd c_364 (by decide)
                            · skip
                              refine lv_iconst (v := 1) hx hb dL_isKey_367 (by decide) ?_
                              refine lv_goto (tgt := 372) hx hb dL_isKey_368 (by decide) ?_
                              refine lv_icmp_ne (tgt := 379) hx hb dL_isKey_372 (by decide) (fun c_372 => ?_) (fun c_372 => ?_)
                              · skip
                                exact absurd c_372 (by decide)
                              · skip
                                refine lv_iconst (v := 1) hx hb dL_isKey_375 (by decide) ?_
                                refine lv_goto (tgt := 380) hx hb dL_isKey_376 (by decide) ?_
                                exact W.widen (k := 170) (n := 1020) (Nat.le_of_ble_eq_true rfl) (Nat.le_of_ble_eq_true rfl) (W.zret (v := 1) hx hb hr (rfl) (fun t ht hW => ⟨⟨1, (ur_8.1, ur_8.2), rfl, rfl, g_PD ht hP hD⟩, hS.F ht⟩) hS.2.2 dL_isKey_380)
                  · skip
                    have hge : chG par (dV nC par wt (fun k => hC ck cf cd nF (nI (k * 40 + p * 4 + m)) (nI f)) cv) c nC = chC par c nC := (nI_eq (by omega) (by omega)).mp (e12.symm.trans (c_278.trans e13))
                    have hdue : dvI ((dV nC par wt (fun k => hC ck cf cd nF (nI (k * 40 + p * 4 + m)) (nI f)) cv) c) = x11 := by rw [e11]; exact dv_all hT hC12 hc hOj1 ha1 hge
                    refine lv_iload hx hb dL_isKey_281 (lv_at hl 3 rfl) ?_
                    refine lv_goto (tgt := 288) hx hb dL_isKey_283 (by decide) ?_
                    refine lv_istore (lv' := [(15, .int x11), (14, .int 0), (13, .int x13), (12, .int x12), (11, .int x11), (10, .int x10), (9, .int x9), (8, .int x8), (7, .int (-99000000)), (6, .int (nI f)), (5, .int (nI m)), (4, .int (nI p)), (3, .int (nI c)), (2, .ref cb), (1, .ref pb), (0, .ref (a 0))]) hx hb dL_isKey_288 hl (by decide) rfl (fun ls hl => ?_)
                    refine lv_aload_n hx hb dL_isKey_290 rfl (lv_at hl 15 rfl) ?_
                    refine lv_iload_n hx hb dL_isKey_291 rfl (lv_at hl 12 rfl) ?_
                    refine lv_iload hx hb dL_isKey_292 (lv_at hl 11 rfl) ?_
                    refine lv_iload hx hb dL_isKey_294 (lv_at hl 10 rfl) ?_
                    refine lv_iload hx hb dL_isKey_296 (lv_at hl 9 rfl) ?_
                    refine va_calli (va_runV (As := [.int (nI c), .int (nI p), .int (nI m), .int (nI f)]) (rest := []) ⟨hx, hb, hml, hown, hts⟩ (m4_sum l D cI cZ cO cL dt A a FA nC nR nL nF par wt (fun r => nI (sk r)) (fun r => nI (fk r)) hd r9 s9 ck cf cd cv nx (LR cI pb rb cb pv rv kv) c p m f hlt hF hC12 hck hcf hcd hcv hwt hCh hL8 hc hp hm hf) (cwV 4 hts gL_isKey_X4_sum rfl rfl rfl (by decide +kernel) ⟨(Nat.le_of_ble_eq_true rfl), (Nat.le_of_ble_eq_true rfl)⟩) (gP.v (hg.on hS) hP 3 rfl 0 rfl (⟨hP, hD⟩)) rfl rfl hl.1 rfl (lv_room (Nat.le_of_ble_eq_true rfl)) dL_isKey_298 ⟨(Nat.le_of_ble_eq_true rfl), (Nat.le_of_ble_eq_true rfl)⟩) hS (fun q _ h => h) (fun q h => h) (fun r_10 ur_10 tr_10 H locs htr_10 hvmr_10 hr_10 hB hzr_10 hkr_10 hS => ?_)
                    rw [htr_10] at hB
                    obtain ⟨hP, hD⟩ := hB
                    refine W.widen (k := 151) (n := 906) (Nat.le_of_ble_eq_true rfl) (Nat.le_of_ble_eq_true rfl) ?_
                    have hP : va_P D vwCl (WD cI cO a FA nC nR nL nF par wt (fun r => nI (sk r)) (fun r => nI (fk r)) hd r9 s9 ++ (WF FA ck cf cd cv nx nF ++ (LR cI pb rb cb pv rv kv))) H := hP
                    have hD : va_D A (WD cI cO a FA nC nR nL nF par wt (fun r => nI (sk r)) (fun r => nI (fk r)) hd r9 s9 ++ (WF FA ck cf cd cv nx nF ++ (LR cI pb rb cb pv rv kv))) := hD
                    obtain rfl : r_10 = sumN par wt (fun k => hC ck cf cd nF (nI (k * 40 + p * 4 + m)) (nI f)) cv (nI c) nC := hr_10
                    refine lv_iload hx hb dL_isKey_301 (lv_at hl 6 rfl) ?_
                    refine lv_icmp_ne (tgt := 379) hx hb dL_isKey_303 (by decide) (fun c_303 => ?_) (fun c_303 => ?_)
                    · skip
                      exact absurd e9.symm c_303
                    · skip
                      refine lv_aload_n hx hb dL_isKey_306 rfl (lv_at hl 15 rfl) ?_
                      refine lv_iload_n hx hb dL_isKey_307 rfl (lv_at hl 12 rfl) ?_
                      refine lv_iload hx hb dL_isKey_308 (lv_at hl 11 rfl) ?_
                      refine lv_iload hx hb dL_isKey_310 (lv_at hl 10 rfl) ?_
                      refine lv_iload hx hb dL_isKey_312 (lv_at hl 9 rfl) ?_
                      refine va_calli (va_runV (As := [.int (nI c), .int (nI p), .int (nI m), .int (nI f)]) (rest := []) ⟨hx, hb, hml, hown, hts⟩ (m4_isSumOff l D cI cZ cO cL dt A a FA nC nR nL nF par wt (fun r => nI (sk r)) (fun r => nI (fk r)) hd r9 s9 ck cf cd cv nx (LR cI pb rb cb pv rv kv) c p m f hlt hF hC12 hck hcf hcd hcv hwt hCh hL8 hc hp hm hf) (cwV 4 hts gL_isKey_X4_isSumOff rfl rfl rfl (by decide +kernel) ⟨(Nat.le_of_ble_eq_true rfl), (Nat.le_of_ble_eq_true rfl)⟩) (gP.v (hg.on hS) hP 3 rfl 0 rfl (⟨hP, hD⟩)) rfl rfl hl.1 rfl (lv_room (Nat.le_of_ble_eq_true rfl)) dL_isKey_314 ⟨(Nat.le_of_ble_eq_true rfl), (Nat.le_of_ble_eq_true rfl)⟩) hS (fun q _ h => h) (fun q h => h) (fun r_11 ur_11 tr_11 H locs htr_11 hvmr_11 hr_11 hB hzr_11 hkr_11 hS => ?_)
                      rw [htr_11] at hB
                      obtain ⟨hP, hD⟩ := hB
                      refine W.widen (k := 154) (n := 924) (Nat.le_of_ble_eq_true rfl) (Nat.le_of_ble_eq_true rfl) ?_
                      have hP : va_P D vwCl (WD cI cO a FA nC nR nL nF par wt (fun r => nI (sk r)) (fun r => nI (fk r)) hd r9 s9 ++ (WF FA ck cf cd cv nx nF ++ (LR cI pb rb cb pv rv kv))) H := hP
                      have hD : va_D A (WD cI cO a FA nC nR nL nF par wt (fun r => nI (sk r)) (fun r => nI (fk r)) hd r9 s9 ++ (WF FA ck cf cd cv nx nF ++ (LR cI pb rb cb pv rv kv))) := hD
                      obtain rfl : r_11 = bI (sumOff nC par wt (fun k => hC ck cf cd nF (nI (k * 40 + p * 4 + m)) (nI f)) cd cv (nI c) (hC ck cf cd nF (nI (c * 40 + p * 4 + m)) (nI f)) = true) := hr_11
                      refine lv_iload hx hb dL_isKey_317 (lv_at hl 1 rfl) ?_
                      refine lv_icmp_ne (tgt := 379) hx hb dL_isKey_319 (by decide) (fun c_319 => ?_) (fun c_319 => ?_)
                      · skip
                        exact absurd hoff c_319
                      · skip
                        refine lv_aload_n hx hb dL_isKey_322 rfl (lv_at hl 15 rfl) ?_
                        refine lv_iload_n hx hb dL_isKey_323 rfl (lv_at hl 12 rfl) ?_
                        refine lv_iload hx hb dL_isKey_324 (lv_at hl 11 rfl) ?_
                        refine lv_iload hx hb dL_isKey_326 (lv_at hl 10 rfl) ?_
                        refine lv_iload hx hb dL_isKey_328 (lv_at hl 9 rfl) ?_
                        refine va_calli (vx_runSW (hh := [(0, 9, 10, 19)]) (As := [.ref (a 0), .int (nI c), .int (nI p), .int (nI m), .int (nI f)]) (rest := []) ⟨hx, hb, hml, hown, hts⟩ (kL_derived l D cI cZ cO cL dt A a FA nC nR nL nF par wt sk fk hd r9 s9 ck cf cd cv nx pb rb cb pv rv kv L c p m f hlt hOk (by omega) hp hm hf) (vx_cwSW 5 hts gL_isKey_L_derived rfl rfl rfl (by decide +kernel) ⟨(Nat.le_of_ble_eq_true rfl), (Nat.le_of_ble_eq_true rfl)⟩) (gP.s (hg.on hS) (⟨hP, hD⟩)) rfl rfl hl.1 rfl (lv_room (Nat.le_of_ble_eq_true rfl)) dL_isKey_330 ⟨(Nat.le_of_ble_eq_true rfl), (Nat.le_of_ble_eq_true rfl)⟩) hS (fun q _ h => h) (fun q h => h) (fun r_12 ur_12 tr_12 H locs htr_12 hvmr_12 hr_12 hB hzr_12 hkr_12 hS => ?_)
                        rw [htr_12] at hB
                        obtain ⟨hP, hD⟩ := hB
                        refine W.widen (k := 158) (n := 948) (Nat.le_of_ble_eq_true rfl) (Nat.le_of_ble_eq_true rfl) ?_
                        have hP : va_P D vwCl (WD cI cO a FA nC nR nL nF par wt (fun r => nI (sk r)) (fun r => nI (fk r)) hd ur_12.1 ur_12.2 ++ (WF FA ck cf cd cv nx nF ++ (LR cI pb rb cb pv rv kv))) H := hP
                        have hD : va_D A (WD cI cO a FA nC nR nL nF par wt (fun r => nI (sk r)) (fun r => nI (fk r)) hd ur_12.1 ur_12.2 ++ (WF FA ck cf cd cv nx nF ++ (LR cI pb rb cb pv rv kv))) := hD
                        obtain rfl : r_12 = dvI ((dV nC par wt (fun k => hC ck cf cd nF (nI (k * 40 + p * 4 + m)) (nI f)) cv) c) := hr_12
                        refine lv_iload hx hb dL_isKey_333 (lv_at hl 0 rfl) ?_
                        refine lv_icmp_ne (tgt := 379) hx hb dL_isKey_335 (by decide) (fun c_335 => ?_) (fun c_335 => ?_)
                        · skip
                          exact absurd hdue c_335
                        · skip
                          refine lv_iload hx hb dL_isKey_338 (lv_at hl 8 rfl) ?_
                          refine lv_ldc (v := (-99000000)) hx hb hown w_0 dL_isKey_340 ?_
                          refine lv_icmp_ne (tgt := 349) hx hb dL_isKey_342 (by decide) (fun c_342 => ?_) (fun c_342 => ?_)
                          · skip
                            exact absurd c_342 (by decide)
                          · skip
                            refine lv_iconst (v := 1) hx hb dL_isKey_345 (by decide) ?_
                            refine lv_goto (tgt := 350) hx hb dL_isKey_346 (by decide) ?_
                            refine lv_aload_n hx hb dL_isKey_350 rfl (lv_at hl 15 rfl) ?_
                            refine lv_iconst (v := 1) hx hb dL_isKey_351 (by decide) ?_
                            refine lv_iload_n hx hb dL_isKey_352 rfl (lv_at hl 12 rfl) ?_
                            refine lv_iload hx hb dL_isKey_353 (lv_at hl 11 rfl) ?_
                            refine lv_iload hx hb dL_isKey_355 (lv_at hl 10 rfl) ?_
                            refine lv_iload hx hb dL_isKey_357 (lv_at hl 9 rfl) ?_
                            refine va_calli (vx_runSW (hh := [(0, 27, 28, 19)]) (As := [.ref (a 0), .int 1, .int (nI c), .int (nI p), .int (nI m), .int (nI f)]) (rest := [.int 1]) ⟨hx, hb, hml, hown, hts⟩ (kL_heldD l D cI cZ cO cL dt A a FA nC nR nL nF par wt sk fk hd ur_12.1 ur_12.2 ck cf cd cv nx pb rb cb pv rv kv L c p m f hlt hOk (by omega) (by omega) (by omega) (by omega)) (vx_cwSW 6 hts gL_isKey_L_held rfl rfl rfl (by decide +kernel) ⟨(Nat.le_of_ble_eq_true rfl), (Nat.le_of_ble_eq_true rfl)⟩) (gP.s (hg.on hS) (⟨hP, hD⟩)) rfl rfl hl.1 rfl (lv_room (Nat.le_of_ble_eq_true rfl)) dL_isKey_359 ⟨(Nat.le_of_ble_eq_true rfl), (Nat.le_of_ble_eq_true rfl)⟩) hS (fun q _ h => h) (fun q h => h) (fun r_13 ur_13 tr_13 H locs htr_13 hvmr_13 hr_13 hB hzr_13 hkr_13 hS => ?_)
                            rw [htr_13] at hB
                            obtain ⟨hP, hD⟩ := hB
                            refine W.widen (k := 162) (n := 972) (Nat.le_of_ble_eq_true rfl) (Nat.le_of_ble_eq_true rfl) ?_
                            have hP : va_P D vwCl (WD cI cO a FA nC nR nL nF par wt (fun r => nI (sk r)) (fun r => nI (fk r)) hd ur_12.1 ur_12.2 ++ (WF FA ck cf cd cv nx nF ++ (LR cI pb rb cb pv rv kv))) H := hP
                            have hD : va_D A (WD cI cO a FA nC nR nL nF par wt (fun r => nI (sk r)) (fun r => nI (fk r)) hd ur_12.1 ur_12.2 ++ (WF FA ck cf cd cv nx nF ++ (LR cI pb rb cb pv rv kv))) := hD
                            obtain rfl : r_13 = (-99000000) := hr_13.trans (by rw [hOj1]; rfl)
                            refine lv_ldc (v := (-99000000)) hx hb hown w_0 dL_isKey_362 ?_
                            refine lv_icmp_ne (tgt := 371) hx hb dL_isKey_364 (by decide) (fun c_364 => ?_) (fun c_364 => ?_)
                            · skip
                              exact absurd c_364 (by decide)
                            · skip
                              refine lv_iconst (v := 1) hx hb dL_isKey_367 (by decide) ?_
                              refine lv_goto (tgt := 372) hx hb dL_isKey_368 (by decide) ?_
                              refine lv_icmp_ne (tgt := 379) hx hb dL_isKey_372 (by decide) (fun c_372 => ?_) (fun c_372 => ?_)
                              · skip
                                exact absurd c_372 (by decide)
                              · skip
                                refine lv_iconst (v := 1) hx hb dL_isKey_375 (by decide) ?_
                                refine lv_goto (tgt := 380) hx hb dL_isKey_376 (by decide) ?_
                                exact W.widen (k := 170) (n := 1020) (Nat.le_of_ble_eq_true rfl) (Nat.le_of_ble_eq_true rfl) (W.zret (v := 1) hx hb hr (rfl) (fun t ht hW => ⟨⟨1, (ur_12.1, ur_12.2), rfl, rfl, g_PD ht hP hD⟩, hS.F ht⟩) hS.2.2 dL_isKey_380)
              · skip
                exact absurd c_261 (by decide)
            · skip
              exact absurd c_230 (by decide)
          · skip
            have hkF : k < nC := by have := mt (nI_leI (a := nC) (b := k) (by omega) (by omega)).mpr c_62; omega
            refine lv_aload_n hx hb dL_isKey_65 rfl (lv_at hl 13 rfl) ?_
            refine lv_iload hx hb dL_isKey_66 (lv_at hl 0 rfl) ?_
            refine g_csi (va_runS (As := [.ref pb, .int (nI k)]) (rest := []) ⟨hx, hb, hml, hown, hts⟩ (kL_under l D cI cZ cO cL dt A a FA nC nR nL nF par wt sk fk hd r9 s9 ck cf cd cv nx pb rb cb pv rv kv L k hpk hC12 hkF) (va_cwS 2 hts gL_isKey_L_under rfl rfl rfl (by decide +kernel) ⟨(Nat.le_of_ble_eq_true rfl), (Nat.le_of_ble_eq_true rfl)⟩) (gP.s (hg.on hS) hP) rfl rfl hl.1 rfl (lv_room (Nat.le_of_ble_eq_true rfl)) dL_isKey_68 ⟨by show 12 * k + 4 + 0 ≤ 170; omega, by show 72 * k + 24 + 0 ≤ 1020; omega⟩) (fun r_14 hr_14 => ?_)
            obtain rfl : r_14 = par k := hr_14
            refine lv_iload_n hx hb dL_isKey_71 rfl (lv_at hl 11 rfl) ?_
            refine lv_icmp_ne (tgt := 220) hx hb dL_isKey_72 (by decide) (fun c_72 => ?_) (fun c_72 => ?_)
            · skip
              refine lv_iinc (v := nI (k + 1)) (lv' := [(14, .int (nI (k + 1))), (13, .int x13), (12, .int x12), (11, .int x11), (10, .int x10), (9, .int x9), (8, .int x8), (7, .int (-99000000)), (6, .int (nI f)), (5, .int (nI m)), (4, .int (nI p)), (3, .int (nI c)), (2, .ref cb), (1, .ref pb), (0, .ref (a 0))]) hx hb dL_isKey_220 hl (k := 0) rfl (nI_1 k) (by decide) rfl (fun ls hl => ?_)
              refine lv_goto (tgt := 57) hx hb dL_isKey_223 (by decide) ?_
              refine W.widen (k := 12 * (k + 1) + 4) (n := 72 * (k + 1) + 24) (by omega) (by omega) ?_
              exact ih_lp (k + 1) r9 s9 x8 x9 x10 x11 x12 x13 _ _ (by omega) (by omega) (by rw [dn_no c_72]; exact e8) (by rw [sn_no c_72]; exact e9) (by rw [cn_no c_72]; exact e10) (by rw [gS_no c_72]; exact e11) (by rw [gG_no c_72]; exact e12) (by rw [gC_no c_72]; exact e13) hP hD hS _ (lv_sub hl [0, 1, 2, 3, 4, 5, 6, 7, 8, 9, 10, 11, 12, 13, 14] rfl)
            · skip
              refine lv_aload_n hx hb dL_isKey_75 rfl (lv_at hl 14 rfl) ?_
              refine lv_iconst (v := 0) hx hb dL_isKey_76 (by decide) ?_
              refine lv_iload hx hb dL_isKey_77 (lv_at hl 0 rfl) ?_
              refine lv_iload hx hb dL_isKey_79 (lv_at hl 10 rfl) ?_
              refine lv_iload hx hb dL_isKey_81 (lv_at hl 9 rfl) ?_
              refine lv_iload hx hb dL_isKey_83 (lv_at hl 8 rfl) ?_
              refine va_calli (vx_runSW (hh := [(0, 27, 28, 19)]) (As := [.ref (a 0), .int 0, .int (nI k), .int (nI p), .int (nI m), .int (nI f)]) (rest := []) ⟨hx, hb, hml, hown, hts⟩ (kL_held l D cI cZ cO cL dt A a FA nC nR nL nF par wt sk fk hd r9 s9 ck cf cd cv nx pb rb cb pv rv kv L k p m f hlt hOk (by omega) (by omega) (by omega) (by omega)) (vx_cwSW 6 hts gL_isKey_L_held rfl rfl rfl (by decide +kernel) ⟨(Nat.le_of_ble_eq_true rfl), (Nat.le_of_ble_eq_true rfl)⟩) (gP.s (hg.on hS) (⟨hP, hD⟩)) rfl rfl hl.1 rfl (lv_room (Nat.le_of_ble_eq_true rfl)) dL_isKey_85 ⟨by show 12 * k + 4 + 4 ≤ 170; omega, by show 72 * k + 24 + 24 ≤ 1020; omega⟩) hS (fun q _ h => h) (fun q h => h) (fun r_15 ur_15 tr_15 H locs htr_15 hvmr_15 hr_15 hB hzr_15 hkr_15 hS => ?_)
              rw [htr_15] at hB
              obtain ⟨hP, hD⟩ := hB
              refine W.widen (k := 12 * k + 8) (n := 72 * k + 48) (by omega) (by omega) ?_
              have hP : va_P D vwCl (WD cI cO a FA nC nR nL nF par wt (fun r => nI (sk r)) (fun r => nI (fk r)) hd r9 s9 ++ (WF FA ck cf cd cv nx nF ++ (LR cI pb rb cb pv rv kv))) H := hP
              have hD : va_D A (WD cI cO a FA nC nR nL nF par wt (fun r => nI (sk r)) (fun r => nI (fk r)) hd r9 s9 ++ (WF FA ck cf cd cv nx nF ++ (LR cI pb rb cb pv rv kv))) := hD
              obtain ⟨o_r_15, hOj2⟩ : ∃ z, hC ck cf cd nF (nI (k * 40 + p * 4 + m)) (nI f) = z := ⟨_, rfl⟩
              rcases o_r_15 with _ | j2
              · skip
                obtain rfl : r_15 = (-99000000) := hr_15.trans (congrArg (hv cv) hOj2)
                refine lv_istore (lv' := [(15, .int (-99000000)), (14, .int (nI k)), (13, .int x13), (12, .int x12), (11, .int x11), (10, .int x10), (9, .int x9), (8, .int x8), (7, .int (-99000000)), (6, .int (nI f)), (5, .int (nI m)), (4, .int (nI p)), (3, .int (nI c)), (2, .ref cb), (1, .ref pb), (0, .ref (a 0))]) hx hb dL_isKey_88 hl (by decide) rfl (fun ls hl => ?_)
                refine lv_aload_n hx hb dL_isKey_90 rfl (lv_at hl 15 rfl) ?_
                refine lv_iload hx hb dL_isKey_91 (lv_at hl 1 rfl) ?_
                refine lv_iload hx hb dL_isKey_93 (lv_at hl 11 rfl) ?_
                refine lv_iload hx hb dL_isKey_95 (lv_at hl 10 rfl) ?_
                refine lv_iload hx hb dL_isKey_97 (lv_at hl 9 rfl) ?_
                refine va_calli (vx_runSW (hh := [(0, 9, 10, 19)]) (As := [.ref (a 0), .int (nI k), .int (nI p), .int (nI m), .int (nI f)]) (rest := []) ⟨hx, hb, hml, hown, hts⟩ (kL_derived l D cI cZ cO cL dt A a FA nC nR nL nF par wt sk fk hd r9 s9 ck cf cd cv nx pb rb cb pv rv kv L k p m f hlt hOk (by omega) hp hm hf) (vx_cwSW 5 hts gL_isKey_L_derived rfl rfl rfl (by decide +kernel) ⟨(Nat.le_of_ble_eq_true rfl), (Nat.le_of_ble_eq_true rfl)⟩) (gP.s (hg.on hS) (⟨hP, hD⟩)) rfl rfl hl.1 rfl (lv_room (Nat.le_of_ble_eq_true rfl)) dL_isKey_99 ⟨by show 12 * k + 8 + 4 ≤ 170; omega, by show 72 * k + 48 + 24 ≤ 1020; omega⟩) hS (fun q _ h => h) (fun q h => h) (fun r_16 ur_16 tr_16 H locs htr_16 hvmr_16 hr_16 hB hzr_16 hkr_16 hS => ?_)
                rw [htr_16] at hB
                obtain ⟨hP, hD⟩ := hB
                refine W.widen (k := 12 * k + 12) (n := 72 * k + 72) (by omega) (by omega) ?_
                have hP : va_P D vwCl (WD cI cO a FA nC nR nL nF par wt (fun r => nI (sk r)) (fun r => nI (fk r)) hd ur_16.1 ur_16.2 ++ (WF FA ck cf cd cv nx nF ++ (LR cI pb rb cb pv rv kv))) H := hP
                have hD : va_D A (WD cI cO a FA nC nR nL nF par wt (fun r => nI (sk r)) (fun r => nI (fk r)) hd ur_16.1 ur_16.2 ++ (WF FA ck cf cd cv nx nF ++ (LR cI pb rb cb pv rv kv))) := hD
                obtain ⟨o_r_16, hD2⟩ : ∃ z, (dV nC par wt (fun k => hC ck cf cd nF (nI (k * 40 + p * 4 + m)) (nI f)) cv) k = z := ⟨_, rfl⟩
                rcases o_r_16 with _ | x2
                · skip
                  obtain rfl : r_16 = (-99000000) := hr_16.trans (congrArg dvI hD2)
                  refine lv_istore (lv' := [(16, .int (-99000000)), (15, .int (-99000000)), (14, .int (nI k)), (13, .int x13), (12, .int x12), (11, .int x11), (10, .int x10), (9, .int x9), (8, .int x8), (7, .int (-99000000)), (6, .int (nI f)), (5, .int (nI m)), (4, .int (nI p)), (3, .int (nI c)), (2, .ref cb), (1, .ref pb), (0, .ref (a 0))]) hx hb dL_isKey_102 hl (by decide) rfl (fun ls hl => ?_)
                  refine lv_iload hx hb dL_isKey_104 (lv_at hl 7 rfl) ?_
                  refine lv_iload hx hb dL_isKey_106 (lv_at hl 1 rfl) ?_
                  refine lv_ldc (v := (-99000000)) hx hb hown w_0 dL_isKey_108 ?_
                  refine lv_icmp_ne (tgt := 117) hx hb dL_isKey_110 (by decide) (fun c_110 => ?_) (fun c_110 => ?_)
                  · skip
                    exact absurd c_110 (by decide)
                  · skip
                    refine lv_iconst (v := 0) hx hb dL_isKey_113 (by decide) ?_
                    refine lv_goto (tgt := 126) hx hb dL_isKey_114 (by decide) ?_
                    refine lv_iadd hx hb dL_isKey_126 ?_
                    refine lv_istore (lv' := [(9, .int (x9 + 0)), (16, .int (-99000000)), (15, .int (-99000000)), (14, .int (nI k)), (13, .int x13), (12, .int x12), (11, .int x11), (10, .int x10), (8, .int x8), (7, .int (-99000000)), (6, .int (nI f)), (5, .int (nI m)), (4, .int (nI p)), (3, .int (nI c)), (2, .ref cb), (1, .ref pb), (0, .ref (a 0))]) hx hb dL_isKey_127 hl (by decide) rfl (fun ls hl => ?_)
                    refine lv_iload hx hb dL_isKey_129 (lv_at hl 8 rfl) ?_
                    refine lv_iload hx hb dL_isKey_131 (lv_at hl 2 rfl) ?_
                    refine lv_ldc (v := (-99000000)) hx hb hown w_0 dL_isKey_133 ?_
                    refine lv_icmp_ne (tgt := 142) hx hb dL_isKey_135 (by decide) (fun c_135 => ?_) (fun c_135 => ?_)
                    · skip
                      exact absurd c_135 (by decide)
                    · skip
                      refine lv_iconst (v := 0) hx hb dL_isKey_138 (by decide) ?_
                      refine lv_goto (tgt := 155) hx hb dL_isKey_139 (by decide) ?_
                      refine lv_iadd hx hb dL_isKey_155 ?_
                      refine lv_istore (lv' := [(8, .int (x8 + 0)), (9, .int (x9 + 0)), (16, .int (-99000000)), (15, .int (-99000000)), (14, .int (nI k)), (13, .int x13), (12, .int x12), (11, .int x11), (10, .int x10), (7, .int (-99000000)), (6, .int (nI f)), (5, .int (nI m)), (4, .int (nI p)), (3, .int (nI c)), (2, .ref cb), (1, .ref pb), (0, .ref (a 0))]) hx hb dL_isKey_156 hl (by decide) rfl (fun ls hl => ?_)
                      refine lv_iload hx hb dL_isKey_158 (lv_at hl 8 rfl) ?_
                      refine lv_iload hx hb dL_isKey_160 (lv_at hl 3 rfl) ?_
                      refine lv_ldc (v := (-99000000)) hx hb hown w_0 dL_isKey_162 ?_
                      refine lv_icmp_ne (tgt := 171) hx hb dL_isKey_164 (by decide) (fun c_164 => ?_) (fun c_164 => ?_)
                      · skip
                        exact absurd c_164 (by decide)
                      · skip
                        refine lv_iconst (v := 0) hx hb dL_isKey_167 (by decide) ?_
                        refine lv_goto (tgt := 172) hx hb dL_isKey_168 (by decide) ?_
                        refine lv_iadd hx hb dL_isKey_172 ?_
                        refine lv_istore (lv' := [(10, .int (x10 + 0)), (8, .int (x8 + 0)), (9, .int (x9 + 0)), (16, .int (-99000000)), (15, .int (-99000000)), (14, .int (nI k)), (13, .int x13), (12, .int x12), (11, .int x11), (7, .int (-99000000)), (6, .int (nI f)), (5, .int (nI m)), (4, .int (nI p)), (3, .int (nI c)), (2, .ref cb), (1, .ref pb), (0, .ref (a 0))]) hx hb dL_isKey_173 hl (by decide) rfl (fun ls hl => ?_)
                        refine lv_iload hx hb dL_isKey_175 (lv_at hl 8 rfl) ?_
                        refine lv_iload hx hb dL_isKey_177 (lv_at hl 3 rfl) ?_
                        refine lv_ldc (v := (-99000000)) hx hb hown w_0 dL_isKey_179 ?_
                        refine lv_icmp_ne (tgt := 188) hx hb dL_isKey_181 (by decide) (fun c_181 => ?_) (fun c_181 => ?_)
                        · skip
                          exact absurd c_181 (by decide)
                        · skip
                          refine lv_iconst (v := 0) hx hb dL_isKey_184 (by decide) ?_
                          refine lv_goto (tgt := 197) hx hb dL_isKey_185 (by decide) ?_
                          refine lv_iadd hx hb dL_isKey_197 ?_
                          refine lv_istore (lv' := [(11, .int (x11 + 0)), (10, .int (x10 + 0)), (8, .int (x8 + 0)), (9, .int (x9 + 0)), (16, .int (-99000000)), (15, .int (-99000000)), (14, .int (nI k)), (13, .int x13), (12, .int x12), (7, .int (-99000000)), (6, .int (nI f)), (5, .int (nI m)), (4, .int (nI p)), (3, .int (nI c)), (2, .ref cb), (1, .ref pb), (0, .ref (a 0))]) hx hb dL_isKey_198 hl (by decide) rfl (fun ls hl => ?_)
                          refine lv_iload hx hb dL_isKey_200 (lv_at hl 8 rfl) ?_
                          refine lv_iload hx hb dL_isKey_202 (lv_at hl 4 rfl) ?_
                          refine lv_ldc (v := (-99000000)) hx hb hown w_0 dL_isKey_204 ?_
                          refine lv_icmp_ne (tgt := 213) hx hb dL_isKey_206 (by decide) (fun c_206 => ?_) (fun c_206 => ?_)
                          · skip
                            exact absurd c_206 (by decide)
                          · skip
                            refine lv_iconst (v := 0) hx hb dL_isKey_209 (by decide) ?_
                            refine lv_goto (tgt := 214) hx hb dL_isKey_210 (by decide) ?_
                            refine lv_iadd hx hb dL_isKey_214 ?_
                            refine lv_istore (lv' := [(12, .int (x12 + 0)), (11, .int (x11 + 0)), (10, .int (x10 + 0)), (8, .int (x8 + 0)), (9, .int (x9 + 0)), (16, .int (-99000000)), (15, .int (-99000000)), (14, .int (nI k)), (13, .int x13), (7, .int (-99000000)), (6, .int (nI f)), (5, .int (nI m)), (4, .int (nI p)), (3, .int (nI c)), (2, .ref cb), (1, .ref pb), (0, .ref (a 0))]) hx hb dL_isKey_215 hl (by decide) rfl (fun ls hl => ?_)
                            refine lv_iinc (v := x13 + 1) (lv' := [(13, .int (x13 + 1)), (12, .int (x12 + 0)), (11, .int (x11 + 0)), (10, .int (x10 + 0)), (8, .int (x8 + 0)), (9, .int (x9 + 0)), (16, .int (-99000000)), (15, .int (-99000000)), (14, .int (nI k)), (7, .int (-99000000)), (6, .int (nI f)), (5, .int (nI m)), (4, .int (nI p)), (3, .int (nI c)), (2, .ref cb), (1, .ref pb), (0, .ref (a 0))]) hx hb dL_isKey_217 hl (k := 8) rfl (rfl) (by decide) rfl (fun ls hl => ?_)
                            refine lv_iinc (v := nI (k + 1)) (lv' := [(14, .int (nI (k + 1))), (13, .int (x13 + 1)), (12, .int (x12 + 0)), (11, .int (x11 + 0)), (10, .int (x10 + 0)), (8, .int (x8 + 0)), (9, .int (x9 + 0)), (16, .int (-99000000)), (15, .int (-99000000)), (7, .int (-99000000)), (6, .int (nI f)), (5, .int (nI m)), (4, .int (nI p)), (3, .int (nI c)), (2, .ref cb), (1, .ref pb), (0, .ref (a 0))]) hx hb dL_isKey_220 hl (k := 8) rfl (nI_1 k) (by decide) rfl (fun ls hl => ?_)
                            refine lv_goto (tgt := 57) hx hb dL_isKey_223 (by decide) ?_
                            refine W.widen (k := 12 * (k + 1) + 4) (n := 72 * (k + 1) + 24) (by omega) (by omega) ?_
                            exact ih_lp (k + 1) ur_16.1 ur_16.2 (x8 + 0) (x9 + 0) (x10 + 0) (x11 + 0) (x12 + 0) (x13 + 1) _ _ (by omega) (by omega) (by rw [dn_none (h := (fun k => hC ck cf cd nF (nI (k * 40 + p * 4 + m)) (nI f))) hOj2, e8]; exact Int32.add_zero _) (by rw [sn_none (h := (fun k => hC ck cf cd nF (nI (k * 40 + p * 4 + m)) (nI f))) hOj2, e9]; exact Int32.add_zero _) (by rw [cn_none (h := (fun k => hC ck cf cd nF (nI (k * 40 + p * 4 + m)) (nI f))) hOj2, e10]; exact Int32.add_zero _) (by rw [gS_none hD2, e11]; exact Int32.add_zero _) (by rw [gG_none hD2, e12]; exact Int32.add_zero _) (by rw [gC_yes c_72, e13]; exact nI_1 _) hP hD hS _ (lv_sub hl [0, 1, 2, 3, 4, 6, 5, 9, 10, 11, 12, 13, 14, 15, 16] rfl)
                · skip
                  obtain rfl : x2 = r_16 := (hr_16.trans (congrArg dvI hD2)).symm
                  refine lv_istore (lv' := [(16, .int x2), (15, .int (-99000000)), (14, .int (nI k)), (13, .int x13), (12, .int x12), (11, .int x11), (10, .int x10), (9, .int x9), (8, .int x8), (7, .int (-99000000)), (6, .int (nI f)), (5, .int (nI m)), (4, .int (nI p)), (3, .int (nI c)), (2, .ref cb), (1, .ref pb), (0, .ref (a 0))]) hx hb dL_isKey_102 hl (by decide) rfl (fun ls hl => ?_)
                  refine lv_iload hx hb dL_isKey_104 (lv_at hl 7 rfl) ?_
                  refine lv_iload hx hb dL_isKey_106 (lv_at hl 1 rfl) ?_
                  refine lv_ldc (v := (-99000000)) hx hb hown w_0 dL_isKey_108 ?_
                  refine lv_icmp_ne (tgt := 117) hx hb dL_isKey_110 (by decide) (fun c_110 => ?_) (fun c_110 => ?_)
                  · skip
                    exact absurd c_110 (by decide)
                  · skip
                    refine lv_iconst (v := 0) hx hb dL_isKey_113 (by decide) ?_
                    refine lv_goto (tgt := 126) hx hb dL_isKey_114 (by decide) ?_
                    refine lv_iadd hx hb dL_isKey_126 ?_
                    refine lv_istore (lv' := [(9, .int (x9 + 0)), (16, .int x2), (15, .int (-99000000)), (14, .int (nI k)), (13, .int x13), (12, .int x12), (11, .int x11), (10, .int x10), (8, .int x8), (7, .int (-99000000)), (6, .int (nI f)), (5, .int (nI m)), (4, .int (nI p)), (3, .int (nI c)), (2, .ref cb), (1, .ref pb), (0, .ref (a 0))]) hx hb dL_isKey_127 hl (by decide) rfl (fun ls hl => ?_)
                    refine lv_iload hx hb dL_isKey_129 (lv_at hl 8 rfl) ?_
                    refine lv_iload hx hb dL_isKey_131 (lv_at hl 2 rfl) ?_
                    refine lv_ldc (v := (-99000000)) hx hb hown w_0 dL_isKey_133 ?_
                    refine lv_icmp_ne (tgt := 142) hx hb dL_isKey_135 (by decide) (fun c_135 => ?_) (fun c_135 => ?_)
                    · skip
                      exact absurd c_135 (by decide)
                    · skip
                      refine lv_iconst (v := 0) hx hb dL_isKey_138 (by decide) ?_
                      refine lv_goto (tgt := 155) hx hb dL_isKey_139 (by decide) ?_
                      refine lv_iadd hx hb dL_isKey_155 ?_
                      refine lv_istore (lv' := [(8, .int (x8 + 0)), (9, .int (x9 + 0)), (16, .int x2), (15, .int (-99000000)), (14, .int (nI k)), (13, .int x13), (12, .int x12), (11, .int x11), (10, .int x10), (7, .int (-99000000)), (6, .int (nI f)), (5, .int (nI m)), (4, .int (nI p)), (3, .int (nI c)), (2, .ref cb), (1, .ref pb), (0, .ref (a 0))]) hx hb dL_isKey_156 hl (by decide) rfl (fun ls hl => ?_)
                      refine lv_iload hx hb dL_isKey_158 (lv_at hl 8 rfl) ?_
                      refine lv_iload hx hb dL_isKey_160 (lv_at hl 3 rfl) ?_
                      refine lv_ldc (v := (-99000000)) hx hb hown w_0 dL_isKey_162 ?_
                      refine lv_icmp_ne (tgt := 171) hx hb dL_isKey_164 (by decide) (fun c_164 => ?_) (fun c_164 => ?_)
                      · skip
                        exact absurd c_164 (by decide)
                      · skip
                        refine lv_iconst (v := 0) hx hb dL_isKey_167 (by decide) ?_
                        refine lv_goto (tgt := 172) hx hb dL_isKey_168 (by decide) ?_
                        refine lv_iadd hx hb dL_isKey_172 ?_
                        refine lv_istore (lv' := [(10, .int (x10 + 0)), (8, .int (x8 + 0)), (9, .int (x9 + 0)), (16, .int x2), (15, .int (-99000000)), (14, .int (nI k)), (13, .int x13), (12, .int x12), (11, .int x11), (7, .int (-99000000)), (6, .int (nI f)), (5, .int (nI m)), (4, .int (nI p)), (3, .int (nI c)), (2, .ref cb), (1, .ref pb), (0, .ref (a 0))]) hx hb dL_isKey_173 hl (by decide) rfl (fun ls hl => ?_)
                        refine lv_iload hx hb dL_isKey_175 (lv_at hl 8 rfl) ?_
                        refine lv_iload hx hb dL_isKey_177 (lv_at hl 3 rfl) ?_
                        refine lv_ldc (v := (-99000000)) hx hb hown w_0 dL_isKey_179 ?_
                        refine lv_icmp_ne (tgt := 188) hx hb dL_isKey_181 (by decide) (fun c_181 => ?_) (fun c_181 => ?_)
                        · skip
                          refine lv_aload_n hx hb dL_isKey_188 rfl (lv_at hl 15 rfl) ?_
                          refine lv_iload hx hb dL_isKey_189 (lv_at hl 5 rfl) ?_
                          refine g_csi (va_runS (As := [.ref pb, .int (nI k)]) (rest := [.int x11]) ⟨hx, hb, hml, hown, hts⟩ (kL_weight l D cI cZ cO cL dt A a FA nC nR nL nF par wt sk fk hd ur_16.1 ur_16.2 ck cf cd cv nx pb rb cb pv rv kv L k c hpk hC12 hkF (by omega) c_72) (va_cwS 2 hts gL_isKey_L_weight rfl rfl rfl (by decide +kernel) ⟨(Nat.le_of_ble_eq_true rfl), (Nat.le_of_ble_eq_true rfl)⟩) (gP.s (hg.on hS) hP) rfl rfl hl.1 rfl (lv_room (Nat.le_of_ble_eq_true rfl)) dL_isKey_191 ⟨by show 12 * k + 12 + 0 ≤ 170; omega, by show 72 * k + 72 + 0 ≤ 1020; omega⟩) (fun r_17 hr_17 => ?_)
                          obtain rfl : r_17 = wt k := hr_17
                          refine lv_iload hx hb dL_isKey_194 (lv_at hl 3 rfl) ?_
                          refine lv_imul hx hb dL_isKey_196 ?_
                          refine lv_iadd hx hb dL_isKey_197 ?_
                          refine lv_istore (lv' := [(11, .int (x11 + ((wt k) * x2))), (10, .int (x10 + 0)), (8, .int (x8 + 0)), (9, .int (x9 + 0)), (16, .int x2), (15, .int (-99000000)), (14, .int (nI k)), (13, .int x13), (12, .int x12), (7, .int (-99000000)), (6, .int (nI f)), (5, .int (nI m)), (4, .int (nI p)), (3, .int (nI c)), (2, .ref cb), (1, .ref pb), (0, .ref (a 0))]) hx hb dL_isKey_198 hl (by decide) rfl (fun ls hl => ?_)
                          refine lv_iload hx hb dL_isKey_200 (lv_at hl 8 rfl) ?_
                          refine lv_iload hx hb dL_isKey_202 (lv_at hl 4 rfl) ?_
                          refine lv_ldc (v := (-99000000)) hx hb hown w_0 dL_isKey_204 ?_
                          refine lv_icmp_ne (tgt := 213) hx hb dL_isKey_206 (by decide) (fun c_206 => ?_) (fun c_206 => ?_)
                          · skip
                            refine lv_iconst (v := 1) hx hb dL_isKey_213 (by decide) ?_
                            refine lv_iadd hx hb dL_isKey_214 ?_
                            refine lv_istore (lv' := [(12, .int (x12 + 1)), (11, .int (x11 + ((wt k) * x2))), (10, .int (x10 + 0)), (8, .int (x8 + 0)), (9, .int (x9 + 0)), (16, .int x2), (15, .int (-99000000)), (14, .int (nI k)), (13, .int x13), (7, .int (-99000000)), (6, .int (nI f)), (5, .int (nI m)), (4, .int (nI p)), (3, .int (nI c)), (2, .ref cb), (1, .ref pb), (0, .ref (a 0))]) hx hb dL_isKey_215 hl (by decide) rfl (fun ls hl => ?_)
                            refine lv_iinc (v := x13 + 1) (lv' := [(13, .int (x13 + 1)), (12, .int (x12 + 1)), (11, .int (x11 + ((wt k) * x2))), (10, .int (x10 + 0)), (8, .int (x8 + 0)), (9, .int (x9 + 0)), (16, .int x2), (15, .int (-99000000)), (14, .int (nI k)), (7, .int (-99000000)), (6, .int (nI f)), (5, .int (nI m)), (4, .int (nI p)), (3, .int (nI c)), (2, .ref cb), (1, .ref pb), (0, .ref (a 0))]) hx hb dL_isKey_217 hl (k := 8) rfl (rfl) (by decide) rfl (fun ls hl => ?_)
                            refine lv_iinc (v := nI (k + 1)) (lv' := [(14, .int (nI (k + 1))), (13, .int (x13 + 1)), (12, .int (x12 + 1)), (11, .int (x11 + ((wt k) * x2))), (10, .int (x10 + 0)), (8, .int (x8 + 0)), (9, .int (x9 + 0)), (16, .int x2), (15, .int (-99000000)), (7, .int (-99000000)), (6, .int (nI f)), (5, .int (nI m)), (4, .int (nI p)), (3, .int (nI c)), (2, .ref cb), (1, .ref pb), (0, .ref (a 0))]) hx hb dL_isKey_220 hl (k := 8) rfl (nI_1 k) (by decide) rfl (fun ls hl => ?_)
                            refine lv_goto (tgt := 57) hx hb dL_isKey_223 (by decide) ?_
                            refine W.widen (k := 12 * (k + 1) + 4) (n := 72 * (k + 1) + 24) (by omega) (by omega) ?_
                            exact ih_lp (k + 1) ur_16.1 ur_16.2 (x8 + 0) (x9 + 0) (x10 + 0) (x11 + ((wt k) * x2)) (x12 + 1) (x13 + 1) _ _ (by omega) (by omega) (by rw [dn_none (h := (fun k => hC ck cf cd nF (nI (k * 40 + p * 4 + m)) (nI f))) hOj2, e8]; exact Int32.add_zero _) (by rw [sn_none (h := (fun k => hC ck cf cd nF (nI (k * 40 + p * 4 + m)) (nI f))) hOj2, e9]; exact Int32.add_zero _) (by rw [cn_none (h := (fun k => hC ck cf cd nF (nI (k * 40 + p * 4 + m)) (nI f))) hOj2, e10]; exact Int32.add_zero _) (by rw [gS_some c_72 hD2, e11]) (by rw [gG_some c_72 hD2, e12]; exact nI_1 _) (by rw [gC_yes c_72, e13]; exact nI_1 _) hP hD hS _ (lv_sub hl [0, 1, 2, 3, 4, 6, 5, 9, 10, 11, 12, 13, 14, 15, 16] rfl)
                          · skip
                            exact absurd c_206 (dV_ne hT hC12 hkF hwt hcv hD2)
                        · skip
                          exact absurd c_181 (dV_ne hT hC12 hkF hwt hcv hD2)
              · skip
                obtain rfl : r_15 = cv j2 := hr_15.trans (congrArg (hv cv) hOj2)
                refine lv_istore (lv' := [(15, .int (cv j2)), (14, .int (nI k)), (13, .int x13), (12, .int x12), (11, .int x11), (10, .int x10), (9, .int x9), (8, .int x8), (7, .int (-99000000)), (6, .int (nI f)), (5, .int (nI m)), (4, .int (nI p)), (3, .int (nI c)), (2, .ref cb), (1, .ref pb), (0, .ref (a 0))]) hx hb dL_isKey_88 hl (by decide) rfl (fun ls hl => ?_)
                refine lv_aload_n hx hb dL_isKey_90 rfl (lv_at hl 15 rfl) ?_
                refine lv_iload hx hb dL_isKey_91 (lv_at hl 1 rfl) ?_
                refine lv_iload hx hb dL_isKey_93 (lv_at hl 11 rfl) ?_
                refine lv_iload hx hb dL_isKey_95 (lv_at hl 10 rfl) ?_
                refine lv_iload hx hb dL_isKey_97 (lv_at hl 9 rfl) ?_
                refine va_calli (vx_runSW (hh := [(0, 9, 10, 19)]) (As := [.ref (a 0), .int (nI k), .int (nI p), .int (nI m), .int (nI f)]) (rest := []) ⟨hx, hb, hml, hown, hts⟩ (kL_derived l D cI cZ cO cL dt A a FA nC nR nL nF par wt sk fk hd r9 s9 ck cf cd cv nx pb rb cb pv rv kv L k p m f hlt hOk (by omega) hp hm hf) (vx_cwSW 5 hts gL_isKey_L_derived rfl rfl rfl (by decide +kernel) ⟨(Nat.le_of_ble_eq_true rfl), (Nat.le_of_ble_eq_true rfl)⟩) (gP.s (hg.on hS) (⟨hP, hD⟩)) rfl rfl hl.1 rfl (lv_room (Nat.le_of_ble_eq_true rfl)) dL_isKey_99 ⟨by show 12 * k + 8 + 4 ≤ 170; omega, by show 72 * k + 48 + 24 ≤ 1020; omega⟩) hS (fun q _ h => h) (fun q h => h) (fun r_18 ur_18 tr_18 H locs htr_18 hvmr_18 hr_18 hB hzr_18 hkr_18 hS => ?_)
                rw [htr_18] at hB
                obtain ⟨hP, hD⟩ := hB
                refine W.widen (k := 12 * k + 12) (n := 72 * k + 72) (by omega) (by omega) ?_
                have hP : va_P D vwCl (WD cI cO a FA nC nR nL nF par wt (fun r => nI (sk r)) (fun r => nI (fk r)) hd ur_18.1 ur_18.2 ++ (WF FA ck cf cd cv nx nF ++ (LR cI pb rb cb pv rv kv))) H := hP
                have hD : va_D A (WD cI cO a FA nC nR nL nF par wt (fun r => nI (sk r)) (fun r => nI (fk r)) hd ur_18.1 ur_18.2 ++ (WF FA ck cf cd cv nx nF ++ (LR cI pb rb cb pv rv kv))) := hD
                obtain ⟨o_r_18, hD2⟩ : ∃ z, (dV nC par wt (fun k => hC ck cf cd nF (nI (k * 40 + p * 4 + m)) (nI f)) cv) k = z := ⟨_, rfl⟩
                rcases o_r_18 with _ | x2
                · skip
                  obtain rfl : r_18 = (-99000000) := hr_18.trans (congrArg dvI hD2)
                  refine lv_istore (lv' := [(16, .int (-99000000)), (15, .int (cv j2)), (14, .int (nI k)), (13, .int x13), (12, .int x12), (11, .int x11), (10, .int x10), (9, .int x9), (8, .int x8), (7, .int (-99000000)), (6, .int (nI f)), (5, .int (nI m)), (4, .int (nI p)), (3, .int (nI c)), (2, .ref cb), (1, .ref pb), (0, .ref (a 0))]) hx hb dL_isKey_102 hl (by decide) rfl (fun ls hl => ?_)
                  refine lv_iload hx hb dL_isKey_104 (lv_at hl 7 rfl) ?_
                  refine lv_iload hx hb dL_isKey_106 (lv_at hl 1 rfl) ?_
                  refine lv_ldc (v := (-99000000)) hx hb hown w_0 dL_isKey_108 ?_
                  refine lv_icmp_ne (tgt := 117) hx hb dL_isKey_110 (by decide) (fun c_110 => ?_) (fun c_110 => ?_)
                  · skip
                    refine lv_aload_n hx hb dL_isKey_117 rfl (lv_at hl 15 rfl) ?_
                    refine lv_iload hx hb dL_isKey_118 (lv_at hl 2 rfl) ?_
                    refine g_csi (va_runS (As := [.ref pb, .int (nI k)]) (rest := [.int x9]) ⟨hx, hb, hml, hown, hts⟩ (kL_weight l D cI cZ cO cL dt A a FA nC nR nL nF par wt sk fk hd ur_18.1 ur_18.2 ck cf cd cv nx pb rb cb pv rv kv L k c hpk hC12 hkF (by omega) c_72) (va_cwS 2 hts gL_isKey_L_weight rfl rfl rfl (by decide +kernel) ⟨(Nat.le_of_ble_eq_true rfl), (Nat.le_of_ble_eq_true rfl)⟩) (gP.s (hg.on hS) hP) rfl rfl hl.1 rfl (lv_room (Nat.le_of_ble_eq_true rfl)) dL_isKey_120 ⟨by show 12 * k + 12 + 0 ≤ 170; omega, by show 72 * k + 72 + 0 ≤ 1020; omega⟩) (fun r_19 hr_19 => ?_)
                    obtain rfl : r_19 = wt k := hr_19
                    refine lv_iload hx hb dL_isKey_123 (lv_at hl 1 rfl) ?_
                    refine lv_imul hx hb dL_isKey_125 ?_
                    refine lv_iadd hx hb dL_isKey_126 ?_
                    refine lv_istore (lv' := [(9, .int (x9 + ((wt k) * (cv j2)))), (16, .int (-99000000)), (15, .int (cv j2)), (14, .int (nI k)), (13, .int x13), (12, .int x12), (11, .int x11), (10, .int x10), (8, .int x8), (7, .int (-99000000)), (6, .int (nI f)), (5, .int (nI m)), (4, .int (nI p)), (3, .int (nI c)), (2, .ref cb), (1, .ref pb), (0, .ref (a 0))]) hx hb dL_isKey_127 hl (by decide) rfl (fun ls hl => ?_)
                    refine lv_iload hx hb dL_isKey_129 (lv_at hl 8 rfl) ?_
                    refine lv_iload hx hb dL_isKey_131 (lv_at hl 2 rfl) ?_
                    refine lv_ldc (v := (-99000000)) hx hb hown w_0 dL_isKey_133 ?_
                    refine lv_icmp_ne (tgt := 142) hx hb dL_isKey_135 (by decide) (fun c_135 => ?_) (fun c_135 => ?_)
                    · skip
                      refine lv_aload_n hx hb dL_isKey_142 rfl (lv_at hl 16 rfl) ?_
                      refine lv_iconst (v := 1) hx hb dL_isKey_143 (by decide) ?_
                      refine lv_iload hx hb dL_isKey_144 (lv_at hl 3 rfl) ?_
                      refine lv_iload hx hb dL_isKey_146 (lv_at hl 12 rfl) ?_
                      refine lv_iload hx hb dL_isKey_148 (lv_at hl 11 rfl) ?_
                      refine lv_iload hx hb dL_isKey_150 (lv_at hl 10 rfl) ?_
                      refine va_calli (vx_runSW (hh := [(0, 27, 28, 19)]) (As := [.ref (a 0), .int 1, .int (nI k), .int (nI p), .int (nI m), .int (nI f)]) (rest := [.int x8]) ⟨hx, hb, hml, hown, hts⟩ (kL_heldD l D cI cZ cO cL dt A a FA nC nR nL nF par wt sk fk hd ur_18.1 ur_18.2 ck cf cd cv nx pb rb cb pv rv kv L k p m f hlt hOk (by omega) (by omega) (by omega) (by omega)) (vx_cwSW 6 hts gL_isKey_L_held rfl rfl rfl (by decide +kernel) ⟨(Nat.le_of_ble_eq_true rfl), (Nat.le_of_ble_eq_true rfl)⟩) (gP.s (hg.on hS) (⟨hP, hD⟩)) rfl rfl hl.1 rfl (lv_room (Nat.le_of_ble_eq_true rfl)) dL_isKey_152 ⟨by show 12 * k + 12 + 4 ≤ 170; omega, by show 72 * k + 72 + 24 ≤ 1020; omega⟩) hS (fun q _ h => h) (fun q h => h) (fun r_20 ur_20 tr_20 H locs htr_20 hvmr_20 hr_20 hB hzr_20 hkr_20 hS => ?_)
                      rw [htr_20] at hB
                      obtain ⟨hP, hD⟩ := hB
                      refine W.widen (k := 12 * k + 16) (n := 72 * k + 96) (by omega) (by omega) ?_
                      have hP : va_P D vwCl (WD cI cO a FA nC nR nL nF par wt (fun r => nI (sk r)) (fun r => nI (fk r)) hd ur_18.1 ur_18.2 ++ (WF FA ck cf cd cv nx nF ++ (LR cI pb rb cb pv rv kv))) H := hP
                      have hD : va_D A (WD cI cO a FA nC nR nL nF par wt (fun r => nI (sk r)) (fun r => nI (fk r)) hd ur_18.1 ur_18.2 ++ (WF FA ck cf cd cv nx nF ++ (LR cI pb rb cb pv rv kv))) := hD
                      obtain rfl : r_20 = nI (10 ^ cd j2) := hr_20.trans (by rw [hOj2]; rfl)
                      refine lv_iadd hx hb dL_isKey_155 ?_
                      refine lv_istore (lv' := [(8, .int (x8 + (nI (10 ^ cd j2)))), (9, .int (x9 + ((wt k) * (cv j2)))), (16, .int (-99000000)), (15, .int (cv j2)), (14, .int (nI k)), (13, .int x13), (12, .int x12), (11, .int x11), (10, .int x10), (7, .int (-99000000)), (6, .int (nI f)), (5, .int (nI m)), (4, .int (nI p)), (3, .int (nI c)), (2, .ref cb), (1, .ref pb), (0, .ref (a 0))]) hx hb dL_isKey_156 hl (by decide) rfl (fun ls hl => ?_)
                      refine lv_iload hx hb dL_isKey_158 (lv_at hl 8 rfl) ?_
                      refine lv_iload hx hb dL_isKey_160 (lv_at hl 3 rfl) ?_
                      refine lv_ldc (v := (-99000000)) hx hb hown w_0 dL_isKey_162 ?_
                      refine lv_icmp_ne (tgt := 171) hx hb dL_isKey_164 (by decide) (fun c_164 => ?_) (fun c_164 => ?_)
                      · skip
                        refine lv_iconst (v := 1) hx hb dL_isKey_171 (by decide) ?_
                        refine lv_iadd hx hb dL_isKey_172 ?_
                        refine lv_istore (lv' := [(10, .int (x10 + 1)), (8, .int (x8 + (nI (10 ^ cd j2)))), (9, .int (x9 + ((wt k) * (cv j2)))), (16, .int (-99000000)), (15, .int (cv j2)), (14, .int (nI k)), (13, .int x13), (12, .int x12), (11, .int x11), (7, .int (-99000000)), (6, .int (nI f)), (5, .int (nI m)), (4, .int (nI p)), (3, .int (nI c)), (2, .ref cb), (1, .ref pb), (0, .ref (a 0))]) hx hb dL_isKey_173 hl (by decide) rfl (fun ls hl => ?_)
                        refine lv_iload hx hb dL_isKey_175 (lv_at hl 8 rfl) ?_
                        refine lv_iload hx hb dL_isKey_177 (lv_at hl 3 rfl) ?_
                        refine lv_ldc (v := (-99000000)) hx hb hown w_0 dL_isKey_179 ?_
                        refine lv_icmp_ne (tgt := 188) hx hb dL_isKey_181 (by decide) (fun c_181 => ?_) (fun c_181 => ?_)
                        · skip
                          exact absurd c_181 (by decide)
                        · skip
                          refine lv_iconst (v := 0) hx hb dL_isKey_184 (by decide) ?_
                          refine lv_goto (tgt := 197) hx hb dL_isKey_185 (by decide) ?_
                          refine lv_iadd hx hb dL_isKey_197 ?_
                          refine lv_istore (lv' := [(11, .int (x11 + 0)), (10, .int (x10 + 1)), (8, .int (x8 + (nI (10 ^ cd j2)))), (9, .int (x9 + ((wt k) * (cv j2)))), (16, .int (-99000000)), (15, .int (cv j2)), (14, .int (nI k)), (13, .int x13), (12, .int x12), (7, .int (-99000000)), (6, .int (nI f)), (5, .int (nI m)), (4, .int (nI p)), (3, .int (nI c)), (2, .ref cb), (1, .ref pb), (0, .ref (a 0))]) hx hb dL_isKey_198 hl (by decide) rfl (fun ls hl => ?_)
                          refine lv_iload hx hb dL_isKey_200 (lv_at hl 8 rfl) ?_
                          refine lv_iload hx hb dL_isKey_202 (lv_at hl 4 rfl) ?_
                          refine lv_ldc (v := (-99000000)) hx hb hown w_0 dL_isKey_204 ?_
                          refine lv_icmp_ne (tgt := 213) hx hb dL_isKey_206 (by decide) (fun c_206 => ?_) (fun c_206 => ?_)
                          · skip
                            exact absurd c_206 (by decide)
                          · skip
                            refine lv_iconst (v := 0) hx hb dL_isKey_209 (by decide) ?_
                            refine lv_goto (tgt := 214) hx hb dL_isKey_210 (by decide) ?_
                            refine lv_iadd hx hb dL_isKey_214 ?_
                            refine lv_istore (lv' := [(12, .int (x12 + 0)), (11, .int (x11 + 0)), (10, .int (x10 + 1)), (8, .int (x8 + (nI (10 ^ cd j2)))), (9, .int (x9 + ((wt k) * (cv j2)))), (16, .int (-99000000)), (15, .int (cv j2)), (14, .int (nI k)), (13, .int x13), (7, .int (-99000000)), (6, .int (nI f)), (5, .int (nI m)), (4, .int (nI p)), (3, .int (nI c)), (2, .ref cb), (1, .ref pb), (0, .ref (a 0))]) hx hb dL_isKey_215 hl (by decide) rfl (fun ls hl => ?_)
                            refine lv_iinc (v := x13 + 1) (lv' := [(13, .int (x13 + 1)), (12, .int (x12 + 0)), (11, .int (x11 + 0)), (10, .int (x10 + 1)), (8, .int (x8 + (nI (10 ^ cd j2)))), (9, .int (x9 + ((wt k) * (cv j2)))), (16, .int (-99000000)), (15, .int (cv j2)), (14, .int (nI k)), (7, .int (-99000000)), (6, .int (nI f)), (5, .int (nI m)), (4, .int (nI p)), (3, .int (nI c)), (2, .ref cb), (1, .ref pb), (0, .ref (a 0))]) hx hb dL_isKey_217 hl (k := 8) rfl (rfl) (by decide) rfl (fun ls hl => ?_)
                            refine lv_iinc (v := nI (k + 1)) (lv' := [(14, .int (nI (k + 1))), (13, .int (x13 + 1)), (12, .int (x12 + 0)), (11, .int (x11 + 0)), (10, .int (x10 + 1)), (8, .int (x8 + (nI (10 ^ cd j2)))), (9, .int (x9 + ((wt k) * (cv j2)))), (16, .int (-99000000)), (15, .int (cv j2)), (7, .int (-99000000)), (6, .int (nI f)), (5, .int (nI m)), (4, .int (nI p)), (3, .int (nI c)), (2, .ref cb), (1, .ref pb), (0, .ref (a 0))]) hx hb dL_isKey_220 hl (k := 8) rfl (nI_1 k) (by decide) rfl (fun ls hl => ?_)
                            refine lv_goto (tgt := 57) hx hb dL_isKey_223 (by decide) ?_
                            refine W.widen (k := 12 * (k + 1) + 4) (n := 72 * (k + 1) + 24) (by omega) (by omega) ?_
                            exact ih_lp (k + 1) ur_18.1 ur_18.2 (x8 + (nI (10 ^ cd j2))) (x9 + ((wt k) * (cv j2))) (x10 + 1) (x11 + 0) (x12 + 0) (x13 + 1) _ _ (by omega) (by omega) (by rw [dn_some (h := (fun k => hC ck cf cd nF (nI (k * 40 + p * 4 + m)) (nI f))) c_72 hOj2, e8]; exact Int32.add_assoc _ _ _) (by rw [sn_some (h := (fun k => hC ck cf cd nF (nI (k * 40 + p * 4 + m)) (nI f))) c_72 hOj2, e9]) (by rw [cn_some (h := (fun k => hC ck cf cd nF (nI (k * 40 + p * 4 + m)) (nI f))) c_72 hOj2, e10]; exact nI_1 _) (by rw [gS_none hD2, e11]; exact Int32.add_zero _) (by rw [gG_none hD2, e12]; exact Int32.add_zero _) (by rw [gC_yes c_72, e13]; exact nI_1 _) hP hD hS _ (lv_sub hl [0, 1, 2, 3, 4, 6, 5, 9, 10, 11, 12, 13, 14, 15, 16] rfl)
                      · skip
                        exact absurd c_164 (hcv j2).ne
                    · skip
                      exact absurd c_135 (hcv j2).ne
                  · skip
                    exact absurd c_110 (hcv j2).ne
                · skip
                  obtain rfl : x2 = r_18 := (hr_18.trans (congrArg dvI hD2)).symm
                  refine lv_istore (lv' := [(16, .int x2), (15, .int (cv j2)), (14, .int (nI k)), (13, .int x13), (12, .int x12), (11, .int x11), (10, .int x10), (9, .int x9), (8, .int x8), (7, .int (-99000000)), (6, .int (nI f)), (5, .int (nI m)), (4, .int (nI p)), (3, .int (nI c)), (2, .ref cb), (1, .ref pb), (0, .ref (a 0))]) hx hb dL_isKey_102 hl (by decide) rfl (fun ls hl => ?_)
                  refine lv_iload hx hb dL_isKey_104 (lv_at hl 7 rfl) ?_
                  refine lv_iload hx hb dL_isKey_106 (lv_at hl 1 rfl) ?_
                  refine lv_ldc (v := (-99000000)) hx hb hown w_0 dL_isKey_108 ?_
                  refine lv_icmp_ne (tgt := 117) hx hb dL_isKey_110 (by decide) (fun c_110 => ?_) (fun c_110 => ?_)
                  · skip
                    refine lv_aload_n hx hb dL_isKey_117 rfl (lv_at hl 15 rfl) ?_
                    refine lv_iload hx hb dL_isKey_118 (lv_at hl 2 rfl) ?_
                    refine g_csi (va_runS (As := [.ref pb, .int (nI k)]) (rest := [.int x9]) ⟨hx, hb, hml, hown, hts⟩ (kL_weight l D cI cZ cO cL dt A a FA nC nR nL nF par wt sk fk hd ur_18.1 ur_18.2 ck cf cd cv nx pb rb cb pv rv kv L k c hpk hC12 hkF (by omega) c_72) (va_cwS 2 hts gL_isKey_L_weight rfl rfl rfl (by decide +kernel) ⟨(Nat.le_of_ble_eq_true rfl), (Nat.le_of_ble_eq_true rfl)⟩) (gP.s (hg.on hS) hP) rfl rfl hl.1 rfl (lv_room (Nat.le_of_ble_eq_true rfl)) dL_isKey_120 ⟨by show 12 * k + 12 + 0 ≤ 170; omega, by show 72 * k + 72 + 0 ≤ 1020; omega⟩) (fun r_21 hr_21 => ?_)
                    obtain rfl : r_21 = wt k := hr_21
                    refine lv_iload hx hb dL_isKey_123 (lv_at hl 1 rfl) ?_
                    refine lv_imul hx hb dL_isKey_125 ?_
                    refine lv_iadd hx hb dL_isKey_126 ?_
                    refine lv_istore (lv' := [(9, .int (x9 + ((wt k) * (cv j2)))), (16, .int x2), (15, .int (cv j2)), (14, .int (nI k)), (13, .int x13), (12, .int x12), (11, .int x11), (10, .int x10), (8, .int x8), (7, .int (-99000000)), (6, .int (nI f)), (5, .int (nI m)), (4, .int (nI p)), (3, .int (nI c)), (2, .ref cb), (1, .ref pb), (0, .ref (a 0))]) hx hb dL_isKey_127 hl (by decide) rfl (fun ls hl => ?_)
                    refine lv_iload hx hb dL_isKey_129 (lv_at hl 8 rfl) ?_
                    refine lv_iload hx hb dL_isKey_131 (lv_at hl 2 rfl) ?_
                    refine lv_ldc (v := (-99000000)) hx hb hown w_0 dL_isKey_133 ?_
                    refine lv_icmp_ne (tgt := 142) hx hb dL_isKey_135 (by decide) (fun c_135 => ?_) (fun c_135 => ?_)
                    · skip
                      refine lv_aload_n hx hb dL_isKey_142 rfl (lv_at hl 16 rfl) ?_
                      refine lv_iconst (v := 1) hx hb dL_isKey_143 (by decide) ?_
                      refine lv_iload hx hb dL_isKey_144 (lv_at hl 3 rfl) ?_
                      refine lv_iload hx hb dL_isKey_146 (lv_at hl 12 rfl) ?_
                      refine lv_iload hx hb dL_isKey_148 (lv_at hl 11 rfl) ?_
                      refine lv_iload hx hb dL_isKey_150 (lv_at hl 10 rfl) ?_
                      refine va_calli (vx_runSW (hh := [(0, 27, 28, 19)]) (As := [.ref (a 0), .int 1, .int (nI k), .int (nI p), .int (nI m), .int (nI f)]) (rest := [.int x8]) ⟨hx, hb, hml, hown, hts⟩ (kL_heldD l D cI cZ cO cL dt A a FA nC nR nL nF par wt sk fk hd ur_18.1 ur_18.2 ck cf cd cv nx pb rb cb pv rv kv L k p m f hlt hOk (by omega) (by omega) (by omega) (by omega)) (vx_cwSW 6 hts gL_isKey_L_held rfl rfl rfl (by decide +kernel) ⟨(Nat.le_of_ble_eq_true rfl), (Nat.le_of_ble_eq_true rfl)⟩) (gP.s (hg.on hS) (⟨hP, hD⟩)) rfl rfl hl.1 rfl (lv_room (Nat.le_of_ble_eq_true rfl)) dL_isKey_152 ⟨by show 12 * k + 12 + 4 ≤ 170; omega, by show 72 * k + 72 + 24 ≤ 1020; omega⟩) hS (fun q _ h => h) (fun q h => h) (fun r_22 ur_22 tr_22 H locs htr_22 hvmr_22 hr_22 hB hzr_22 hkr_22 hS => ?_)
                      rw [htr_22] at hB
                      obtain ⟨hP, hD⟩ := hB
                      refine W.widen (k := 12 * k + 16) (n := 72 * k + 96) (by omega) (by omega) ?_
                      have hP : va_P D vwCl (WD cI cO a FA nC nR nL nF par wt (fun r => nI (sk r)) (fun r => nI (fk r)) hd ur_18.1 ur_18.2 ++ (WF FA ck cf cd cv nx nF ++ (LR cI pb rb cb pv rv kv))) H := hP
                      have hD : va_D A (WD cI cO a FA nC nR nL nF par wt (fun r => nI (sk r)) (fun r => nI (fk r)) hd ur_18.1 ur_18.2 ++ (WF FA ck cf cd cv nx nF ++ (LR cI pb rb cb pv rv kv))) := hD
                      obtain rfl : r_22 = nI (10 ^ cd j2) := hr_22.trans (by rw [hOj2]; rfl)
                      refine lv_iadd hx hb dL_isKey_155 ?_
                      refine lv_istore (lv' := [(8, .int (x8 + (nI (10 ^ cd j2)))), (9, .int (x9 + ((wt k) * (cv j2)))), (16, .int x2), (15, .int (cv j2)), (14, .int (nI k)), (13, .int x13), (12, .int x12), (11, .int x11), (10, .int x10), (7, .int (-99000000)), (6, .int (nI f)), (5, .int (nI m)), (4, .int (nI p)), (3, .int (nI c)), (2, .ref cb), (1, .ref pb), (0, .ref (a 0))]) hx hb dL_isKey_156 hl (by decide) rfl (fun ls hl => ?_)
                      refine lv_iload hx hb dL_isKey_158 (lv_at hl 8 rfl) ?_
                      refine lv_iload hx hb dL_isKey_160 (lv_at hl 3 rfl) ?_
                      refine lv_ldc (v := (-99000000)) hx hb hown w_0 dL_isKey_162 ?_
                      refine lv_icmp_ne (tgt := 171) hx hb dL_isKey_164 (by decide) (fun c_164 => ?_) (fun c_164 => ?_)
                      · skip
                        refine lv_iconst (v := 1) hx hb dL_isKey_171 (by decide) ?_
                        refine lv_iadd hx hb dL_isKey_172 ?_
                        refine lv_istore (lv' := [(10, .int (x10 + 1)), (8, .int (x8 + (nI (10 ^ cd j2)))), (9, .int (x9 + ((wt k) * (cv j2)))), (16, .int x2), (15, .int (cv j2)), (14, .int (nI k)), (13, .int x13), (12, .int x12), (11, .int x11), (7, .int (-99000000)), (6, .int (nI f)), (5, .int (nI m)), (4, .int (nI p)), (3, .int (nI c)), (2, .ref cb), (1, .ref pb), (0, .ref (a 0))]) hx hb dL_isKey_173 hl (by decide) rfl (fun ls hl => ?_)
                        refine lv_iload hx hb dL_isKey_175 (lv_at hl 8 rfl) ?_
                        refine lv_iload hx hb dL_isKey_177 (lv_at hl 3 rfl) ?_
                        refine lv_ldc (v := (-99000000)) hx hb hown w_0 dL_isKey_179 ?_
                        refine lv_icmp_ne (tgt := 188) hx hb dL_isKey_181 (by decide) (fun c_181 => ?_) (fun c_181 => ?_)
                        · skip
                          refine lv_aload_n hx hb dL_isKey_188 rfl (lv_at hl 15 rfl) ?_
                          refine lv_iload hx hb dL_isKey_189 (lv_at hl 5 rfl) ?_
                          refine g_csi (va_runS (As := [.ref pb, .int (nI k)]) (rest := [.int x11]) ⟨hx, hb, hml, hown, hts⟩ (kL_weight l D cI cZ cO cL dt A a FA nC nR nL nF par wt sk fk hd ur_18.1 ur_18.2 ck cf cd cv nx pb rb cb pv rv kv L k c hpk hC12 hkF (by omega) c_72) (va_cwS 2 hts gL_isKey_L_weight rfl rfl rfl (by decide +kernel) ⟨(Nat.le_of_ble_eq_true rfl), (Nat.le_of_ble_eq_true rfl)⟩) (gP.s (hg.on hS) hP) rfl rfl hl.1 rfl (lv_room (Nat.le_of_ble_eq_true rfl)) dL_isKey_191 ⟨by show 12 * k + 16 + 0 ≤ 170; omega, by show 72 * k + 96 + 0 ≤ 1020; omega⟩) (fun r_23 hr_23 => ?_)
                          obtain rfl : r_23 = wt k := hr_23
                          refine lv_iload hx hb dL_isKey_194 (lv_at hl 3 rfl) ?_
                          refine lv_imul hx hb dL_isKey_196 ?_
                          refine lv_iadd hx hb dL_isKey_197 ?_
                          refine lv_istore (lv' := [(11, .int (x11 + ((wt k) * x2))), (10, .int (x10 + 1)), (8, .int (x8 + (nI (10 ^ cd j2)))), (9, .int (x9 + ((wt k) * (cv j2)))), (16, .int x2), (15, .int (cv j2)), (14, .int (nI k)), (13, .int x13), (12, .int x12), (7, .int (-99000000)), (6, .int (nI f)), (5, .int (nI m)), (4, .int (nI p)), (3, .int (nI c)), (2, .ref cb), (1, .ref pb), (0, .ref (a 0))]) hx hb dL_isKey_198 hl (by decide) rfl (fun ls hl => ?_)
                          refine lv_iload hx hb dL_isKey_200 (lv_at hl 8 rfl) ?_
                          refine lv_iload hx hb dL_isKey_202 (lv_at hl 4 rfl) ?_
                          refine lv_ldc (v := (-99000000)) hx hb hown w_0 dL_isKey_204 ?_
                          refine lv_icmp_ne (tgt := 213) hx hb dL_isKey_206 (by decide) (fun c_206 => ?_) (fun c_206 => ?_)
                          · skip
                            refine lv_iconst (v := 1) hx hb dL_isKey_213 (by decide) ?_
                            refine lv_iadd hx hb dL_isKey_214 ?_
                            refine lv_istore (lv' := [(12, .int (x12 + 1)), (11, .int (x11 + ((wt k) * x2))), (10, .int (x10 + 1)), (8, .int (x8 + (nI (10 ^ cd j2)))), (9, .int (x9 + ((wt k) * (cv j2)))), (16, .int x2), (15, .int (cv j2)), (14, .int (nI k)), (13, .int x13), (7, .int (-99000000)), (6, .int (nI f)), (5, .int (nI m)), (4, .int (nI p)), (3, .int (nI c)), (2, .ref cb), (1, .ref pb), (0, .ref (a 0))]) hx hb dL_isKey_215 hl (by decide) rfl (fun ls hl => ?_)
                            refine lv_iinc (v := x13 + 1) (lv' := [(13, .int (x13 + 1)), (12, .int (x12 + 1)), (11, .int (x11 + ((wt k) * x2))), (10, .int (x10 + 1)), (8, .int (x8 + (nI (10 ^ cd j2)))), (9, .int (x9 + ((wt k) * (cv j2)))), (16, .int x2), (15, .int (cv j2)), (14, .int (nI k)), (7, .int (-99000000)), (6, .int (nI f)), (5, .int (nI m)), (4, .int (nI p)), (3, .int (nI c)), (2, .ref cb), (1, .ref pb), (0, .ref (a 0))]) hx hb dL_isKey_217 hl (k := 8) rfl (rfl) (by decide) rfl (fun ls hl => ?_)
                            refine lv_iinc (v := nI (k + 1)) (lv' := [(14, .int (nI (k + 1))), (13, .int (x13 + 1)), (12, .int (x12 + 1)), (11, .int (x11 + ((wt k) * x2))), (10, .int (x10 + 1)), (8, .int (x8 + (nI (10 ^ cd j2)))), (9, .int (x9 + ((wt k) * (cv j2)))), (16, .int x2), (15, .int (cv j2)), (7, .int (-99000000)), (6, .int (nI f)), (5, .int (nI m)), (4, .int (nI p)), (3, .int (nI c)), (2, .ref cb), (1, .ref pb), (0, .ref (a 0))]) hx hb dL_isKey_220 hl (k := 8) rfl (nI_1 k) (by decide) rfl (fun ls hl => ?_)
                            refine lv_goto (tgt := 57) hx hb dL_isKey_223 (by decide) ?_
                            refine W.widen (k := 12 * (k + 1) + 4) (n := 72 * (k + 1) + 24) (by omega) (by omega) ?_
                            exact ih_lp (k + 1) ur_18.1 ur_18.2 (x8 + (nI (10 ^ cd j2))) (x9 + ((wt k) * (cv j2))) (x10 + 1) (x11 + ((wt k) * x2)) (x12 + 1) (x13 + 1) _ _ (by omega) (by omega) (by rw [dn_some (h := (fun k => hC ck cf cd nF (nI (k * 40 + p * 4 + m)) (nI f))) c_72 hOj2, e8]; exact Int32.add_assoc _ _ _) (by rw [sn_some (h := (fun k => hC ck cf cd nF (nI (k * 40 + p * 4 + m)) (nI f))) c_72 hOj2, e9]) (by rw [cn_some (h := (fun k => hC ck cf cd nF (nI (k * 40 + p * 4 + m)) (nI f))) c_72 hOj2, e10]; exact nI_1 _) (by rw [gS_some c_72 hD2, e11]) (by rw [gG_some c_72 hD2, e12]; exact nI_1 _) (by rw [gC_yes c_72, e13]; exact nI_1 _) hP hD hS _ (lv_sub hl [0, 1, 2, 3, 4, 6, 5, 9, 10, 11, 12, 13, 14, 15, 16] rfl)
                          · skip
                            exact absurd c_206 (dV_ne hT hC12 hkF hwt hcv hD2)
                        · skip
                          exact absurd c_181 (dV_ne hT hC12 hkF hwt hcv hD2)
                      · skip
                        exact absurd c_164 (hcv j2).ne
                    · skip
                      exact absurd c_135 (hcv j2).ne
                  · skip
                    exact absurd c_110 (hcv j2).ne
      exact lp (nC + 1) 0 rea sig 0 0 0 0 0 0 _ _ (by omega) (by omega) (Int32.zero_add _).symm rfl rfl rfl rfl rfl hP hD hS _ (lv_sub hl [0, 1, 2, 3, 4, 5, 6, 7, 14, 13, 12, 11, 10, 9, 8] rfl)
  · skip
    obtain rfl : r_1 = cv j1 := hr_1.trans (congrArg (hv cv) hOj1)
    refine lv_istore (lv' := [(7, .int (cv j1)), (0, .ref (a 0)), (1, .ref pb), (2, .ref cb), (3, .int (nI c)), (4, .int (nI p)), (5, .int (nI m)), (6, .int (nI f))]) hx hb dL_isKey_12 hl (by decide) rfl (fun ls hl => ?_)
    refine lv_iload hx hb dL_isKey_14 (lv_at hl 0 rfl) ?_
    refine lv_ldc (v := (-99000000)) hx hb hown w_0 dL_isKey_16 ?_
    refine lv_icmp_ne (tgt := 25) hx hb dL_isKey_18 (by decide) (fun c_18 => ?_) (fun c_18 => ?_)
    · skip
      refine lv_aload_n hx hb dL_isKey_25 rfl (lv_at hl 1 rfl) ?_
      refine lv_iconst (v := 1) hx hb dL_isKey_26 (by decide) ?_
      refine lv_iload_n hx hb dL_isKey_27 rfl (lv_at hl 4 rfl) ?_
      refine lv_iload hx hb dL_isKey_28 (lv_at hl 5 rfl) ?_
      refine lv_iload hx hb dL_isKey_30 (lv_at hl 6 rfl) ?_
      refine lv_iload hx hb dL_isKey_32 (lv_at hl 7 rfl) ?_
      refine va_calli (vx_runSW (hh := [(0, 27, 28, 19)]) (As := [.ref (a 0), .int 1, .int (nI c), .int (nI p), .int (nI m), .int (nI f)]) (rest := []) ⟨hx, hb, hml, hown, hts⟩ (kL_heldD l D cI cZ cO cL dt A a FA nC nR nL nF par wt sk fk hd rea sig ck cf cd cv nx pb rb cb pv rv kv L c p m f hlt hOk (by omega) (by omega) (by omega) (by omega)) (vx_cwSW 6 hts gL_isKey_L_held rfl rfl rfl (by decide +kernel) ⟨(Nat.le_of_ble_eq_true rfl), (Nat.le_of_ble_eq_true rfl)⟩) (gP.s (hg.on hS) (⟨hP, hD⟩)) rfl rfl hl.1 rfl (lv_room (Nat.le_of_ble_eq_true rfl)) dL_isKey_34 ⟨(Nat.le_of_ble_eq_true rfl), (Nat.le_of_ble_eq_true rfl)⟩) hS (fun q _ h => h) (fun q h => h) (fun r_24 ur_24 tr_24 H locs htr_24 hvmr_24 hr_24 hB hzr_24 hkr_24 hS => ?_)
      rw [htr_24] at hB
      obtain ⟨hP, hD⟩ := hB
      refine W.widen (k := 8) (n := 48) (Nat.le_of_ble_eq_true rfl) (Nat.le_of_ble_eq_true rfl) ?_
      have hP : va_P D vwCl (WD cI cO a FA nC nR nL nF par wt (fun r => nI (sk r)) (fun r => nI (fk r)) hd rea sig ++ (WF FA ck cf cd cv nx nF ++ (LR cI pb rb cb pv rv kv))) H := hP
      have hD : va_D A (WD cI cO a FA nC nR nL nF par wt (fun r => nI (sk r)) (fun r => nI (fk r)) hd rea sig ++ (WF FA ck cf cd cv nx nF ++ (LR cI pb rb cb pv rv kv))) := hD
      obtain rfl : r_24 = nI (10 ^ cd j1) := hr_24.trans (by rw [hOj1]; rfl)
      refine lv_istore (lv' := [(8, .int (nI (10 ^ cd j1))), (7, .int (cv j1)), (0, .ref (a 0)), (1, .ref pb), (2, .ref cb), (3, .int (nI c)), (4, .int (nI p)), (5, .int (nI m)), (6, .int (nI f))]) hx hb dL_isKey_37 hl (by decide) rfl (fun ls hl => ?_)
      refine lv_iconst (v := 0) hx hb dL_isKey_39 (by decide) ?_
      refine lv_istore (lv' := [(9, .int 0), (8, .int (nI (10 ^ cd j1))), (7, .int (cv j1)), (0, .ref (a 0)), (1, .ref pb), (2, .ref cb), (3, .int (nI c)), (4, .int (nI p)), (5, .int (nI m)), (6, .int (nI f))]) hx hb dL_isKey_40 hl (by decide) rfl (fun ls hl => ?_)
      refine lv_iconst (v := 0) hx hb dL_isKey_42 (by decide) ?_
      refine lv_istore (lv' := [(10, .int 0), (9, .int 0), (8, .int (nI (10 ^ cd j1))), (7, .int (cv j1)), (0, .ref (a 0)), (1, .ref pb), (2, .ref cb), (3, .int (nI c)), (4, .int (nI p)), (5, .int (nI m)), (6, .int (nI f))]) hx hb dL_isKey_43 hl (by decide) rfl (fun ls hl => ?_)
      refine lv_iconst (v := 0) hx hb dL_isKey_45 (by decide) ?_
      refine lv_istore (lv' := [(11, .int 0), (10, .int 0), (9, .int 0), (8, .int (nI (10 ^ cd j1))), (7, .int (cv j1)), (0, .ref (a 0)), (1, .ref pb), (2, .ref cb), (3, .int (nI c)), (4, .int (nI p)), (5, .int (nI m)), (6, .int (nI f))]) hx hb dL_isKey_46 hl (by decide) rfl (fun ls hl => ?_)
      refine lv_iconst (v := 0) hx hb dL_isKey_48 (by decide) ?_
      refine lv_istore (lv' := [(12, .int 0), (11, .int 0), (10, .int 0), (9, .int 0), (8, .int (nI (10 ^ cd j1))), (7, .int (cv j1)), (0, .ref (a 0)), (1, .ref pb), (2, .ref cb), (3, .int (nI c)), (4, .int (nI p)), (5, .int (nI m)), (6, .int (nI f))]) hx hb dL_isKey_49 hl (by decide) rfl (fun ls hl => ?_)
      refine lv_iconst (v := 0) hx hb dL_isKey_51 (by decide) ?_
      refine lv_istore (lv' := [(13, .int 0), (12, .int 0), (11, .int 0), (10, .int 0), (9, .int 0), (8, .int (nI (10 ^ cd j1))), (7, .int (cv j1)), (0, .ref (a 0)), (1, .ref pb), (2, .ref cb), (3, .int (nI c)), (4, .int (nI p)), (5, .int (nI m)), (6, .int (nI f))]) hx hb dL_isKey_52 hl (by decide) rfl (fun ls hl => ?_)
      refine lv_iconst (v := 0) hx hb dL_isKey_54 (by decide) ?_
      refine lv_istore (lv' := [(14, .int 0), (13, .int 0), (12, .int 0), (11, .int 0), (10, .int 0), (9, .int 0), (8, .int (nI (10 ^ cd j1))), (7, .int (cv j1)), (0, .ref (a 0)), (1, .ref pb), (2, .ref cb), (3, .int (nI c)), (4, .int (nI p)), (5, .int (nI m)), (6, .int (nI f))]) hx hb dL_isKey_55 hl (by decide) rfl (fun ls hl => ?_)
      have lp : ∀ (n k : Nat) (r9 : Nat → Int32) (s9 : Nat → Int32) (x8 : Int32) (x9 : Int32) (x10 : Int32) (x11 : Int32) (x12 : Int32) (x13 : Int32) (H : Heap) (locs : List Loc), nC < k + n → k ≤ nC → (x8 = nI (10 ^ cd j1) + dbtN par (fun k => hC ck cf cd nF (nI (k * 40 + p * 4 + m)) (nI f)) cd (nI c) k) → (x9 = sumN par wt (fun k => hC ck cf cd nF (nI (k * 40 + p * 4 + m)) (nI f)) cv (nI c) k) → (x10 = nI (cntN par (fun k => hC ck cf cd nF (nI (k * 40 + p * 4 + m)) (nI f)) (nI c) k)) → (x11 = chS par wt (dV nC par wt (fun k => hC ck cf cd nF (nI (k * 40 + p * 4 + m)) (nI f)) cv) c k) → (x12 = nI (chG par (dV nC par wt (fun k => hC ck cf cd nF (nI (k * 40 + p * 4 + m)) (nI f)) cv) c k)) → (x13 = nI (chC par c k)) → va_P D vwCl (WD cI cO a FA nC nR nL nF par wt (fun r => nI (sk r)) (fun r => nI (fk r)) hd r9 s9 ++ (WF FA ck cf cd cv nx nF ++ (LR cI pb rb cb pv rv kv))) H → va_D A (WD cI cO a FA nC nR nL nF par wt (fun r => nI (sk r)) (fun r => nI (fk r)) hd r9 s9 ++ (WF FA ck cf cd cv nx nF ++ (LR cI pb rb cb pv rv kv))) → va_S A s.heap H locs → ∀ ls : Array Slot, lv_has ls 17 [(14, .int (nI k)), (13, .int x13), (12, .int x12), (11, .int x11), (10, .int x10), (9, .int x9), (8, .int x8), (7, .int (cv j1)), (6, .int (nI f)), (5, .int (nI m)), (4, .int (nI p)), (3, .int (nI c)), (2, .ref cb), (1, .ref pb), (0, .ref (a 0))] → W p9 l e9 (headSpec wsL_isKey ({ frames := 11, cells := 170, slots := 1020, locals := 209 } : Room)).room s m9 ([.ref (a 0), .ref pb, .ref cb, .int (nI c), .int (nI p), .int (nI m), .int (nI f)] : List Value).toArray below meth c9 H locs (12 * k + 8) (72 * k + 48) (MQ below (va_Qi (fun (r : Int32) (u : (Nat → Int32) × (Nat → Int32)) => r = 1) (fun u t => va_P D vwCl (WD cI cO a FA nC nR nL nF par wt (fun r => nI (sk r)) (fun r => nI (fk r)) hd u.1 u.2 ++ (WF FA ck cf cd cv nx nF ++ (LR cI pb rb cb pv rv kv))) t.heap ∧ va_D A (WD cI cO a FA nC nR nL nF par wt (fun r => nI (sk r)) (fun r => nI (fk r)) hd u.1 u.2 ++ (WF FA ck cf cd cv nx nF ++ (LR cI pb rb cb pv rv kv)))) A) ([.ref (a 0), .ref pb, .ref cb, .int (nI c), .int (nI p), .int (nI m), .int (nI f)] : List Value).toArray s 170 1020 A) (F0 m9 57 ls []) := by
        intro n
        induction n with
        | zero => intro k r9 s9 x8 x9 x10 x11 x12 x13 H locs h1 h2; exact absurd h1 (by omega)
        | succ n ih_lp =>
          intro k r9 s9 x8 x9 x10 x11 x12 x13 H locs hn_lp hk_lp e8 e9 e10 e11 e12 e13 hP hD hS ls hl
          refine lv_iload hx hb dL_isKey_57 (lv_at hl 0 rfl) ?_
          refine lv_aload_n hx hb dL_isKey_59 rfl (lv_at hl 12 rfl) ?_
          refine lv_iconst (v := 0) hx hb dL_isKey_60 (by decide) ?_
          refine g_iald hx hb hK hP (11 + nF + 2) 0 (n := 4) (f := kv) (WDRj 2 rfl) rfl 0 rfl (by omega) (by decide) dL_isKey_61 ?_
          refine lv_topi (fun dv edv => ?_)
          obtain rfl : dv = nI nC := by rw [edv]; exact hk0
          refine lv_icmp_ge (tgt := 226) hx hb dL_isKey_62 (by decide) (fun c_62 => ?_) (fun c_62 => ?_)
          · skip
            have hkF : k = nC := by have := (nI_leI (a := nC) (b := k) (by omega) (by omega)).mp c_62; omega
            rw [hkF] at e8 e9 e10 e11 e12 e13
            have hcl := chC_le (par := par) (k := c) nC
            have hgl := chG_le (par := par) (g := (dV nC par wt (fun k => hC ck cf cd nF (nI (k * 40 + p * 4 + m)) (nI f)) cv)) (k := c) nC
            have hnl := cntN_le (par := par) (h := (fun k => hC ck cf cd nF (nI (k * 40 + p * 4 + m)) (nI f))) (c := nI c) nC
            refine W.widen (k := 152) (n := 912) (by omega) (by omega) ?_
            refine lv_iload hx hb dL_isKey_226 (lv_at hl 7 rfl) ?_
            refine lv_ldc (v := (-99000000)) hx hb hown w_0 dL_isKey_228 ?_
            refine lv_icmp_eq (tgt := 254) hx hb dL_isKey_230 (by decide) (fun c_230 => ?_) (fun c_230 => ?_)
            · skip
              exact absurd c_230 (hcv j1).ne
            · skip
              refine lv_iload hx hb dL_isKey_233 (lv_at hl 4 rfl) ?_
              refine lv_if_le (tgt := 254) hx hb dL_isKey_235 (by decide) (fun c_235 => ?_) (fun c_235 => ?_)
              · skip
                have hc0 : ¬ 0 < cntN par (fun k => hC ck cf cd nF (nI (k * 40 + p * 4 + m)) (nI f)) (nI c) nC := fun z => absurd c_235 (by rw [e10]; exact nI_nle z (Nat.lt_of_le_of_lt hnl (by omega)))
                have hoff : bI (sumOff nC par wt (fun k => hC ck cf cd nF (nI (k * 40 + p * 4 + m)) (nI f)) cd cv (nI c) (hC ck cf cd nF (nI (c * 40 + p * 4 + m)) (nI f)) = true) = 0 := (bI_f (so_few hOj1 hc0)).symm
                refine lv_iconst (v := 0) hx hb dL_isKey_254 (by decide) ?_
                refine lv_istore (lv' := [(14, .int 0), (13, .int x13), (12, .int x12), (11, .int x11), (10, .int x10), (9, .int x9), (8, .int x8), (7, .int (cv j1)), (6, .int (nI f)), (5, .int (nI m)), (4, .int (nI p)), (3, .int (nI c)), (2, .ref cb), (1, .ref pb), (0, .ref (a 0))]) hx hb dL_isKey_255 hl (by decide) rfl (fun ls hl => ?_)
                refine lv_iload hx hb dL_isKey_257 (lv_at hl 7 rfl) ?_
                refine lv_ldc (v := (-99000000)) hx hb hown w_0 dL_isKey_259 ?_
                refine lv_icmp_eq (tgt := 269) hx hb dL_isKey_261 (by decide) (fun c_261 => ?_) (fun c_261 => ?_)
                · skip
                  exact absurd c_261 (hcv j1).ne
                · skip
                  have hdue : dvI ((dV nC par wt (fun k => hC ck cf cd nF (nI (k * 40 + p * 4 + m)) (nI f)) cv) c) = cv j1 := dv_some hT hC12 hc hOj1
                  refine lv_iload hx hb dL_isKey_264 (lv_at hl 7 rfl) ?_
                  refine lv_goto (tgt := 288) hx hb dL_isKey_266 (by decide) ?_
                  refine lv_istore (lv' := [(15, .int (cv j1)), (14, .int 0), (13, .int x13), (12, .int x12), (11, .int x11), (10, .int x10), (9, .int x9), (8, .int x8), (7, .int (cv j1)), (6, .int (nI f)), (5, .int (nI m)), (4, .int (nI p)), (3, .int (nI c)), (2, .ref cb), (1, .ref pb), (0, .ref (a 0))]) hx hb dL_isKey_288 hl (by decide) rfl (fun ls hl => ?_)
                  refine lv_aload_n hx hb dL_isKey_290 rfl (lv_at hl 15 rfl) ?_
                  refine lv_iload_n hx hb dL_isKey_291 rfl (lv_at hl 12 rfl) ?_
                  refine lv_iload hx hb dL_isKey_292 (lv_at hl 11 rfl) ?_
                  refine lv_iload hx hb dL_isKey_294 (lv_at hl 10 rfl) ?_
                  refine lv_iload hx hb dL_isKey_296 (lv_at hl 9 rfl) ?_
                  refine va_calli (va_runV (As := [.int (nI c), .int (nI p), .int (nI m), .int (nI f)]) (rest := []) ⟨hx, hb, hml, hown, hts⟩ (m4_sum l D cI cZ cO cL dt A a FA nC nR nL nF par wt (fun r => nI (sk r)) (fun r => nI (fk r)) hd r9 s9 ck cf cd cv nx (LR cI pb rb cb pv rv kv) c p m f hlt hF hC12 hck hcf hcd hcv hwt hCh hL8 hc hp hm hf) (cwV 4 hts gL_isKey_X4_sum rfl rfl rfl (by decide +kernel) ⟨(Nat.le_of_ble_eq_true rfl), (Nat.le_of_ble_eq_true rfl)⟩) (gP.v (hg.on hS) hP 3 rfl 0 rfl (⟨hP, hD⟩)) rfl rfl hl.1 rfl (lv_room (Nat.le_of_ble_eq_true rfl)) dL_isKey_298 ⟨(Nat.le_of_ble_eq_true rfl), (Nat.le_of_ble_eq_true rfl)⟩) hS (fun q _ h => h) (fun q h => h) (fun r_25 ur_25 tr_25 H locs htr_25 hvmr_25 hr_25 hB hzr_25 hkr_25 hS => ?_)
                  rw [htr_25] at hB
                  obtain ⟨hP, hD⟩ := hB
                  refine W.widen (k := 155) (n := 930) (Nat.le_of_ble_eq_true rfl) (Nat.le_of_ble_eq_true rfl) ?_
                  have hP : va_P D vwCl (WD cI cO a FA nC nR nL nF par wt (fun r => nI (sk r)) (fun r => nI (fk r)) hd r9 s9 ++ (WF FA ck cf cd cv nx nF ++ (LR cI pb rb cb pv rv kv))) H := hP
                  have hD : va_D A (WD cI cO a FA nC nR nL nF par wt (fun r => nI (sk r)) (fun r => nI (fk r)) hd r9 s9 ++ (WF FA ck cf cd cv nx nF ++ (LR cI pb rb cb pv rv kv))) := hD
                  obtain rfl : r_25 = sumN par wt (fun k => hC ck cf cd nF (nI (k * 40 + p * 4 + m)) (nI f)) cv (nI c) nC := hr_25
                  refine lv_iload hx hb dL_isKey_301 (lv_at hl 6 rfl) ?_
                  refine lv_icmp_ne (tgt := 379) hx hb dL_isKey_303 (by decide) (fun c_303 => ?_) (fun c_303 => ?_)
                  · skip
                    exact absurd e9.symm c_303
                  · skip
                    refine lv_aload_n hx hb dL_isKey_306 rfl (lv_at hl 15 rfl) ?_
                    refine lv_iload_n hx hb dL_isKey_307 rfl (lv_at hl 12 rfl) ?_
                    refine lv_iload hx hb dL_isKey_308 (lv_at hl 11 rfl) ?_
                    refine lv_iload hx hb dL_isKey_310 (lv_at hl 10 rfl) ?_
                    refine lv_iload hx hb dL_isKey_312 (lv_at hl 9 rfl) ?_
                    refine va_calli (va_runV (As := [.int (nI c), .int (nI p), .int (nI m), .int (nI f)]) (rest := []) ⟨hx, hb, hml, hown, hts⟩ (m4_isSumOff l D cI cZ cO cL dt A a FA nC nR nL nF par wt (fun r => nI (sk r)) (fun r => nI (fk r)) hd r9 s9 ck cf cd cv nx (LR cI pb rb cb pv rv kv) c p m f hlt hF hC12 hck hcf hcd hcv hwt hCh hL8 hc hp hm hf) (cwV 4 hts gL_isKey_X4_isSumOff rfl rfl rfl (by decide +kernel) ⟨(Nat.le_of_ble_eq_true rfl), (Nat.le_of_ble_eq_true rfl)⟩) (gP.v (hg.on hS) hP 3 rfl 0 rfl (⟨hP, hD⟩)) rfl rfl hl.1 rfl (lv_room (Nat.le_of_ble_eq_true rfl)) dL_isKey_314 ⟨(Nat.le_of_ble_eq_true rfl), (Nat.le_of_ble_eq_true rfl)⟩) hS (fun q _ h => h) (fun q h => h) (fun r_26 ur_26 tr_26 H locs htr_26 hvmr_26 hr_26 hB hzr_26 hkr_26 hS => ?_)
                    rw [htr_26] at hB
                    obtain ⟨hP, hD⟩ := hB
                    refine W.widen (k := 158) (n := 948) (Nat.le_of_ble_eq_true rfl) (Nat.le_of_ble_eq_true rfl) ?_
                    have hP : va_P D vwCl (WD cI cO a FA nC nR nL nF par wt (fun r => nI (sk r)) (fun r => nI (fk r)) hd r9 s9 ++ (WF FA ck cf cd cv nx nF ++ (LR cI pb rb cb pv rv kv))) H := hP
                    have hD : va_D A (WD cI cO a FA nC nR nL nF par wt (fun r => nI (sk r)) (fun r => nI (fk r)) hd r9 s9 ++ (WF FA ck cf cd cv nx nF ++ (LR cI pb rb cb pv rv kv))) := hD
                    obtain rfl : r_26 = bI (sumOff nC par wt (fun k => hC ck cf cd nF (nI (k * 40 + p * 4 + m)) (nI f)) cd cv (nI c) (hC ck cf cd nF (nI (c * 40 + p * 4 + m)) (nI f)) = true) := hr_26
                    refine lv_iload hx hb dL_isKey_317 (lv_at hl 1 rfl) ?_
                    refine lv_icmp_ne (tgt := 379) hx hb dL_isKey_319 (by decide) (fun c_319 => ?_) (fun c_319 => ?_)
                    · skip
                      exact absurd hoff c_319
                    · skip
                      refine lv_aload_n hx hb dL_isKey_322 rfl (lv_at hl 15 rfl) ?_
                      refine lv_iload_n hx hb dL_isKey_323 rfl (lv_at hl 12 rfl) ?_
                      refine lv_iload hx hb dL_isKey_324 (lv_at hl 11 rfl) ?_
                      refine lv_iload hx hb dL_isKey_326 (lv_at hl 10 rfl) ?_
                      refine lv_iload hx hb dL_isKey_328 (lv_at hl 9 rfl) ?_
                      refine va_calli (vx_runSW (hh := [(0, 9, 10, 19)]) (As := [.ref (a 0), .int (nI c), .int (nI p), .int (nI m), .int (nI f)]) (rest := []) ⟨hx, hb, hml, hown, hts⟩ (kL_derived l D cI cZ cO cL dt A a FA nC nR nL nF par wt sk fk hd r9 s9 ck cf cd cv nx pb rb cb pv rv kv L c p m f hlt hOk (by omega) hp hm hf) (vx_cwSW 5 hts gL_isKey_L_derived rfl rfl rfl (by decide +kernel) ⟨(Nat.le_of_ble_eq_true rfl), (Nat.le_of_ble_eq_true rfl)⟩) (gP.s (hg.on hS) (⟨hP, hD⟩)) rfl rfl hl.1 rfl (lv_room (Nat.le_of_ble_eq_true rfl)) dL_isKey_330 ⟨(Nat.le_of_ble_eq_true rfl), (Nat.le_of_ble_eq_true rfl)⟩) hS (fun q _ h => h) (fun q h => h) (fun r_27 ur_27 tr_27 H locs htr_27 hvmr_27 hr_27 hB hzr_27 hkr_27 hS => ?_)
                      rw [htr_27] at hB
                      obtain ⟨hP, hD⟩ := hB
                      refine W.widen (k := 162) (n := 972) (Nat.le_of_ble_eq_true rfl) (Nat.le_of_ble_eq_true rfl) ?_
                      have hP : va_P D vwCl (WD cI cO a FA nC nR nL nF par wt (fun r => nI (sk r)) (fun r => nI (fk r)) hd ur_27.1 ur_27.2 ++ (WF FA ck cf cd cv nx nF ++ (LR cI pb rb cb pv rv kv))) H := hP
                      have hD : va_D A (WD cI cO a FA nC nR nL nF par wt (fun r => nI (sk r)) (fun r => nI (fk r)) hd ur_27.1 ur_27.2 ++ (WF FA ck cf cd cv nx nF ++ (LR cI pb rb cb pv rv kv))) := hD
                      obtain rfl : r_27 = dvI ((dV nC par wt (fun k => hC ck cf cd nF (nI (k * 40 + p * 4 + m)) (nI f)) cv) c) := hr_27
                      refine lv_iload hx hb dL_isKey_333 (lv_at hl 0 rfl) ?_
                      refine lv_icmp_ne (tgt := 379) hx hb dL_isKey_335 (by decide) (fun c_335 => ?_) (fun c_335 => ?_)
                      · skip
                        exact absurd hdue c_335
                      · skip
                        refine lv_iload hx hb dL_isKey_338 (lv_at hl 8 rfl) ?_
                        refine lv_ldc (v := (-99000000)) hx hb hown w_0 dL_isKey_340 ?_
                        refine lv_icmp_ne (tgt := 349) hx hb dL_isKey_342 (by decide) (fun c_342 => ?_) (fun c_342 => ?_)
                        · skip
                          refine lv_iconst (v := 0) hx hb dL_isKey_349 (by decide) ?_
                          refine lv_aload_n hx hb dL_isKey_350 rfl (lv_at hl 15 rfl) ?_
                          refine lv_iconst (v := 1) hx hb dL_isKey_351 (by decide) ?_
                          refine lv_iload_n hx hb dL_isKey_352 rfl (lv_at hl 12 rfl) ?_
                          refine lv_iload hx hb dL_isKey_353 (lv_at hl 11 rfl) ?_
                          refine lv_iload hx hb dL_isKey_355 (lv_at hl 10 rfl) ?_
                          refine lv_iload hx hb dL_isKey_357 (lv_at hl 9 rfl) ?_
                          refine va_calli (vx_runSW (hh := [(0, 27, 28, 19)]) (As := [.ref (a 0), .int 1, .int (nI c), .int (nI p), .int (nI m), .int (nI f)]) (rest := [.int 0]) ⟨hx, hb, hml, hown, hts⟩ (kL_heldD l D cI cZ cO cL dt A a FA nC nR nL nF par wt sk fk hd ur_27.1 ur_27.2 ck cf cd cv nx pb rb cb pv rv kv L c p m f hlt hOk (by omega) (by omega) (by omega) (by omega)) (vx_cwSW 6 hts gL_isKey_L_held rfl rfl rfl (by decide +kernel) ⟨(Nat.le_of_ble_eq_true rfl), (Nat.le_of_ble_eq_true rfl)⟩) (gP.s (hg.on hS) (⟨hP, hD⟩)) rfl rfl hl.1 rfl (lv_room (Nat.le_of_ble_eq_true rfl)) dL_isKey_359 ⟨(Nat.le_of_ble_eq_true rfl), (Nat.le_of_ble_eq_true rfl)⟩) hS (fun q _ h => h) (fun q h => h) (fun r_28 ur_28 tr_28 H locs htr_28 hvmr_28 hr_28 hB hzr_28 hkr_28 hS => ?_)
                          rw [htr_28] at hB
                          obtain ⟨hP, hD⟩ := hB
                          refine W.widen (k := 166) (n := 996) (Nat.le_of_ble_eq_true rfl) (Nat.le_of_ble_eq_true rfl) ?_
                          have hP : va_P D vwCl (WD cI cO a FA nC nR nL nF par wt (fun r => nI (sk r)) (fun r => nI (fk r)) hd ur_27.1 ur_27.2 ++ (WF FA ck cf cd cv nx nF ++ (LR cI pb rb cb pv rv kv))) H := hP
                          have hD : va_D A (WD cI cO a FA nC nR nL nF par wt (fun r => nI (sk r)) (fun r => nI (fk r)) hd ur_27.1 ur_27.2 ++ (WF FA ck cf cd cv nx nF ++ (LR cI pb rb cb pv rv kv))) := hD
                          obtain rfl : r_28 = nI (10 ^ cd j1) := hr_28.trans (by rw [hOj1]; rfl)
                          refine lv_ldc (v := (-99000000)) hx hb hown w_0 dL_isKey_362 ?_
                          refine lv_icmp_ne (tgt := 371) hx hb dL_isKey_364 (by decide) (fun c_364 => ?_) (fun c_364 => ?_)
                          · skip
                            refine lv_iconst (v := 0) hx hb dL_isKey_371 (by decide) ?_
                            refine lv_icmp_ne (tgt := 379) hx hb dL_isKey_372 (by decide) (fun c_372 => ?_) (fun c_372 => ?_)
                            · skip
                              exact absurd c_372 (by decide)
                            · skip
                              refine lv_iconst (v := 1) hx hb dL_isKey_375 (by decide) ?_
                              refine lv_goto (tgt := 380) hx hb dL_isKey_376 (by decide) ?_
                              exact W.widen (k := 170) (n := 1020) (Nat.le_of_ble_eq_true rfl) (Nat.le_of_ble_eq_true rfl) (W.zret (v := 1) hx hb hr (rfl) (fun t ht hW => ⟨⟨1, (ur_27.1, ur_27.2), rfl, rfl, g_PD ht hP hD⟩, hS.F ht⟩) hS.2.2 dL_isKey_380)
                          · skip
                            exact absurd c_364 (dbt_ne (hcd j1))
                        · skip
                          exact absurd c_342 (hcv j1).ne
              · skip
                have hc1 : 0 < cntN par (fun k => hC ck cf cd nF (nI (k * 40 + p * 4 + m)) (nI f)) (nI c) nC := Nat.pos_of_ne_zero (fun z => c_235 (by rw [e10, z]; decide))
                refine lv_iload hx hb dL_isKey_238 (lv_at hl 7 rfl) ?_
                refine lv_iload hx hb dL_isKey_240 (lv_at hl 5 rfl) ?_
                refine lv_iload hx hb dL_isKey_242 (lv_at hl 6 rfl) ?_
                refine g_csi (va_runS (As := [.int (cv j1), .int x9, .int x8]) (rest := []) ⟨hx, hb, hml, hown, hts⟩ (kL_isFar l D cI cZ cO cL dt A (cv j1) x9 x8 (WD cI cO a FA nC nR nL nF par wt (fun r => nI (sk r)) (fun r => nI (fk r)) hd r9 s9 ++ (WF FA ck cf cd cv nx nF ++ (LR cI pb rb cb pv rv kv))) (hcv j1).small (by rw [e9]; exact sumN_small hwt hcv hC12)) (va_cwS 3 hts gL_isKey_L_isFar rfl rfl rfl (by decide +kernel) ⟨(Nat.le_of_ble_eq_true rfl), (Nat.le_of_ble_eq_true rfl)⟩) (gP.s (hg.on hS) hP) rfl rfl hl.1 rfl (lv_room (Nat.le_of_ble_eq_true rfl)) dL_isKey_244 ⟨(Nat.le_of_ble_eq_true rfl), (Nat.le_of_ble_eq_true rfl)⟩) (fun r_29 hr_29 => ?_)
                obtain rfl : r_29 = bI (x8 < 2 * farI (cv j1) x9) := hr_29
                refine lv_if_eq (tgt := 254) hx hb dL_isKey_247 (by decide) (fun c_247 => ?_) (fun c_247 => ?_)
                · skip
                  have c_247 := bI_z c_247
                  rw [e8, e9] at c_247
                  have hoff : bI (sumOff nC par wt (fun k => hC ck cf cd nF (nI (k * 40 + p * 4 + m)) (nI f)) cd cv (nI c) (hC ck cf cd nF (nI (c * 40 + p * 4 + m)) (nI f)) = true) = 0 := (bI_f (so_near hOj1 c_247)).symm
                  refine lv_iconst (v := 0) hx hb dL_isKey_254 (by decide) ?_
                  refine lv_istore (lv' := [(14, .int 0), (13, .int x13), (12, .int x12), (11, .int x11), (10, .int x10), (9, .int x9), (8, .int x8), (7, .int (cv j1)), (6, .int (nI f)), (5, .int (nI m)), (4, .int (nI p)), (3, .int (nI c)), (2, .ref cb), (1, .ref pb), (0, .ref (a 0))]) hx hb dL_isKey_255 hl (by decide) rfl (fun ls hl => ?_)
                  refine lv_iload hx hb dL_isKey_257 (lv_at hl 7 rfl) ?_
                  refine lv_ldc (v := (-99000000)) hx hb hown w_0 dL_isKey_259 ?_
                  refine lv_icmp_eq (tgt := 269) hx hb dL_isKey_261 (by decide) (fun c_261 => ?_) (fun c_261 => ?_)
                  · skip
                    exact absurd c_261 (hcv j1).ne
                  · skip
                    have hdue : dvI ((dV nC par wt (fun k => hC ck cf cd nF (nI (k * 40 + p * 4 + m)) (nI f)) cv) c) = cv j1 := dv_some hT hC12 hc hOj1
                    refine lv_iload hx hb dL_isKey_264 (lv_at hl 7 rfl) ?_
                    refine lv_goto (tgt := 288) hx hb dL_isKey_266 (by decide) ?_
                    refine lv_istore (lv' := [(15, .int (cv j1)), (14, .int 0), (13, .int x13), (12, .int x12), (11, .int x11), (10, .int x10), (9, .int x9), (8, .int x8), (7, .int (cv j1)), (6, .int (nI f)), (5, .int (nI m)), (4, .int (nI p)), (3, .int (nI c)), (2, .ref cb), (1, .ref pb), (0, .ref (a 0))]) hx hb dL_isKey_288 hl (by decide) rfl (fun ls hl => ?_)
                    refine lv_aload_n hx hb dL_isKey_290 rfl (lv_at hl 15 rfl) ?_
                    refine lv_iload_n hx hb dL_isKey_291 rfl (lv_at hl 12 rfl) ?_
                    refine lv_iload hx hb dL_isKey_292 (lv_at hl 11 rfl) ?_
                    refine lv_iload hx hb dL_isKey_294 (lv_at hl 10 rfl) ?_
                    refine lv_iload hx hb dL_isKey_296 (lv_at hl 9 rfl) ?_
                    refine va_calli (va_runV (As := [.int (nI c), .int (nI p), .int (nI m), .int (nI f)]) (rest := []) ⟨hx, hb, hml, hown, hts⟩ (m4_sum l D cI cZ cO cL dt A a FA nC nR nL nF par wt (fun r => nI (sk r)) (fun r => nI (fk r)) hd r9 s9 ck cf cd cv nx (LR cI pb rb cb pv rv kv) c p m f hlt hF hC12 hck hcf hcd hcv hwt hCh hL8 hc hp hm hf) (cwV 4 hts gL_isKey_X4_sum rfl rfl rfl (by decide +kernel) ⟨(Nat.le_of_ble_eq_true rfl), (Nat.le_of_ble_eq_true rfl)⟩) (gP.v (hg.on hS) hP 3 rfl 0 rfl (⟨hP, hD⟩)) rfl rfl hl.1 rfl (lv_room (Nat.le_of_ble_eq_true rfl)) dL_isKey_298 ⟨(Nat.le_of_ble_eq_true rfl), (Nat.le_of_ble_eq_true rfl)⟩) hS (fun q _ h => h) (fun q h => h) (fun r_30 ur_30 tr_30 H locs htr_30 hvmr_30 hr_30 hB hzr_30 hkr_30 hS => ?_)
                    rw [htr_30] at hB
                    obtain ⟨hP, hD⟩ := hB
                    refine W.widen (k := 155) (n := 930) (Nat.le_of_ble_eq_true rfl) (Nat.le_of_ble_eq_true rfl) ?_
                    have hP : va_P D vwCl (WD cI cO a FA nC nR nL nF par wt (fun r => nI (sk r)) (fun r => nI (fk r)) hd r9 s9 ++ (WF FA ck cf cd cv nx nF ++ (LR cI pb rb cb pv rv kv))) H := hP
                    have hD : va_D A (WD cI cO a FA nC nR nL nF par wt (fun r => nI (sk r)) (fun r => nI (fk r)) hd r9 s9 ++ (WF FA ck cf cd cv nx nF ++ (LR cI pb rb cb pv rv kv))) := hD
                    obtain rfl : r_30 = sumN par wt (fun k => hC ck cf cd nF (nI (k * 40 + p * 4 + m)) (nI f)) cv (nI c) nC := hr_30
                    refine lv_iload hx hb dL_isKey_301 (lv_at hl 6 rfl) ?_
                    refine lv_icmp_ne (tgt := 379) hx hb dL_isKey_303 (by decide) (fun c_303 => ?_) (fun c_303 => ?_)
                    · skip
                      exact absurd e9.symm c_303
                    · skip
                      refine lv_aload_n hx hb dL_isKey_306 rfl (lv_at hl 15 rfl) ?_
                      refine lv_iload_n hx hb dL_isKey_307 rfl (lv_at hl 12 rfl) ?_
                      refine lv_iload hx hb dL_isKey_308 (lv_at hl 11 rfl) ?_
                      refine lv_iload hx hb dL_isKey_310 (lv_at hl 10 rfl) ?_
                      refine lv_iload hx hb dL_isKey_312 (lv_at hl 9 rfl) ?_
                      refine va_calli (va_runV (As := [.int (nI c), .int (nI p), .int (nI m), .int (nI f)]) (rest := []) ⟨hx, hb, hml, hown, hts⟩ (m4_isSumOff l D cI cZ cO cL dt A a FA nC nR nL nF par wt (fun r => nI (sk r)) (fun r => nI (fk r)) hd r9 s9 ck cf cd cv nx (LR cI pb rb cb pv rv kv) c p m f hlt hF hC12 hck hcf hcd hcv hwt hCh hL8 hc hp hm hf) (cwV 4 hts gL_isKey_X4_isSumOff rfl rfl rfl (by decide +kernel) ⟨(Nat.le_of_ble_eq_true rfl), (Nat.le_of_ble_eq_true rfl)⟩) (gP.v (hg.on hS) hP 3 rfl 0 rfl (⟨hP, hD⟩)) rfl rfl hl.1 rfl (lv_room (Nat.le_of_ble_eq_true rfl)) dL_isKey_314 ⟨(Nat.le_of_ble_eq_true rfl), (Nat.le_of_ble_eq_true rfl)⟩) hS (fun q _ h => h) (fun q h => h) (fun r_31 ur_31 tr_31 H locs htr_31 hvmr_31 hr_31 hB hzr_31 hkr_31 hS => ?_)
                      rw [htr_31] at hB
                      obtain ⟨hP, hD⟩ := hB
                      refine W.widen (k := 158) (n := 948) (Nat.le_of_ble_eq_true rfl) (Nat.le_of_ble_eq_true rfl) ?_
                      have hP : va_P D vwCl (WD cI cO a FA nC nR nL nF par wt (fun r => nI (sk r)) (fun r => nI (fk r)) hd r9 s9 ++ (WF FA ck cf cd cv nx nF ++ (LR cI pb rb cb pv rv kv))) H := hP
                      have hD : va_D A (WD cI cO a FA nC nR nL nF par wt (fun r => nI (sk r)) (fun r => nI (fk r)) hd r9 s9 ++ (WF FA ck cf cd cv nx nF ++ (LR cI pb rb cb pv rv kv))) := hD
                      obtain rfl : r_31 = bI (sumOff nC par wt (fun k => hC ck cf cd nF (nI (k * 40 + p * 4 + m)) (nI f)) cd cv (nI c) (hC ck cf cd nF (nI (c * 40 + p * 4 + m)) (nI f)) = true) := hr_31
                      refine lv_iload hx hb dL_isKey_317 (lv_at hl 1 rfl) ?_
                      refine lv_icmp_ne (tgt := 379) hx hb dL_isKey_319 (by decide) (fun c_319 => ?_) (fun c_319 => ?_)
                      · skip
                        exact absurd hoff c_319
                      · skip
                        refine lv_aload_n hx hb dL_isKey_322 rfl (lv_at hl 15 rfl) ?_
                        refine lv_iload_n hx hb dL_isKey_323 rfl (lv_at hl 12 rfl) ?_
                        refine lv_iload hx hb dL_isKey_324 (lv_at hl 11 rfl) ?_
                        refine lv_iload hx hb dL_isKey_326 (lv_at hl 10 rfl) ?_
                        refine lv_iload hx hb dL_isKey_328 (lv_at hl 9 rfl) ?_
                        refine va_calli (vx_runSW (hh := [(0, 9, 10, 19)]) (As := [.ref (a 0), .int (nI c), .int (nI p), .int (nI m), .int (nI f)]) (rest := []) ⟨hx, hb, hml, hown, hts⟩ (kL_derived l D cI cZ cO cL dt A a FA nC nR nL nF par wt sk fk hd r9 s9 ck cf cd cv nx pb rb cb pv rv kv L c p m f hlt hOk (by omega) hp hm hf) (vx_cwSW 5 hts gL_isKey_L_derived rfl rfl rfl (by decide +kernel) ⟨(Nat.le_of_ble_eq_true rfl), (Nat.le_of_ble_eq_true rfl)⟩) (gP.s (hg.on hS) (⟨hP, hD⟩)) rfl rfl hl.1 rfl (lv_room (Nat.le_of_ble_eq_true rfl)) dL_isKey_330 ⟨(Nat.le_of_ble_eq_true rfl), (Nat.le_of_ble_eq_true rfl)⟩) hS (fun q _ h => h) (fun q h => h) (fun r_32 ur_32 tr_32 H locs htr_32 hvmr_32 hr_32 hB hzr_32 hkr_32 hS => ?_)
                        rw [htr_32] at hB
                        obtain ⟨hP, hD⟩ := hB
                        refine W.widen (k := 162) (n := 972) (Nat.le_of_ble_eq_true rfl) (Nat.le_of_ble_eq_true rfl) ?_
                        have hP : va_P D vwCl (WD cI cO a FA nC nR nL nF par wt (fun r => nI (sk r)) (fun r => nI (fk r)) hd ur_32.1 ur_32.2 ++ (WF FA ck cf cd cv nx nF ++ (LR cI pb rb cb pv rv kv))) H := hP
                        have hD : va_D A (WD cI cO a FA nC nR nL nF par wt (fun r => nI (sk r)) (fun r => nI (fk r)) hd ur_32.1 ur_32.2 ++ (WF FA ck cf cd cv nx nF ++ (LR cI pb rb cb pv rv kv))) := hD
                        obtain rfl : r_32 = dvI ((dV nC par wt (fun k => hC ck cf cd nF (nI (k * 40 + p * 4 + m)) (nI f)) cv) c) := hr_32
                        refine lv_iload hx hb dL_isKey_333 (lv_at hl 0 rfl) ?_
                        refine lv_icmp_ne (tgt := 379) hx hb dL_isKey_335 (by decide) (fun c_335 => ?_) (fun c_335 => ?_)
                        · skip
                          exact absurd hdue c_335
                        · skip
                          refine lv_iload hx hb dL_isKey_338 (lv_at hl 8 rfl) ?_
                          refine lv_ldc (v := (-99000000)) hx hb hown w_0 dL_isKey_340 ?_
                          refine lv_icmp_ne (tgt := 349) hx hb dL_isKey_342 (by decide) (fun c_342 => ?_) (fun c_342 => ?_)
                          · skip
                            refine lv_iconst (v := 0) hx hb dL_isKey_349 (by decide) ?_
                            refine lv_aload_n hx hb dL_isKey_350 rfl (lv_at hl 15 rfl) ?_
                            refine lv_iconst (v := 1) hx hb dL_isKey_351 (by decide) ?_
                            refine lv_iload_n hx hb dL_isKey_352 rfl (lv_at hl 12 rfl) ?_
                            refine lv_iload hx hb dL_isKey_353 (lv_at hl 11 rfl) ?_
                            refine lv_iload hx hb dL_isKey_355 (lv_at hl 10 rfl) ?_
                            refine lv_iload hx hb dL_isKey_357 (lv_at hl 9 rfl) ?_
                            refine va_calli (vx_runSW (hh := [(0, 27, 28, 19)]) (As := [.ref (a 0), .int 1, .int (nI c), .int (nI p), .int (nI m), .int (nI f)]) (rest := [.int 0]) ⟨hx, hb, hml, hown, hts⟩ (kL_heldD l D cI cZ cO cL dt A a FA nC nR nL nF par wt sk fk hd ur_32.1 ur_32.2 ck cf cd cv nx pb rb cb pv rv kv L c p m f hlt hOk (by omega) (by omega) (by omega) (by omega)) (vx_cwSW 6 hts gL_isKey_L_held rfl rfl rfl (by decide +kernel) ⟨(Nat.le_of_ble_eq_true rfl), (Nat.le_of_ble_eq_true rfl)⟩) (gP.s (hg.on hS) (⟨hP, hD⟩)) rfl rfl hl.1 rfl (lv_room (Nat.le_of_ble_eq_true rfl)) dL_isKey_359 ⟨(Nat.le_of_ble_eq_true rfl), (Nat.le_of_ble_eq_true rfl)⟩) hS (fun q _ h => h) (fun q h => h) (fun r_33 ur_33 tr_33 H locs htr_33 hvmr_33 hr_33 hB hzr_33 hkr_33 hS => ?_)
                            rw [htr_33] at hB
                            obtain ⟨hP, hD⟩ := hB
                            refine W.widen (k := 166) (n := 996) (Nat.le_of_ble_eq_true rfl) (Nat.le_of_ble_eq_true rfl) ?_
                            have hP : va_P D vwCl (WD cI cO a FA nC nR nL nF par wt (fun r => nI (sk r)) (fun r => nI (fk r)) hd ur_32.1 ur_32.2 ++ (WF FA ck cf cd cv nx nF ++ (LR cI pb rb cb pv rv kv))) H := hP
                            have hD : va_D A (WD cI cO a FA nC nR nL nF par wt (fun r => nI (sk r)) (fun r => nI (fk r)) hd ur_32.1 ur_32.2 ++ (WF FA ck cf cd cv nx nF ++ (LR cI pb rb cb pv rv kv))) := hD
                            obtain rfl : r_33 = nI (10 ^ cd j1) := hr_33.trans (by rw [hOj1]; rfl)
                            refine lv_ldc (v := (-99000000)) hx hb hown w_0 dL_isKey_362 ?_
                            refine lv_icmp_ne (tgt := 371) hx hb dL_isKey_364 (by decide) (fun c_364 => ?_) (fun c_364 => ?_)
                            · skip
                              refine lv_iconst (v := 0) hx hb dL_isKey_371 (by decide) ?_
                              refine lv_icmp_ne (tgt := 379) hx hb dL_isKey_372 (by decide) (fun c_372 => ?_) (fun c_372 => ?_)
                              · skip
                                exact absurd c_372 (by decide)
                              · skip
                                refine lv_iconst (v := 1) hx hb dL_isKey_375 (by decide) ?_
                                refine lv_goto (tgt := 380) hx hb dL_isKey_376 (by decide) ?_
                                exact W.widen (k := 170) (n := 1020) (Nat.le_of_ble_eq_true rfl) (Nat.le_of_ble_eq_true rfl) (W.zret (v := 1) hx hb hr (rfl) (fun t ht hW => ⟨⟨1, (ur_32.1, ur_32.2), rfl, rfl, g_PD ht hP hD⟩, hS.F ht⟩) hS.2.2 dL_isKey_380)
                            · skip
                              exact absurd c_364 (dbt_ne (hcd j1))
                          · skip
                            exact absurd c_342 (hcv j1).ne
                · skip
                  have c_247 := bI_n c_247
                  rw [e8, e9] at c_247
                  have hoff : bI (sumOff nC par wt (fun k => hC ck cf cd nF (nI (k * 40 + p * 4 + m)) (nI f)) cd cv (nI c) (hC ck cf cd nF (nI (c * 40 + p * 4 + m)) (nI f)) = true) = 1 := (bI_t (so_far hOj1 hc1 c_247)).symm
                  refine lv_iconst (v := 1) hx hb dL_isKey_250 (by decide) ?_
                  refine lv_goto (tgt := 255) hx hb dL_isKey_251 (by decide) ?_
                  refine lv_istore (lv' := [(14, .int 1), (13, .int x13), (12, .int x12), (11, .int x11), (10, .int x10), (9, .int x9), (8, .int x8), (7, .int (cv j1)), (6, .int (nI f)), (5, .int (nI m)), (4, .int (nI p)), (3, .int (nI c)), (2, .ref cb), (1, .ref pb), (0, .ref (a 0))]) hx hb dL_isKey_255 hl (by decide) rfl (fun ls hl => ?_)
                  refine lv_iload hx hb dL_isKey_257 (lv_at hl 7 rfl) ?_
                  refine lv_ldc (v := (-99000000)) hx hb hown w_0 dL_isKey_259 ?_
                  refine lv_icmp_eq (tgt := 269) hx hb dL_isKey_261 (by decide) (fun c_261 => ?_) (fun c_261 => ?_)
                  · skip
                    exact absurd c_261 (hcv j1).ne
                  · skip
                    have hdue : dvI ((dV nC par wt (fun k => hC ck cf cd nF (nI (k * 40 + p * 4 + m)) (nI f)) cv) c) = cv j1 := dv_some hT hC12 hc hOj1
                    refine lv_iload hx hb dL_isKey_264 (lv_at hl 7 rfl) ?_
                    refine lv_goto (tgt := 288) hx hb dL_isKey_266 (by decide) ?_
                    refine lv_istore (lv' := [(15, .int (cv j1)), (14, .int 1), (13, .int x13), (12, .int x12), (11, .int x11), (10, .int x10), (9, .int x9), (8, .int x8), (7, .int (cv j1)), (6, .int (nI f)), (5, .int (nI m)), (4, .int (nI p)), (3, .int (nI c)), (2, .ref cb), (1, .ref pb), (0, .ref (a 0))]) hx hb dL_isKey_288 hl (by decide) rfl (fun ls hl => ?_)
                    refine lv_aload_n hx hb dL_isKey_290 rfl (lv_at hl 15 rfl) ?_
                    refine lv_iload_n hx hb dL_isKey_291 rfl (lv_at hl 12 rfl) ?_
                    refine lv_iload hx hb dL_isKey_292 (lv_at hl 11 rfl) ?_
                    refine lv_iload hx hb dL_isKey_294 (lv_at hl 10 rfl) ?_
                    refine lv_iload hx hb dL_isKey_296 (lv_at hl 9 rfl) ?_
                    refine va_calli (va_runV (As := [.int (nI c), .int (nI p), .int (nI m), .int (nI f)]) (rest := []) ⟨hx, hb, hml, hown, hts⟩ (m4_sum l D cI cZ cO cL dt A a FA nC nR nL nF par wt (fun r => nI (sk r)) (fun r => nI (fk r)) hd r9 s9 ck cf cd cv nx (LR cI pb rb cb pv rv kv) c p m f hlt hF hC12 hck hcf hcd hcv hwt hCh hL8 hc hp hm hf) (cwV 4 hts gL_isKey_X4_sum rfl rfl rfl (by decide +kernel) ⟨(Nat.le_of_ble_eq_true rfl), (Nat.le_of_ble_eq_true rfl)⟩) (gP.v (hg.on hS) hP 3 rfl 0 rfl (⟨hP, hD⟩)) rfl rfl hl.1 rfl (lv_room (Nat.le_of_ble_eq_true rfl)) dL_isKey_298 ⟨(Nat.le_of_ble_eq_true rfl), (Nat.le_of_ble_eq_true rfl)⟩) hS (fun q _ h => h) (fun q h => h) (fun r_34 ur_34 tr_34 H locs htr_34 hvmr_34 hr_34 hB hzr_34 hkr_34 hS => ?_)
                    rw [htr_34] at hB
                    obtain ⟨hP, hD⟩ := hB
                    refine W.widen (k := 155) (n := 930) (Nat.le_of_ble_eq_true rfl) (Nat.le_of_ble_eq_true rfl) ?_
                    have hP : va_P D vwCl (WD cI cO a FA nC nR nL nF par wt (fun r => nI (sk r)) (fun r => nI (fk r)) hd r9 s9 ++ (WF FA ck cf cd cv nx nF ++ (LR cI pb rb cb pv rv kv))) H := hP
                    have hD : va_D A (WD cI cO a FA nC nR nL nF par wt (fun r => nI (sk r)) (fun r => nI (fk r)) hd r9 s9 ++ (WF FA ck cf cd cv nx nF ++ (LR cI pb rb cb pv rv kv))) := hD
                    obtain rfl : r_34 = sumN par wt (fun k => hC ck cf cd nF (nI (k * 40 + p * 4 + m)) (nI f)) cv (nI c) nC := hr_34
                    refine lv_iload hx hb dL_isKey_301 (lv_at hl 6 rfl) ?_
                    refine lv_icmp_ne (tgt := 379) hx hb dL_isKey_303 (by decide) (fun c_303 => ?_) (fun c_303 => ?_)
                    · skip
                      exact absurd e9.symm c_303
                    · skip
                      refine lv_aload_n hx hb dL_isKey_306 rfl (lv_at hl 15 rfl) ?_
                      refine lv_iload_n hx hb dL_isKey_307 rfl (lv_at hl 12 rfl) ?_
                      refine lv_iload hx hb dL_isKey_308 (lv_at hl 11 rfl) ?_
                      refine lv_iload hx hb dL_isKey_310 (lv_at hl 10 rfl) ?_
                      refine lv_iload hx hb dL_isKey_312 (lv_at hl 9 rfl) ?_
                      refine va_calli (va_runV (As := [.int (nI c), .int (nI p), .int (nI m), .int (nI f)]) (rest := []) ⟨hx, hb, hml, hown, hts⟩ (m4_isSumOff l D cI cZ cO cL dt A a FA nC nR nL nF par wt (fun r => nI (sk r)) (fun r => nI (fk r)) hd r9 s9 ck cf cd cv nx (LR cI pb rb cb pv rv kv) c p m f hlt hF hC12 hck hcf hcd hcv hwt hCh hL8 hc hp hm hf) (cwV 4 hts gL_isKey_X4_isSumOff rfl rfl rfl (by decide +kernel) ⟨(Nat.le_of_ble_eq_true rfl), (Nat.le_of_ble_eq_true rfl)⟩) (gP.v (hg.on hS) hP 3 rfl 0 rfl (⟨hP, hD⟩)) rfl rfl hl.1 rfl (lv_room (Nat.le_of_ble_eq_true rfl)) dL_isKey_314 ⟨(Nat.le_of_ble_eq_true rfl), (Nat.le_of_ble_eq_true rfl)⟩) hS (fun q _ h => h) (fun q h => h) (fun r_35 ur_35 tr_35 H locs htr_35 hvmr_35 hr_35 hB hzr_35 hkr_35 hS => ?_)
                      rw [htr_35] at hB
                      obtain ⟨hP, hD⟩ := hB
                      refine W.widen (k := 158) (n := 948) (Nat.le_of_ble_eq_true rfl) (Nat.le_of_ble_eq_true rfl) ?_
                      have hP : va_P D vwCl (WD cI cO a FA nC nR nL nF par wt (fun r => nI (sk r)) (fun r => nI (fk r)) hd r9 s9 ++ (WF FA ck cf cd cv nx nF ++ (LR cI pb rb cb pv rv kv))) H := hP
                      have hD : va_D A (WD cI cO a FA nC nR nL nF par wt (fun r => nI (sk r)) (fun r => nI (fk r)) hd r9 s9 ++ (WF FA ck cf cd cv nx nF ++ (LR cI pb rb cb pv rv kv))) := hD
                      obtain rfl : r_35 = bI (sumOff nC par wt (fun k => hC ck cf cd nF (nI (k * 40 + p * 4 + m)) (nI f)) cd cv (nI c) (hC ck cf cd nF (nI (c * 40 + p * 4 + m)) (nI f)) = true) := hr_35
                      refine lv_iload hx hb dL_isKey_317 (lv_at hl 1 rfl) ?_
                      refine lv_icmp_ne (tgt := 379) hx hb dL_isKey_319 (by decide) (fun c_319 => ?_) (fun c_319 => ?_)
                      · skip
                        exact absurd hoff c_319
                      · skip
                        refine lv_aload_n hx hb dL_isKey_322 rfl (lv_at hl 15 rfl) ?_
                        refine lv_iload_n hx hb dL_isKey_323 rfl (lv_at hl 12 rfl) ?_
                        refine lv_iload hx hb dL_isKey_324 (lv_at hl 11 rfl) ?_
                        refine lv_iload hx hb dL_isKey_326 (lv_at hl 10 rfl) ?_
                        refine lv_iload hx hb dL_isKey_328 (lv_at hl 9 rfl) ?_
                        refine va_calli (vx_runSW (hh := [(0, 9, 10, 19)]) (As := [.ref (a 0), .int (nI c), .int (nI p), .int (nI m), .int (nI f)]) (rest := []) ⟨hx, hb, hml, hown, hts⟩ (kL_derived l D cI cZ cO cL dt A a FA nC nR nL nF par wt sk fk hd r9 s9 ck cf cd cv nx pb rb cb pv rv kv L c p m f hlt hOk (by omega) hp hm hf) (vx_cwSW 5 hts gL_isKey_L_derived rfl rfl rfl (by decide +kernel) ⟨(Nat.le_of_ble_eq_true rfl), (Nat.le_of_ble_eq_true rfl)⟩) (gP.s (hg.on hS) (⟨hP, hD⟩)) rfl rfl hl.1 rfl (lv_room (Nat.le_of_ble_eq_true rfl)) dL_isKey_330 ⟨(Nat.le_of_ble_eq_true rfl), (Nat.le_of_ble_eq_true rfl)⟩) hS (fun q _ h => h) (fun q h => h) (fun r_36 ur_36 tr_36 H locs htr_36 hvmr_36 hr_36 hB hzr_36 hkr_36 hS => ?_)
                        rw [htr_36] at hB
                        obtain ⟨hP, hD⟩ := hB
                        refine W.widen (k := 162) (n := 972) (Nat.le_of_ble_eq_true rfl) (Nat.le_of_ble_eq_true rfl) ?_
                        have hP : va_P D vwCl (WD cI cO a FA nC nR nL nF par wt (fun r => nI (sk r)) (fun r => nI (fk r)) hd ur_36.1 ur_36.2 ++ (WF FA ck cf cd cv nx nF ++ (LR cI pb rb cb pv rv kv))) H := hP
                        have hD : va_D A (WD cI cO a FA nC nR nL nF par wt (fun r => nI (sk r)) (fun r => nI (fk r)) hd ur_36.1 ur_36.2 ++ (WF FA ck cf cd cv nx nF ++ (LR cI pb rb cb pv rv kv))) := hD
                        obtain rfl : r_36 = dvI ((dV nC par wt (fun k => hC ck cf cd nF (nI (k * 40 + p * 4 + m)) (nI f)) cv) c) := hr_36
                        refine lv_iload hx hb dL_isKey_333 (lv_at hl 0 rfl) ?_
                        refine lv_icmp_ne (tgt := 379) hx hb dL_isKey_335 (by decide) (fun c_335 => ?_) (fun c_335 => ?_)
                        · skip
                          exact absurd hdue c_335
                        · skip
                          refine lv_iload hx hb dL_isKey_338 (lv_at hl 8 rfl) ?_
                          refine lv_ldc (v := (-99000000)) hx hb hown w_0 dL_isKey_340 ?_
                          refine lv_icmp_ne (tgt := 349) hx hb dL_isKey_342 (by decide) (fun c_342 => ?_) (fun c_342 => ?_)
                          · skip
                            refine lv_iconst (v := 0) hx hb dL_isKey_349 (by decide) ?_
                            refine lv_aload_n hx hb dL_isKey_350 rfl (lv_at hl 15 rfl) ?_
                            refine lv_iconst (v := 1) hx hb dL_isKey_351 (by decide) ?_
                            refine lv_iload_n hx hb dL_isKey_352 rfl (lv_at hl 12 rfl) ?_
                            refine lv_iload hx hb dL_isKey_353 (lv_at hl 11 rfl) ?_
                            refine lv_iload hx hb dL_isKey_355 (lv_at hl 10 rfl) ?_
                            refine lv_iload hx hb dL_isKey_357 (lv_at hl 9 rfl) ?_
                            refine va_calli (vx_runSW (hh := [(0, 27, 28, 19)]) (As := [.ref (a 0), .int 1, .int (nI c), .int (nI p), .int (nI m), .int (nI f)]) (rest := [.int 0]) ⟨hx, hb, hml, hown, hts⟩ (kL_heldD l D cI cZ cO cL dt A a FA nC nR nL nF par wt sk fk hd ur_36.1 ur_36.2 ck cf cd cv nx pb rb cb pv rv kv L c p m f hlt hOk (by omega) (by omega) (by omega) (by omega)) (vx_cwSW 6 hts gL_isKey_L_held rfl rfl rfl (by decide +kernel) ⟨(Nat.le_of_ble_eq_true rfl), (Nat.le_of_ble_eq_true rfl)⟩) (gP.s (hg.on hS) (⟨hP, hD⟩)) rfl rfl hl.1 rfl (lv_room (Nat.le_of_ble_eq_true rfl)) dL_isKey_359 ⟨(Nat.le_of_ble_eq_true rfl), (Nat.le_of_ble_eq_true rfl)⟩) hS (fun q _ h => h) (fun q h => h) (fun r_37 ur_37 tr_37 H locs htr_37 hvmr_37 hr_37 hB hzr_37 hkr_37 hS => ?_)
                            rw [htr_37] at hB
                            obtain ⟨hP, hD⟩ := hB
                            refine W.widen (k := 166) (n := 996) (Nat.le_of_ble_eq_true rfl) (Nat.le_of_ble_eq_true rfl) ?_
                            have hP : va_P D vwCl (WD cI cO a FA nC nR nL nF par wt (fun r => nI (sk r)) (fun r => nI (fk r)) hd ur_36.1 ur_36.2 ++ (WF FA ck cf cd cv nx nF ++ (LR cI pb rb cb pv rv kv))) H := hP
                            have hD : va_D A (WD cI cO a FA nC nR nL nF par wt (fun r => nI (sk r)) (fun r => nI (fk r)) hd ur_36.1 ur_36.2 ++ (WF FA ck cf cd cv nx nF ++ (LR cI pb rb cb pv rv kv))) := hD
                            obtain rfl : r_37 = nI (10 ^ cd j1) := hr_37.trans (by rw [hOj1]; rfl)
                            refine lv_ldc (v := (-99000000)) hx hb hown w_0 dL_isKey_362 ?_
                            refine lv_icmp_ne (tgt := 371) hx hb dL_isKey_364 (by decide) (fun c_364 => ?_) (fun c_364 => ?_)
                            · skip
                              refine lv_iconst (v := 0) hx hb dL_isKey_371 (by decide) ?_
                              refine lv_icmp_ne (tgt := 379) hx hb dL_isKey_372 (by decide) (fun c_372 => ?_) (fun c_372 => ?_)
                              · skip
                                exact absurd c_372 (by decide)
                              · skip
                                refine lv_iconst (v := 1) hx hb dL_isKey_375 (by decide) ?_
                                refine lv_goto (tgt := 380) hx hb dL_isKey_376 (by decide) ?_
                                exact W.widen (k := 170) (n := 1020) (Nat.le_of_ble_eq_true rfl) (Nat.le_of_ble_eq_true rfl) (W.zret (v := 1) hx hb hr (rfl) (fun t ht hW => ⟨⟨1, (ur_36.1, ur_36.2), rfl, rfl, g_PD ht hP hD⟩, hS.F ht⟩) hS.2.2 dL_isKey_380)
                            · skip
                              exact absurd c_364 (dbt_ne (hcd j1))
                          · skip
                            exact absurd c_342 (hcv j1).ne
          · skip
            have hkF : k < nC := by have := mt (nI_leI (a := nC) (b := k) (by omega) (by omega)).mpr c_62; omega
            refine lv_aload_n hx hb dL_isKey_65 rfl (lv_at hl 13 rfl) ?_
            refine lv_iload hx hb dL_isKey_66 (lv_at hl 0 rfl) ?_
            refine g_csi (va_runS (As := [.ref pb, .int (nI k)]) (rest := []) ⟨hx, hb, hml, hown, hts⟩ (kL_under l D cI cZ cO cL dt A a FA nC nR nL nF par wt sk fk hd r9 s9 ck cf cd cv nx pb rb cb pv rv kv L k hpk hC12 hkF) (va_cwS 2 hts gL_isKey_L_under rfl rfl rfl (by decide +kernel) ⟨(Nat.le_of_ble_eq_true rfl), (Nat.le_of_ble_eq_true rfl)⟩) (gP.s (hg.on hS) hP) rfl rfl hl.1 rfl (lv_room (Nat.le_of_ble_eq_true rfl)) dL_isKey_68 ⟨by show 12 * k + 8 + 0 ≤ 170; omega, by show 72 * k + 48 + 0 ≤ 1020; omega⟩) (fun r_38 hr_38 => ?_)
            obtain rfl : r_38 = par k := hr_38
            refine lv_iload_n hx hb dL_isKey_71 rfl (lv_at hl 11 rfl) ?_
            refine lv_icmp_ne (tgt := 220) hx hb dL_isKey_72 (by decide) (fun c_72 => ?_) (fun c_72 => ?_)
            · skip
              refine lv_iinc (v := nI (k + 1)) (lv' := [(14, .int (nI (k + 1))), (13, .int x13), (12, .int x12), (11, .int x11), (10, .int x10), (9, .int x9), (8, .int x8), (7, .int (cv j1)), (6, .int (nI f)), (5, .int (nI m)), (4, .int (nI p)), (3, .int (nI c)), (2, .ref cb), (1, .ref pb), (0, .ref (a 0))]) hx hb dL_isKey_220 hl (k := 0) rfl (nI_1 k) (by decide) rfl (fun ls hl => ?_)
              refine lv_goto (tgt := 57) hx hb dL_isKey_223 (by decide) ?_
              refine W.widen (k := 12 * (k + 1) + 8) (n := 72 * (k + 1) + 48) (by omega) (by omega) ?_
              exact ih_lp (k + 1) r9 s9 x8 x9 x10 x11 x12 x13 _ _ (by omega) (by omega) (by rw [dn_no c_72]; exact e8) (by rw [sn_no c_72]; exact e9) (by rw [cn_no c_72]; exact e10) (by rw [gS_no c_72]; exact e11) (by rw [gG_no c_72]; exact e12) (by rw [gC_no c_72]; exact e13) hP hD hS _ (lv_sub hl [0, 1, 2, 3, 4, 5, 6, 7, 8, 9, 10, 11, 12, 13, 14] rfl)
            · skip
              refine lv_aload_n hx hb dL_isKey_75 rfl (lv_at hl 14 rfl) ?_
              refine lv_iconst (v := 0) hx hb dL_isKey_76 (by decide) ?_
              refine lv_iload hx hb dL_isKey_77 (lv_at hl 0 rfl) ?_
              refine lv_iload hx hb dL_isKey_79 (lv_at hl 10 rfl) ?_
              refine lv_iload hx hb dL_isKey_81 (lv_at hl 9 rfl) ?_
              refine lv_iload hx hb dL_isKey_83 (lv_at hl 8 rfl) ?_
              refine va_calli (vx_runSW (hh := [(0, 27, 28, 19)]) (As := [.ref (a 0), .int 0, .int (nI k), .int (nI p), .int (nI m), .int (nI f)]) (rest := []) ⟨hx, hb, hml, hown, hts⟩ (kL_held l D cI cZ cO cL dt A a FA nC nR nL nF par wt sk fk hd r9 s9 ck cf cd cv nx pb rb cb pv rv kv L k p m f hlt hOk (by omega) (by omega) (by omega) (by omega)) (vx_cwSW 6 hts gL_isKey_L_held rfl rfl rfl (by decide +kernel) ⟨(Nat.le_of_ble_eq_true rfl), (Nat.le_of_ble_eq_true rfl)⟩) (gP.s (hg.on hS) (⟨hP, hD⟩)) rfl rfl hl.1 rfl (lv_room (Nat.le_of_ble_eq_true rfl)) dL_isKey_85 ⟨by show 12 * k + 8 + 4 ≤ 170; omega, by show 72 * k + 48 + 24 ≤ 1020; omega⟩) hS (fun q _ h => h) (fun q h => h) (fun r_39 ur_39 tr_39 H locs htr_39 hvmr_39 hr_39 hB hzr_39 hkr_39 hS => ?_)
              rw [htr_39] at hB
              obtain ⟨hP, hD⟩ := hB
              refine W.widen (k := 12 * k + 12) (n := 72 * k + 72) (by omega) (by omega) ?_
              have hP : va_P D vwCl (WD cI cO a FA nC nR nL nF par wt (fun r => nI (sk r)) (fun r => nI (fk r)) hd r9 s9 ++ (WF FA ck cf cd cv nx nF ++ (LR cI pb rb cb pv rv kv))) H := hP
              have hD : va_D A (WD cI cO a FA nC nR nL nF par wt (fun r => nI (sk r)) (fun r => nI (fk r)) hd r9 s9 ++ (WF FA ck cf cd cv nx nF ++ (LR cI pb rb cb pv rv kv))) := hD
              obtain ⟨o_r_39, hOj2⟩ : ∃ z, hC ck cf cd nF (nI (k * 40 + p * 4 + m)) (nI f) = z := ⟨_, rfl⟩
              rcases o_r_39 with _ | j2
              · skip
                obtain rfl : r_39 = (-99000000) := hr_39.trans (congrArg (hv cv) hOj2)
                refine lv_istore (lv' := [(15, .int (-99000000)), (14, .int (nI k)), (13, .int x13), (12, .int x12), (11, .int x11), (10, .int x10), (9, .int x9), (8, .int x8), (7, .int (cv j1)), (6, .int (nI f)), (5, .int (nI m)), (4, .int (nI p)), (3, .int (nI c)), (2, .ref cb), (1, .ref pb), (0, .ref (a 0))]) hx hb dL_isKey_88 hl (by decide) rfl (fun ls hl => ?_)
                refine lv_aload_n hx hb dL_isKey_90 rfl (lv_at hl 15 rfl) ?_
                refine lv_iload hx hb dL_isKey_91 (lv_at hl 1 rfl) ?_
                refine lv_iload hx hb dL_isKey_93 (lv_at hl 11 rfl) ?_
                refine lv_iload hx hb dL_isKey_95 (lv_at hl 10 rfl) ?_
                refine lv_iload hx hb dL_isKey_97 (lv_at hl 9 rfl) ?_
                refine va_calli (vx_runSW (hh := [(0, 9, 10, 19)]) (As := [.ref (a 0), .int (nI k), .int (nI p), .int (nI m), .int (nI f)]) (rest := []) ⟨hx, hb, hml, hown, hts⟩ (kL_derived l D cI cZ cO cL dt A a FA nC nR nL nF par wt sk fk hd r9 s9 ck cf cd cv nx pb rb cb pv rv kv L k p m f hlt hOk (by omega) hp hm hf) (vx_cwSW 5 hts gL_isKey_L_derived rfl rfl rfl (by decide +kernel) ⟨(Nat.le_of_ble_eq_true rfl), (Nat.le_of_ble_eq_true rfl)⟩) (gP.s (hg.on hS) (⟨hP, hD⟩)) rfl rfl hl.1 rfl (lv_room (Nat.le_of_ble_eq_true rfl)) dL_isKey_99 ⟨by show 12 * k + 12 + 4 ≤ 170; omega, by show 72 * k + 72 + 24 ≤ 1020; omega⟩) hS (fun q _ h => h) (fun q h => h) (fun r_40 ur_40 tr_40 H locs htr_40 hvmr_40 hr_40 hB hzr_40 hkr_40 hS => ?_)
                rw [htr_40] at hB
                obtain ⟨hP, hD⟩ := hB
                refine W.widen (k := 12 * k + 16) (n := 72 * k + 96) (by omega) (by omega) ?_
                have hP : va_P D vwCl (WD cI cO a FA nC nR nL nF par wt (fun r => nI (sk r)) (fun r => nI (fk r)) hd ur_40.1 ur_40.2 ++ (WF FA ck cf cd cv nx nF ++ (LR cI pb rb cb pv rv kv))) H := hP
                have hD : va_D A (WD cI cO a FA nC nR nL nF par wt (fun r => nI (sk r)) (fun r => nI (fk r)) hd ur_40.1 ur_40.2 ++ (WF FA ck cf cd cv nx nF ++ (LR cI pb rb cb pv rv kv))) := hD
                obtain ⟨o_r_40, hD2⟩ : ∃ z, (dV nC par wt (fun k => hC ck cf cd nF (nI (k * 40 + p * 4 + m)) (nI f)) cv) k = z := ⟨_, rfl⟩
                rcases o_r_40 with _ | x2
                · skip
                  obtain rfl : r_40 = (-99000000) := hr_40.trans (congrArg dvI hD2)
                  refine lv_istore (lv' := [(16, .int (-99000000)), (15, .int (-99000000)), (14, .int (nI k)), (13, .int x13), (12, .int x12), (11, .int x11), (10, .int x10), (9, .int x9), (8, .int x8), (7, .int (cv j1)), (6, .int (nI f)), (5, .int (nI m)), (4, .int (nI p)), (3, .int (nI c)), (2, .ref cb), (1, .ref pb), (0, .ref (a 0))]) hx hb dL_isKey_102 hl (by decide) rfl (fun ls hl => ?_)
                  refine lv_iload hx hb dL_isKey_104 (lv_at hl 7 rfl) ?_
                  refine lv_iload hx hb dL_isKey_106 (lv_at hl 1 rfl) ?_
                  refine lv_ldc (v := (-99000000)) hx hb hown w_0 dL_isKey_108 ?_
                  refine lv_icmp_ne (tgt := 117) hx hb dL_isKey_110 (by decide) (fun c_110 => ?_) (fun c_110 => ?_)
                  · skip
                    exact absurd c_110 (by decide)
                  · skip
                    refine lv_iconst (v := 0) hx hb dL_isKey_113 (by decide) ?_
                    refine lv_goto (tgt := 126) hx hb dL_isKey_114 (by decide) ?_
                    refine lv_iadd hx hb dL_isKey_126 ?_
                    refine lv_istore (lv' := [(9, .int (x9 + 0)), (16, .int (-99000000)), (15, .int (-99000000)), (14, .int (nI k)), (13, .int x13), (12, .int x12), (11, .int x11), (10, .int x10), (8, .int x8), (7, .int (cv j1)), (6, .int (nI f)), (5, .int (nI m)), (4, .int (nI p)), (3, .int (nI c)), (2, .ref cb), (1, .ref pb), (0, .ref (a 0))]) hx hb dL_isKey_127 hl (by decide) rfl (fun ls hl => ?_)
                    refine lv_iload hx hb dL_isKey_129 (lv_at hl 8 rfl) ?_
                    refine lv_iload hx hb dL_isKey_131 (lv_at hl 2 rfl) ?_
                    refine lv_ldc (v := (-99000000)) hx hb hown w_0 dL_isKey_133 ?_
                    refine lv_icmp_ne (tgt := 142) hx hb dL_isKey_135 (by decide) (fun c_135 => ?_) (fun c_135 => ?_)
                    · skip
                      exact absurd c_135 (by decide)
                    · skip
                      refine lv_iconst (v := 0) hx hb dL_isKey_138 (by decide) ?_
                      refine lv_goto (tgt := 155) hx hb dL_isKey_139 (by decide) ?_
                      refine lv_iadd hx hb dL_isKey_155 ?_
                      refine lv_istore (lv' := [(8, .int (x8 + 0)), (9, .int (x9 + 0)), (16, .int (-99000000)), (15, .int (-99000000)), (14, .int (nI k)), (13, .int x13), (12, .int x12), (11, .int x11), (10, .int x10), (7, .int (cv j1)), (6, .int (nI f)), (5, .int (nI m)), (4, .int (nI p)), (3, .int (nI c)), (2, .ref cb), (1, .ref pb), (0, .ref (a 0))]) hx hb dL_isKey_156 hl (by decide) rfl (fun ls hl => ?_)
                      refine lv_iload hx hb dL_isKey_158 (lv_at hl 8 rfl) ?_
                      refine lv_iload hx hb dL_isKey_160 (lv_at hl 3 rfl) ?_
                      refine lv_ldc (v := (-99000000)) hx hb hown w_0 dL_isKey_162 ?_
                      refine lv_icmp_ne (tgt := 171) hx hb dL_isKey_164 (by decide) (fun c_164 => ?_) (fun c_164 => ?_)
                      · skip
                        exact absurd c_164 (by decide)
                      · skip
                        refine lv_iconst (v := 0) hx hb dL_isKey_167 (by decide) ?_
                        refine lv_goto (tgt := 172) hx hb dL_isKey_168 (by decide) ?_
                        refine lv_iadd hx hb dL_isKey_172 ?_
                        refine lv_istore (lv' := [(10, .int (x10 + 0)), (8, .int (x8 + 0)), (9, .int (x9 + 0)), (16, .int (-99000000)), (15, .int (-99000000)), (14, .int (nI k)), (13, .int x13), (12, .int x12), (11, .int x11), (7, .int (cv j1)), (6, .int (nI f)), (5, .int (nI m)), (4, .int (nI p)), (3, .int (nI c)), (2, .ref cb), (1, .ref pb), (0, .ref (a 0))]) hx hb dL_isKey_173 hl (by decide) rfl (fun ls hl => ?_)
                        refine lv_iload hx hb dL_isKey_175 (lv_at hl 8 rfl) ?_
                        refine lv_iload hx hb dL_isKey_177 (lv_at hl 3 rfl) ?_
                        refine lv_ldc (v := (-99000000)) hx hb hown w_0 dL_isKey_179 ?_
                        refine lv_icmp_ne (tgt := 188) hx hb dL_isKey_181 (by decide) (fun c_181 => ?_) (fun c_181 => ?_)
                        · skip
                          exact absurd c_181 (by decide)
                        · skip
                          refine lv_iconst (v := 0) hx hb dL_isKey_184 (by decide) ?_
                          refine lv_goto (tgt := 197) hx hb dL_isKey_185 (by decide) ?_
                          refine lv_iadd hx hb dL_isKey_197 ?_
                          refine lv_istore (lv' := [(11, .int (x11 + 0)), (10, .int (x10 + 0)), (8, .int (x8 + 0)), (9, .int (x9 + 0)), (16, .int (-99000000)), (15, .int (-99000000)), (14, .int (nI k)), (13, .int x13), (12, .int x12), (7, .int (cv j1)), (6, .int (nI f)), (5, .int (nI m)), (4, .int (nI p)), (3, .int (nI c)), (2, .ref cb), (1, .ref pb), (0, .ref (a 0))]) hx hb dL_isKey_198 hl (by decide) rfl (fun ls hl => ?_)
                          refine lv_iload hx hb dL_isKey_200 (lv_at hl 8 rfl) ?_
                          refine lv_iload hx hb dL_isKey_202 (lv_at hl 4 rfl) ?_
                          refine lv_ldc (v := (-99000000)) hx hb hown w_0 dL_isKey_204 ?_
                          refine lv_icmp_ne (tgt := 213) hx hb dL_isKey_206 (by decide) (fun c_206 => ?_) (fun c_206 => ?_)
                          · skip
                            exact absurd c_206 (by decide)
                          · skip
                            refine lv_iconst (v := 0) hx hb dL_isKey_209 (by decide) ?_
                            refine lv_goto (tgt := 214) hx hb dL_isKey_210 (by decide) ?_
                            refine lv_iadd hx hb dL_isKey_214 ?_
                            refine lv_istore (lv' := [(12, .int (x12 + 0)), (11, .int (x11 + 0)), (10, .int (x10 + 0)), (8, .int (x8 + 0)), (9, .int (x9 + 0)), (16, .int (-99000000)), (15, .int (-99000000)), (14, .int (nI k)), (13, .int x13), (7, .int (cv j1)), (6, .int (nI f)), (5, .int (nI m)), (4, .int (nI p)), (3, .int (nI c)), (2, .ref cb), (1, .ref pb), (0, .ref (a 0))]) hx hb dL_isKey_215 hl (by decide) rfl (fun ls hl => ?_)
                            refine lv_iinc (v := x13 + 1) (lv' := [(13, .int (x13 + 1)), (12, .int (x12 + 0)), (11, .int (x11 + 0)), (10, .int (x10 + 0)), (8, .int (x8 + 0)), (9, .int (x9 + 0)), (16, .int (-99000000)), (15, .int (-99000000)), (14, .int (nI k)), (7, .int (cv j1)), (6, .int (nI f)), (5, .int (nI m)), (4, .int (nI p)), (3, .int (nI c)), (2, .ref cb), (1, .ref pb), (0, .ref (a 0))]) hx hb dL_isKey_217 hl (k := 8) rfl (rfl) (by decide) rfl (fun ls hl => ?_)
                            refine lv_iinc (v := nI (k + 1)) (lv' := [(14, .int (nI (k + 1))), (13, .int (x13 + 1)), (12, .int (x12 + 0)), (11, .int (x11 + 0)), (10, .int (x10 + 0)), (8, .int (x8 + 0)), (9, .int (x9 + 0)), (16, .int (-99000000)), (15, .int (-99000000)), (7, .int (cv j1)), (6, .int (nI f)), (5, .int (nI m)), (4, .int (nI p)), (3, .int (nI c)), (2, .ref cb), (1, .ref pb), (0, .ref (a 0))]) hx hb dL_isKey_220 hl (k := 8) rfl (nI_1 k) (by decide) rfl (fun ls hl => ?_)
                            refine lv_goto (tgt := 57) hx hb dL_isKey_223 (by decide) ?_
                            refine W.widen (k := 12 * (k + 1) + 8) (n := 72 * (k + 1) + 48) (by omega) (by omega) ?_
                            exact ih_lp (k + 1) ur_40.1 ur_40.2 (x8 + 0) (x9 + 0) (x10 + 0) (x11 + 0) (x12 + 0) (x13 + 1) _ _ (by omega) (by omega) (by rw [dn_none (h := (fun k => hC ck cf cd nF (nI (k * 40 + p * 4 + m)) (nI f))) hOj2, e8]; exact Int32.add_zero _) (by rw [sn_none (h := (fun k => hC ck cf cd nF (nI (k * 40 + p * 4 + m)) (nI f))) hOj2, e9]; exact Int32.add_zero _) (by rw [cn_none (h := (fun k => hC ck cf cd nF (nI (k * 40 + p * 4 + m)) (nI f))) hOj2, e10]; exact Int32.add_zero _) (by rw [gS_none hD2, e11]; exact Int32.add_zero _) (by rw [gG_none hD2, e12]; exact Int32.add_zero _) (by rw [gC_yes c_72, e13]; exact nI_1 _) hP hD hS _ (lv_sub hl [0, 1, 2, 3, 4, 6, 5, 9, 10, 11, 12, 13, 14, 15, 16] rfl)
                · skip
                  obtain rfl : x2 = r_40 := (hr_40.trans (congrArg dvI hD2)).symm
                  refine lv_istore (lv' := [(16, .int x2), (15, .int (-99000000)), (14, .int (nI k)), (13, .int x13), (12, .int x12), (11, .int x11), (10, .int x10), (9, .int x9), (8, .int x8), (7, .int (cv j1)), (6, .int (nI f)), (5, .int (nI m)), (4, .int (nI p)), (3, .int (nI c)), (2, .ref cb), (1, .ref pb), (0, .ref (a 0))]) hx hb dL_isKey_102 hl (by decide) rfl (fun ls hl => ?_)
                  refine lv_iload hx hb dL_isKey_104 (lv_at hl 7 rfl) ?_
                  refine lv_iload hx hb dL_isKey_106 (lv_at hl 1 rfl) ?_
                  refine lv_ldc (v := (-99000000)) hx hb hown w_0 dL_isKey_108 ?_
                  refine lv_icmp_ne (tgt := 117) hx hb dL_isKey_110 (by decide) (fun c_110 => ?_) (fun c_110 => ?_)
                  · skip
                    exact absurd c_110 (by decide)
                  · skip
                    refine lv_iconst (v := 0) hx hb dL_isKey_113 (by decide) ?_
                    refine lv_goto (tgt := 126) hx hb dL_isKey_114 (by decide) ?_
                    refine lv_iadd hx hb dL_isKey_126 ?_
                    refine lv_istore (lv' := [(9, .int (x9 + 0)), (16, .int x2), (15, .int (-99000000)), (14, .int (nI k)), (13, .int x13), (12, .int x12), (11, .int x11), (10, .int x10), (8, .int x8), (7, .int (cv j1)), (6, .int (nI f)), (5, .int (nI m)), (4, .int (nI p)), (3, .int (nI c)), (2, .ref cb), (1, .ref pb), (0, .ref (a 0))]) hx hb dL_isKey_127 hl (by decide) rfl (fun ls hl => ?_)
                    refine lv_iload hx hb dL_isKey_129 (lv_at hl 8 rfl) ?_
                    refine lv_iload hx hb dL_isKey_131 (lv_at hl 2 rfl) ?_
                    refine lv_ldc (v := (-99000000)) hx hb hown w_0 dL_isKey_133 ?_
                    refine lv_icmp_ne (tgt := 142) hx hb dL_isKey_135 (by decide) (fun c_135 => ?_) (fun c_135 => ?_)
                    · skip
                      exact absurd c_135 (by decide)
                    · skip
                      refine lv_iconst (v := 0) hx hb dL_isKey_138 (by decide) ?_
                      refine lv_goto (tgt := 155) hx hb dL_isKey_139 (by decide) ?_
                      refine lv_iadd hx hb dL_isKey_155 ?_
                      refine lv_istore (lv' := [(8, .int (x8 + 0)), (9, .int (x9 + 0)), (16, .int x2), (15, .int (-99000000)), (14, .int (nI k)), (13, .int x13), (12, .int x12), (11, .int x11), (10, .int x10), (7, .int (cv j1)), (6, .int (nI f)), (5, .int (nI m)), (4, .int (nI p)), (3, .int (nI c)), (2, .ref cb), (1, .ref pb), (0, .ref (a 0))]) hx hb dL_isKey_156 hl (by decide) rfl (fun ls hl => ?_)
                      refine lv_iload hx hb dL_isKey_158 (lv_at hl 8 rfl) ?_
                      refine lv_iload hx hb dL_isKey_160 (lv_at hl 3 rfl) ?_
                      refine lv_ldc (v := (-99000000)) hx hb hown w_0 dL_isKey_162 ?_
                      refine lv_icmp_ne (tgt := 171) hx hb dL_isKey_164 (by decide) (fun c_164 => ?_) (fun c_164 => ?_)
                      · skip
                        exact absurd c_164 (by decide)
                      · skip
                        refine lv_iconst (v := 0) hx hb dL_isKey_167 (by decide) ?_
                        refine lv_goto (tgt := 172) hx hb dL_isKey_168 (by decide) ?_
                        refine lv_iadd hx hb dL_isKey_172 ?_
                        refine lv_istore (lv' := [(10, .int (x10 + 0)), (8, .int (x8 + 0)), (9, .int (x9 + 0)), (16, .int x2), (15, .int (-99000000)), (14, .int (nI k)), (13, .int x13), (12, .int x12), (11, .int x11), (7, .int (cv j1)), (6, .int (nI f)), (5, .int (nI m)), (4, .int (nI p)), (3, .int (nI c)), (2, .ref cb), (1, .ref pb), (0, .ref (a 0))]) hx hb dL_isKey_173 hl (by decide) rfl (fun ls hl => ?_)
                        refine lv_iload hx hb dL_isKey_175 (lv_at hl 8 rfl) ?_
                        refine lv_iload hx hb dL_isKey_177 (lv_at hl 3 rfl) ?_
                        refine lv_ldc (v := (-99000000)) hx hb hown w_0 dL_isKey_179 ?_
                        refine lv_icmp_ne (tgt := 188) hx hb dL_isKey_181 (by decide) (fun c_181 => ?_) (fun c_181 => ?_)
                        · skip
                          refine lv_aload_n hx hb dL_isKey_188 rfl (lv_at hl 15 rfl) ?_
                          refine lv_iload hx hb dL_isKey_189 (lv_at hl 5 rfl) ?_
                          refine g_csi (va_runS (As := [.ref pb, .int (nI k)]) (rest := [.int x11]) ⟨hx, hb, hml, hown, hts⟩ (kL_weight l D cI cZ cO cL dt A a FA nC nR nL nF par wt sk fk hd ur_40.1 ur_40.2 ck cf cd cv nx pb rb cb pv rv kv L k c hpk hC12 hkF (by omega) c_72) (va_cwS 2 hts gL_isKey_L_weight rfl rfl rfl (by decide +kernel) ⟨(Nat.le_of_ble_eq_true rfl), (Nat.le_of_ble_eq_true rfl)⟩) (gP.s (hg.on hS) hP) rfl rfl hl.1 rfl (lv_room (Nat.le_of_ble_eq_true rfl)) dL_isKey_191 ⟨by show 12 * k + 16 + 0 ≤ 170; omega, by show 72 * k + 96 + 0 ≤ 1020; omega⟩) (fun r_41 hr_41 => ?_)
                          obtain rfl : r_41 = wt k := hr_41
                          refine lv_iload hx hb dL_isKey_194 (lv_at hl 3 rfl) ?_
                          refine lv_imul hx hb dL_isKey_196 ?_
                          refine lv_iadd hx hb dL_isKey_197 ?_
                          refine lv_istore (lv' := [(11, .int (x11 + ((wt k) * x2))), (10, .int (x10 + 0)), (8, .int (x8 + 0)), (9, .int (x9 + 0)), (16, .int x2), (15, .int (-99000000)), (14, .int (nI k)), (13, .int x13), (12, .int x12), (7, .int (cv j1)), (6, .int (nI f)), (5, .int (nI m)), (4, .int (nI p)), (3, .int (nI c)), (2, .ref cb), (1, .ref pb), (0, .ref (a 0))]) hx hb dL_isKey_198 hl (by decide) rfl (fun ls hl => ?_)
                          refine lv_iload hx hb dL_isKey_200 (lv_at hl 8 rfl) ?_
                          refine lv_iload hx hb dL_isKey_202 (lv_at hl 4 rfl) ?_
                          refine lv_ldc (v := (-99000000)) hx hb hown w_0 dL_isKey_204 ?_
                          refine lv_icmp_ne (tgt := 213) hx hb dL_isKey_206 (by decide) (fun c_206 => ?_) (fun c_206 => ?_)
                          · skip
                            refine lv_iconst (v := 1) hx hb dL_isKey_213 (by decide) ?_
                            refine lv_iadd hx hb dL_isKey_214 ?_
                            refine lv_istore (lv' := [(12, .int (x12 + 1)), (11, .int (x11 + ((wt k) * x2))), (10, .int (x10 + 0)), (8, .int (x8 + 0)), (9, .int (x9 + 0)), (16, .int x2), (15, .int (-99000000)), (14, .int (nI k)), (13, .int x13), (7, .int (cv j1)), (6, .int (nI f)), (5, .int (nI m)), (4, .int (nI p)), (3, .int (nI c)), (2, .ref cb), (1, .ref pb), (0, .ref (a 0))]) hx hb dL_isKey_215 hl (by decide) rfl (fun ls hl => ?_)
                            refine lv_iinc (v := x13 + 1) (lv' := [(13, .int (x13 + 1)), (12, .int (x12 + 1)), (11, .int (x11 + ((wt k) * x2))), (10, .int (x10 + 0)), (8, .int (x8 + 0)), (9, .int (x9 + 0)), (16, .int x2), (15, .int (-99000000)), (14, .int (nI k)), (7, .int (cv j1)), (6, .int (nI f)), (5, .int (nI m)), (4, .int (nI p)), (3, .int (nI c)), (2, .ref cb), (1, .ref pb), (0, .ref (a 0))]) hx hb dL_isKey_217 hl (k := 8) rfl (rfl) (by decide) rfl (fun ls hl => ?_)
                            refine lv_iinc (v := nI (k + 1)) (lv' := [(14, .int (nI (k + 1))), (13, .int (x13 + 1)), (12, .int (x12 + 1)), (11, .int (x11 + ((wt k) * x2))), (10, .int (x10 + 0)), (8, .int (x8 + 0)), (9, .int (x9 + 0)), (16, .int x2), (15, .int (-99000000)), (7, .int (cv j1)), (6, .int (nI f)), (5, .int (nI m)), (4, .int (nI p)), (3, .int (nI c)), (2, .ref cb), (1, .ref pb), (0, .ref (a 0))]) hx hb dL_isKey_220 hl (k := 8) rfl (nI_1 k) (by decide) rfl (fun ls hl => ?_)
                            refine lv_goto (tgt := 57) hx hb dL_isKey_223 (by decide) ?_
                            refine W.widen (k := 12 * (k + 1) + 8) (n := 72 * (k + 1) + 48) (by omega) (by omega) ?_
                            exact ih_lp (k + 1) ur_40.1 ur_40.2 (x8 + 0) (x9 + 0) (x10 + 0) (x11 + ((wt k) * x2)) (x12 + 1) (x13 + 1) _ _ (by omega) (by omega) (by rw [dn_none (h := (fun k => hC ck cf cd nF (nI (k * 40 + p * 4 + m)) (nI f))) hOj2, e8]; exact Int32.add_zero _) (by rw [sn_none (h := (fun k => hC ck cf cd nF (nI (k * 40 + p * 4 + m)) (nI f))) hOj2, e9]; exact Int32.add_zero _) (by rw [cn_none (h := (fun k => hC ck cf cd nF (nI (k * 40 + p * 4 + m)) (nI f))) hOj2, e10]; exact Int32.add_zero _) (by rw [gS_some c_72 hD2, e11]) (by rw [gG_some c_72 hD2, e12]; exact nI_1 _) (by rw [gC_yes c_72, e13]; exact nI_1 _) hP hD hS _ (lv_sub hl [0, 1, 2, 3, 4, 6, 5, 9, 10, 11, 12, 13, 14, 15, 16] rfl)
                          · skip
                            exact absurd c_206 (dV_ne hT hC12 hkF hwt hcv hD2)
                        · skip
                          exact absurd c_181 (dV_ne hT hC12 hkF hwt hcv hD2)
              · skip
                obtain rfl : r_39 = cv j2 := hr_39.trans (congrArg (hv cv) hOj2)
                refine lv_istore (lv' := [(15, .int (cv j2)), (14, .int (nI k)), (13, .int x13), (12, .int x12), (11, .int x11), (10, .int x10), (9, .int x9), (8, .int x8), (7, .int (cv j1)), (6, .int (nI f)), (5, .int (nI m)), (4, .int (nI p)), (3, .int (nI c)), (2, .ref cb), (1, .ref pb), (0, .ref (a 0))]) hx hb dL_isKey_88 hl (by decide) rfl (fun ls hl => ?_)
                refine lv_aload_n hx hb dL_isKey_90 rfl (lv_at hl 15 rfl) ?_
                refine lv_iload hx hb dL_isKey_91 (lv_at hl 1 rfl) ?_
                refine lv_iload hx hb dL_isKey_93 (lv_at hl 11 rfl) ?_
                refine lv_iload hx hb dL_isKey_95 (lv_at hl 10 rfl) ?_
                refine lv_iload hx hb dL_isKey_97 (lv_at hl 9 rfl) ?_
                refine va_calli (vx_runSW (hh := [(0, 9, 10, 19)]) (As := [.ref (a 0), .int (nI k), .int (nI p), .int (nI m), .int (nI f)]) (rest := []) ⟨hx, hb, hml, hown, hts⟩ (kL_derived l D cI cZ cO cL dt A a FA nC nR nL nF par wt sk fk hd r9 s9 ck cf cd cv nx pb rb cb pv rv kv L k p m f hlt hOk (by omega) hp hm hf) (vx_cwSW 5 hts gL_isKey_L_derived rfl rfl rfl (by decide +kernel) ⟨(Nat.le_of_ble_eq_true rfl), (Nat.le_of_ble_eq_true rfl)⟩) (gP.s (hg.on hS) (⟨hP, hD⟩)) rfl rfl hl.1 rfl (lv_room (Nat.le_of_ble_eq_true rfl)) dL_isKey_99 ⟨by show 12 * k + 12 + 4 ≤ 170; omega, by show 72 * k + 72 + 24 ≤ 1020; omega⟩) hS (fun q _ h => h) (fun q h => h) (fun r_42 ur_42 tr_42 H locs htr_42 hvmr_42 hr_42 hB hzr_42 hkr_42 hS => ?_)
                rw [htr_42] at hB
                obtain ⟨hP, hD⟩ := hB
                refine W.widen (k := 12 * k + 16) (n := 72 * k + 96) (by omega) (by omega) ?_
                have hP : va_P D vwCl (WD cI cO a FA nC nR nL nF par wt (fun r => nI (sk r)) (fun r => nI (fk r)) hd ur_42.1 ur_42.2 ++ (WF FA ck cf cd cv nx nF ++ (LR cI pb rb cb pv rv kv))) H := hP
                have hD : va_D A (WD cI cO a FA nC nR nL nF par wt (fun r => nI (sk r)) (fun r => nI (fk r)) hd ur_42.1 ur_42.2 ++ (WF FA ck cf cd cv nx nF ++ (LR cI pb rb cb pv rv kv))) := hD
                obtain ⟨o_r_42, hD2⟩ : ∃ z, (dV nC par wt (fun k => hC ck cf cd nF (nI (k * 40 + p * 4 + m)) (nI f)) cv) k = z := ⟨_, rfl⟩
                rcases o_r_42 with _ | x2
                · skip
                  obtain rfl : r_42 = (-99000000) := hr_42.trans (congrArg dvI hD2)
                  refine lv_istore (lv' := [(16, .int (-99000000)), (15, .int (cv j2)), (14, .int (nI k)), (13, .int x13), (12, .int x12), (11, .int x11), (10, .int x10), (9, .int x9), (8, .int x8), (7, .int (cv j1)), (6, .int (nI f)), (5, .int (nI m)), (4, .int (nI p)), (3, .int (nI c)), (2, .ref cb), (1, .ref pb), (0, .ref (a 0))]) hx hb dL_isKey_102 hl (by decide) rfl (fun ls hl => ?_)
                  refine lv_iload hx hb dL_isKey_104 (lv_at hl 7 rfl) ?_
                  refine lv_iload hx hb dL_isKey_106 (lv_at hl 1 rfl) ?_
                  refine lv_ldc (v := (-99000000)) hx hb hown w_0 dL_isKey_108 ?_
                  refine lv_icmp_ne (tgt := 117) hx hb dL_isKey_110 (by decide) (fun c_110 => ?_) (fun c_110 => ?_)
                  · skip
                    refine lv_aload_n hx hb dL_isKey_117 rfl (lv_at hl 15 rfl) ?_
                    refine lv_iload hx hb dL_isKey_118 (lv_at hl 2 rfl) ?_
                    refine g_csi (va_runS (As := [.ref pb, .int (nI k)]) (rest := [.int x9]) ⟨hx, hb, hml, hown, hts⟩ (kL_weight l D cI cZ cO cL dt A a FA nC nR nL nF par wt sk fk hd ur_42.1 ur_42.2 ck cf cd cv nx pb rb cb pv rv kv L k c hpk hC12 hkF (by omega) c_72) (va_cwS 2 hts gL_isKey_L_weight rfl rfl rfl (by decide +kernel) ⟨(Nat.le_of_ble_eq_true rfl), (Nat.le_of_ble_eq_true rfl)⟩) (gP.s (hg.on hS) hP) rfl rfl hl.1 rfl (lv_room (Nat.le_of_ble_eq_true rfl)) dL_isKey_120 ⟨by show 12 * k + 16 + 0 ≤ 170; omega, by show 72 * k + 96 + 0 ≤ 1020; omega⟩) (fun r_43 hr_43 => ?_)
                    obtain rfl : r_43 = wt k := hr_43
                    refine lv_iload hx hb dL_isKey_123 (lv_at hl 1 rfl) ?_
                    refine lv_imul hx hb dL_isKey_125 ?_
                    refine lv_iadd hx hb dL_isKey_126 ?_
                    refine lv_istore (lv' := [(9, .int (x9 + ((wt k) * (cv j2)))), (16, .int (-99000000)), (15, .int (cv j2)), (14, .int (nI k)), (13, .int x13), (12, .int x12), (11, .int x11), (10, .int x10), (8, .int x8), (7, .int (cv j1)), (6, .int (nI f)), (5, .int (nI m)), (4, .int (nI p)), (3, .int (nI c)), (2, .ref cb), (1, .ref pb), (0, .ref (a 0))]) hx hb dL_isKey_127 hl (by decide) rfl (fun ls hl => ?_)
                    refine lv_iload hx hb dL_isKey_129 (lv_at hl 8 rfl) ?_
                    refine lv_iload hx hb dL_isKey_131 (lv_at hl 2 rfl) ?_
                    refine lv_ldc (v := (-99000000)) hx hb hown w_0 dL_isKey_133 ?_
                    refine lv_icmp_ne (tgt := 142) hx hb dL_isKey_135 (by decide) (fun c_135 => ?_) (fun c_135 => ?_)
                    · skip
                      refine lv_aload_n hx hb dL_isKey_142 rfl (lv_at hl 16 rfl) ?_
                      refine lv_iconst (v := 1) hx hb dL_isKey_143 (by decide) ?_
                      refine lv_iload hx hb dL_isKey_144 (lv_at hl 3 rfl) ?_
                      refine lv_iload hx hb dL_isKey_146 (lv_at hl 12 rfl) ?_
                      refine lv_iload hx hb dL_isKey_148 (lv_at hl 11 rfl) ?_
                      refine lv_iload hx hb dL_isKey_150 (lv_at hl 10 rfl) ?_
                      refine va_calli (vx_runSW (hh := [(0, 27, 28, 19)]) (As := [.ref (a 0), .int 1, .int (nI k), .int (nI p), .int (nI m), .int (nI f)]) (rest := [.int x8]) ⟨hx, hb, hml, hown, hts⟩ (kL_heldD l D cI cZ cO cL dt A a FA nC nR nL nF par wt sk fk hd ur_42.1 ur_42.2 ck cf cd cv nx pb rb cb pv rv kv L k p m f hlt hOk (by omega) (by omega) (by omega) (by omega)) (vx_cwSW 6 hts gL_isKey_L_held rfl rfl rfl (by decide +kernel) ⟨(Nat.le_of_ble_eq_true rfl), (Nat.le_of_ble_eq_true rfl)⟩) (gP.s (hg.on hS) (⟨hP, hD⟩)) rfl rfl hl.1 rfl (lv_room (Nat.le_of_ble_eq_true rfl)) dL_isKey_152 ⟨by show 12 * k + 16 + 4 ≤ 170; omega, by show 72 * k + 96 + 24 ≤ 1020; omega⟩) hS (fun q _ h => h) (fun q h => h) (fun r_44 ur_44 tr_44 H locs htr_44 hvmr_44 hr_44 hB hzr_44 hkr_44 hS => ?_)
                      rw [htr_44] at hB
                      obtain ⟨hP, hD⟩ := hB
                      refine W.widen (k := 12 * k + 20) (n := 72 * k + 120) (by omega) (by omega) ?_
                      have hP : va_P D vwCl (WD cI cO a FA nC nR nL nF par wt (fun r => nI (sk r)) (fun r => nI (fk r)) hd ur_42.1 ur_42.2 ++ (WF FA ck cf cd cv nx nF ++ (LR cI pb rb cb pv rv kv))) H := hP
                      have hD : va_D A (WD cI cO a FA nC nR nL nF par wt (fun r => nI (sk r)) (fun r => nI (fk r)) hd ur_42.1 ur_42.2 ++ (WF FA ck cf cd cv nx nF ++ (LR cI pb rb cb pv rv kv))) := hD
                      obtain rfl : r_44 = nI (10 ^ cd j2) := hr_44.trans (by rw [hOj2]; rfl)
                      refine lv_iadd hx hb dL_isKey_155 ?_
                      refine lv_istore (lv' := [(8, .int (x8 + (nI (10 ^ cd j2)))), (9, .int (x9 + ((wt k) * (cv j2)))), (16, .int (-99000000)), (15, .int (cv j2)), (14, .int (nI k)), (13, .int x13), (12, .int x12), (11, .int x11), (10, .int x10), (7, .int (cv j1)), (6, .int (nI f)), (5, .int (nI m)), (4, .int (nI p)), (3, .int (nI c)), (2, .ref cb), (1, .ref pb), (0, .ref (a 0))]) hx hb dL_isKey_156 hl (by decide) rfl (fun ls hl => ?_)
                      refine lv_iload hx hb dL_isKey_158 (lv_at hl 8 rfl) ?_
                      refine lv_iload hx hb dL_isKey_160 (lv_at hl 3 rfl) ?_
                      refine lv_ldc (v := (-99000000)) hx hb hown w_0 dL_isKey_162 ?_
                      refine lv_icmp_ne (tgt := 171) hx hb dL_isKey_164 (by decide) (fun c_164 => ?_) (fun c_164 => ?_)
                      · skip
                        refine lv_iconst (v := 1) hx hb dL_isKey_171 (by decide) ?_
                        refine lv_iadd hx hb dL_isKey_172 ?_
                        refine lv_istore (lv' := [(10, .int (x10 + 1)), (8, .int (x8 + (nI (10 ^ cd j2)))), (9, .int (x9 + ((wt k) * (cv j2)))), (16, .int (-99000000)), (15, .int (cv j2)), (14, .int (nI k)), (13, .int x13), (12, .int x12), (11, .int x11), (7, .int (cv j1)), (6, .int (nI f)), (5, .int (nI m)), (4, .int (nI p)), (3, .int (nI c)), (2, .ref cb), (1, .ref pb), (0, .ref (a 0))]) hx hb dL_isKey_173 hl (by decide) rfl (fun ls hl => ?_)
                        refine lv_iload hx hb dL_isKey_175 (lv_at hl 8 rfl) ?_
                        refine lv_iload hx hb dL_isKey_177 (lv_at hl 3 rfl) ?_
                        refine lv_ldc (v := (-99000000)) hx hb hown w_0 dL_isKey_179 ?_
                        refine lv_icmp_ne (tgt := 188) hx hb dL_isKey_181 (by decide) (fun c_181 => ?_) (fun c_181 => ?_)
                        · skip
                          exact absurd c_181 (by decide)
                        · skip
                          refine lv_iconst (v := 0) hx hb dL_isKey_184 (by decide) ?_
                          refine lv_goto (tgt := 197) hx hb dL_isKey_185 (by decide) ?_
                          refine lv_iadd hx hb dL_isKey_197 ?_
                          refine lv_istore (lv' := [(11, .int (x11 + 0)), (10, .int (x10 + 1)), (8, .int (x8 + (nI (10 ^ cd j2)))), (9, .int (x9 + ((wt k) * (cv j2)))), (16, .int (-99000000)), (15, .int (cv j2)), (14, .int (nI k)), (13, .int x13), (12, .int x12), (7, .int (cv j1)), (6, .int (nI f)), (5, .int (nI m)), (4, .int (nI p)), (3, .int (nI c)), (2, .ref cb), (1, .ref pb), (0, .ref (a 0))]) hx hb dL_isKey_198 hl (by decide) rfl (fun ls hl => ?_)
                          refine lv_iload hx hb dL_isKey_200 (lv_at hl 8 rfl) ?_
                          refine lv_iload hx hb dL_isKey_202 (lv_at hl 4 rfl) ?_
                          refine lv_ldc (v := (-99000000)) hx hb hown w_0 dL_isKey_204 ?_
                          refine lv_icmp_ne (tgt := 213) hx hb dL_isKey_206 (by decide) (fun c_206 => ?_) (fun c_206 => ?_)
                          · skip
                            exact absurd c_206 (by decide)
                          · skip
                            refine lv_iconst (v := 0) hx hb dL_isKey_209 (by decide) ?_
                            refine lv_goto (tgt := 214) hx hb dL_isKey_210 (by decide) ?_
                            refine lv_iadd hx hb dL_isKey_214 ?_
                            refine lv_istore (lv' := [(12, .int (x12 + 0)), (11, .int (x11 + 0)), (10, .int (x10 + 1)), (8, .int (x8 + (nI (10 ^ cd j2)))), (9, .int (x9 + ((wt k) * (cv j2)))), (16, .int (-99000000)), (15, .int (cv j2)), (14, .int (nI k)), (13, .int x13), (7, .int (cv j1)), (6, .int (nI f)), (5, .int (nI m)), (4, .int (nI p)), (3, .int (nI c)), (2, .ref cb), (1, .ref pb), (0, .ref (a 0))]) hx hb dL_isKey_215 hl (by decide) rfl (fun ls hl => ?_)
                            refine lv_iinc (v := x13 + 1) (lv' := [(13, .int (x13 + 1)), (12, .int (x12 + 0)), (11, .int (x11 + 0)), (10, .int (x10 + 1)), (8, .int (x8 + (nI (10 ^ cd j2)))), (9, .int (x9 + ((wt k) * (cv j2)))), (16, .int (-99000000)), (15, .int (cv j2)), (14, .int (nI k)), (7, .int (cv j1)), (6, .int (nI f)), (5, .int (nI m)), (4, .int (nI p)), (3, .int (nI c)), (2, .ref cb), (1, .ref pb), (0, .ref (a 0))]) hx hb dL_isKey_217 hl (k := 8) rfl (rfl) (by decide) rfl (fun ls hl => ?_)
                            refine lv_iinc (v := nI (k + 1)) (lv' := [(14, .int (nI (k + 1))), (13, .int (x13 + 1)), (12, .int (x12 + 0)), (11, .int (x11 + 0)), (10, .int (x10 + 1)), (8, .int (x8 + (nI (10 ^ cd j2)))), (9, .int (x9 + ((wt k) * (cv j2)))), (16, .int (-99000000)), (15, .int (cv j2)), (7, .int (cv j1)), (6, .int (nI f)), (5, .int (nI m)), (4, .int (nI p)), (3, .int (nI c)), (2, .ref cb), (1, .ref pb), (0, .ref (a 0))]) hx hb dL_isKey_220 hl (k := 8) rfl (nI_1 k) (by decide) rfl (fun ls hl => ?_)
                            refine lv_goto (tgt := 57) hx hb dL_isKey_223 (by decide) ?_
                            refine W.widen (k := 12 * (k + 1) + 8) (n := 72 * (k + 1) + 48) (by omega) (by omega) ?_
                            exact ih_lp (k + 1) ur_42.1 ur_42.2 (x8 + (nI (10 ^ cd j2))) (x9 + ((wt k) * (cv j2))) (x10 + 1) (x11 + 0) (x12 + 0) (x13 + 1) _ _ (by omega) (by omega) (by rw [dn_some (h := (fun k => hC ck cf cd nF (nI (k * 40 + p * 4 + m)) (nI f))) c_72 hOj2, e8]; exact Int32.add_assoc _ _ _) (by rw [sn_some (h := (fun k => hC ck cf cd nF (nI (k * 40 + p * 4 + m)) (nI f))) c_72 hOj2, e9]) (by rw [cn_some (h := (fun k => hC ck cf cd nF (nI (k * 40 + p * 4 + m)) (nI f))) c_72 hOj2, e10]; exact nI_1 _) (by rw [gS_none hD2, e11]; exact Int32.add_zero _) (by rw [gG_none hD2, e12]; exact Int32.add_zero _) (by rw [gC_yes c_72, e13]; exact nI_1 _) hP hD hS _ (lv_sub hl [0, 1, 2, 3, 4, 6, 5, 9, 10, 11, 12, 13, 14, 15, 16] rfl)
                      · skip
                        exact absurd c_164 (hcv j2).ne
                    · skip
                      exact absurd c_135 (hcv j2).ne
                  · skip
                    exact absurd c_110 (hcv j2).ne
                · skip
                  obtain rfl : x2 = r_42 := (hr_42.trans (congrArg dvI hD2)).symm
                  refine lv_istore (lv' := [(16, .int x2), (15, .int (cv j2)), (14, .int (nI k)), (13, .int x13), (12, .int x12), (11, .int x11), (10, .int x10), (9, .int x9), (8, .int x8), (7, .int (cv j1)), (6, .int (nI f)), (5, .int (nI m)), (4, .int (nI p)), (3, .int (nI c)), (2, .ref cb), (1, .ref pb), (0, .ref (a 0))]) hx hb dL_isKey_102 hl (by decide) rfl (fun ls hl => ?_)
                  refine lv_iload hx hb dL_isKey_104 (lv_at hl 7 rfl) ?_
                  refine lv_iload hx hb dL_isKey_106 (lv_at hl 1 rfl) ?_
                  refine lv_ldc (v := (-99000000)) hx hb hown w_0 dL_isKey_108 ?_
                  refine lv_icmp_ne (tgt := 117) hx hb dL_isKey_110 (by decide) (fun c_110 => ?_) (fun c_110 => ?_)
                  · skip
                    refine lv_aload_n hx hb dL_isKey_117 rfl (lv_at hl 15 rfl) ?_
                    refine lv_iload hx hb dL_isKey_118 (lv_at hl 2 rfl) ?_
                    refine g_csi (va_runS (As := [.ref pb, .int (nI k)]) (rest := [.int x9]) ⟨hx, hb, hml, hown, hts⟩ (kL_weight l D cI cZ cO cL dt A a FA nC nR nL nF par wt sk fk hd ur_42.1 ur_42.2 ck cf cd cv nx pb rb cb pv rv kv L k c hpk hC12 hkF (by omega) c_72) (va_cwS 2 hts gL_isKey_L_weight rfl rfl rfl (by decide +kernel) ⟨(Nat.le_of_ble_eq_true rfl), (Nat.le_of_ble_eq_true rfl)⟩) (gP.s (hg.on hS) hP) rfl rfl hl.1 rfl (lv_room (Nat.le_of_ble_eq_true rfl)) dL_isKey_120 ⟨by show 12 * k + 16 + 0 ≤ 170; omega, by show 72 * k + 96 + 0 ≤ 1020; omega⟩) (fun r_45 hr_45 => ?_)
                    obtain rfl : r_45 = wt k := hr_45
                    refine lv_iload hx hb dL_isKey_123 (lv_at hl 1 rfl) ?_
                    refine lv_imul hx hb dL_isKey_125 ?_
                    refine lv_iadd hx hb dL_isKey_126 ?_
                    refine lv_istore (lv' := [(9, .int (x9 + ((wt k) * (cv j2)))), (16, .int x2), (15, .int (cv j2)), (14, .int (nI k)), (13, .int x13), (12, .int x12), (11, .int x11), (10, .int x10), (8, .int x8), (7, .int (cv j1)), (6, .int (nI f)), (5, .int (nI m)), (4, .int (nI p)), (3, .int (nI c)), (2, .ref cb), (1, .ref pb), (0, .ref (a 0))]) hx hb dL_isKey_127 hl (by decide) rfl (fun ls hl => ?_)
                    refine lv_iload hx hb dL_isKey_129 (lv_at hl 8 rfl) ?_
                    refine lv_iload hx hb dL_isKey_131 (lv_at hl 2 rfl) ?_
                    refine lv_ldc (v := (-99000000)) hx hb hown w_0 dL_isKey_133 ?_
                    refine lv_icmp_ne (tgt := 142) hx hb dL_isKey_135 (by decide) (fun c_135 => ?_) (fun c_135 => ?_)
                    · skip
                      refine lv_aload_n hx hb dL_isKey_142 rfl (lv_at hl 16 rfl) ?_
                      refine lv_iconst (v := 1) hx hb dL_isKey_143 (by decide) ?_
                      refine lv_iload hx hb dL_isKey_144 (lv_at hl 3 rfl) ?_
                      refine lv_iload hx hb dL_isKey_146 (lv_at hl 12 rfl) ?_
                      refine lv_iload hx hb dL_isKey_148 (lv_at hl 11 rfl) ?_
                      refine lv_iload hx hb dL_isKey_150 (lv_at hl 10 rfl) ?_
                      refine va_calli (vx_runSW (hh := [(0, 27, 28, 19)]) (As := [.ref (a 0), .int 1, .int (nI k), .int (nI p), .int (nI m), .int (nI f)]) (rest := [.int x8]) ⟨hx, hb, hml, hown, hts⟩ (kL_heldD l D cI cZ cO cL dt A a FA nC nR nL nF par wt sk fk hd ur_42.1 ur_42.2 ck cf cd cv nx pb rb cb pv rv kv L k p m f hlt hOk (by omega) (by omega) (by omega) (by omega)) (vx_cwSW 6 hts gL_isKey_L_held rfl rfl rfl (by decide +kernel) ⟨(Nat.le_of_ble_eq_true rfl), (Nat.le_of_ble_eq_true rfl)⟩) (gP.s (hg.on hS) (⟨hP, hD⟩)) rfl rfl hl.1 rfl (lv_room (Nat.le_of_ble_eq_true rfl)) dL_isKey_152 ⟨by show 12 * k + 16 + 4 ≤ 170; omega, by show 72 * k + 96 + 24 ≤ 1020; omega⟩) hS (fun q _ h => h) (fun q h => h) (fun r_46 ur_46 tr_46 H locs htr_46 hvmr_46 hr_46 hB hzr_46 hkr_46 hS => ?_)
                      rw [htr_46] at hB
                      obtain ⟨hP, hD⟩ := hB
                      refine W.widen (k := 12 * k + 20) (n := 72 * k + 120) (by omega) (by omega) ?_
                      have hP : va_P D vwCl (WD cI cO a FA nC nR nL nF par wt (fun r => nI (sk r)) (fun r => nI (fk r)) hd ur_42.1 ur_42.2 ++ (WF FA ck cf cd cv nx nF ++ (LR cI pb rb cb pv rv kv))) H := hP
                      have hD : va_D A (WD cI cO a FA nC nR nL nF par wt (fun r => nI (sk r)) (fun r => nI (fk r)) hd ur_42.1 ur_42.2 ++ (WF FA ck cf cd cv nx nF ++ (LR cI pb rb cb pv rv kv))) := hD
                      obtain rfl : r_46 = nI (10 ^ cd j2) := hr_46.trans (by rw [hOj2]; rfl)
                      refine lv_iadd hx hb dL_isKey_155 ?_
                      refine lv_istore (lv' := [(8, .int (x8 + (nI (10 ^ cd j2)))), (9, .int (x9 + ((wt k) * (cv j2)))), (16, .int x2), (15, .int (cv j2)), (14, .int (nI k)), (13, .int x13), (12, .int x12), (11, .int x11), (10, .int x10), (7, .int (cv j1)), (6, .int (nI f)), (5, .int (nI m)), (4, .int (nI p)), (3, .int (nI c)), (2, .ref cb), (1, .ref pb), (0, .ref (a 0))]) hx hb dL_isKey_156 hl (by decide) rfl (fun ls hl => ?_)
                      refine lv_iload hx hb dL_isKey_158 (lv_at hl 8 rfl) ?_
                      refine lv_iload hx hb dL_isKey_160 (lv_at hl 3 rfl) ?_
                      refine lv_ldc (v := (-99000000)) hx hb hown w_0 dL_isKey_162 ?_
                      refine lv_icmp_ne (tgt := 171) hx hb dL_isKey_164 (by decide) (fun c_164 => ?_) (fun c_164 => ?_)
                      · skip
                        refine lv_iconst (v := 1) hx hb dL_isKey_171 (by decide) ?_
                        refine lv_iadd hx hb dL_isKey_172 ?_
                        refine lv_istore (lv' := [(10, .int (x10 + 1)), (8, .int (x8 + (nI (10 ^ cd j2)))), (9, .int (x9 + ((wt k) * (cv j2)))), (16, .int x2), (15, .int (cv j2)), (14, .int (nI k)), (13, .int x13), (12, .int x12), (11, .int x11), (7, .int (cv j1)), (6, .int (nI f)), (5, .int (nI m)), (4, .int (nI p)), (3, .int (nI c)), (2, .ref cb), (1, .ref pb), (0, .ref (a 0))]) hx hb dL_isKey_173 hl (by decide) rfl (fun ls hl => ?_)
                        refine lv_iload hx hb dL_isKey_175 (lv_at hl 8 rfl) ?_
                        refine lv_iload hx hb dL_isKey_177 (lv_at hl 3 rfl) ?_
                        refine lv_ldc (v := (-99000000)) hx hb hown w_0 dL_isKey_179 ?_
                        refine lv_icmp_ne (tgt := 188) hx hb dL_isKey_181 (by decide) (fun c_181 => ?_) (fun c_181 => ?_)
                        · skip
                          refine lv_aload_n hx hb dL_isKey_188 rfl (lv_at hl 15 rfl) ?_
                          refine lv_iload hx hb dL_isKey_189 (lv_at hl 5 rfl) ?_
                          refine g_csi (va_runS (As := [.ref pb, .int (nI k)]) (rest := [.int x11]) ⟨hx, hb, hml, hown, hts⟩ (kL_weight l D cI cZ cO cL dt A a FA nC nR nL nF par wt sk fk hd ur_42.1 ur_42.2 ck cf cd cv nx pb rb cb pv rv kv L k c hpk hC12 hkF (by omega) c_72) (va_cwS 2 hts gL_isKey_L_weight rfl rfl rfl (by decide +kernel) ⟨(Nat.le_of_ble_eq_true rfl), (Nat.le_of_ble_eq_true rfl)⟩) (gP.s (hg.on hS) hP) rfl rfl hl.1 rfl (lv_room (Nat.le_of_ble_eq_true rfl)) dL_isKey_191 ⟨by show 12 * k + 20 + 0 ≤ 170; omega, by show 72 * k + 120 + 0 ≤ 1020; omega⟩) (fun r_47 hr_47 => ?_)
                          obtain rfl : r_47 = wt k := hr_47
                          refine lv_iload hx hb dL_isKey_194 (lv_at hl 3 rfl) ?_
                          refine lv_imul hx hb dL_isKey_196 ?_
                          refine lv_iadd hx hb dL_isKey_197 ?_
                          refine lv_istore (lv' := [(11, .int (x11 + ((wt k) * x2))), (10, .int (x10 + 1)), (8, .int (x8 + (nI (10 ^ cd j2)))), (9, .int (x9 + ((wt k) * (cv j2)))), (16, .int x2), (15, .int (cv j2)), (14, .int (nI k)), (13, .int x13), (12, .int x12), (7, .int (cv j1)), (6, .int (nI f)), (5, .int (nI m)), (4, .int (nI p)), (3, .int (nI c)), (2, .ref cb), (1, .ref pb), (0, .ref (a 0))]) hx hb dL_isKey_198 hl (by decide) rfl (fun ls hl => ?_)
                          refine lv_iload hx hb dL_isKey_200 (lv_at hl 8 rfl) ?_
                          refine lv_iload hx hb dL_isKey_202 (lv_at hl 4 rfl) ?_
                          refine lv_ldc (v := (-99000000)) hx hb hown w_0 dL_isKey_204 ?_
                          refine lv_icmp_ne (tgt := 213) hx hb dL_isKey_206 (by decide) (fun c_206 => ?_) (fun c_206 => ?_)
                          · skip
                            refine lv_iconst (v := 1) hx hb dL_isKey_213 (by decide) ?_
                            refine lv_iadd hx hb dL_isKey_214 ?_
                            refine lv_istore (lv' := [(12, .int (x12 + 1)), (11, .int (x11 + ((wt k) * x2))), (10, .int (x10 + 1)), (8, .int (x8 + (nI (10 ^ cd j2)))), (9, .int (x9 + ((wt k) * (cv j2)))), (16, .int x2), (15, .int (cv j2)), (14, .int (nI k)), (13, .int x13), (7, .int (cv j1)), (6, .int (nI f)), (5, .int (nI m)), (4, .int (nI p)), (3, .int (nI c)), (2, .ref cb), (1, .ref pb), (0, .ref (a 0))]) hx hb dL_isKey_215 hl (by decide) rfl (fun ls hl => ?_)
                            refine lv_iinc (v := x13 + 1) (lv' := [(13, .int (x13 + 1)), (12, .int (x12 + 1)), (11, .int (x11 + ((wt k) * x2))), (10, .int (x10 + 1)), (8, .int (x8 + (nI (10 ^ cd j2)))), (9, .int (x9 + ((wt k) * (cv j2)))), (16, .int x2), (15, .int (cv j2)), (14, .int (nI k)), (7, .int (cv j1)), (6, .int (nI f)), (5, .int (nI m)), (4, .int (nI p)), (3, .int (nI c)), (2, .ref cb), (1, .ref pb), (0, .ref (a 0))]) hx hb dL_isKey_217 hl (k := 8) rfl (rfl) (by decide) rfl (fun ls hl => ?_)
                            refine lv_iinc (v := nI (k + 1)) (lv' := [(14, .int (nI (k + 1))), (13, .int (x13 + 1)), (12, .int (x12 + 1)), (11, .int (x11 + ((wt k) * x2))), (10, .int (x10 + 1)), (8, .int (x8 + (nI (10 ^ cd j2)))), (9, .int (x9 + ((wt k) * (cv j2)))), (16, .int x2), (15, .int (cv j2)), (7, .int (cv j1)), (6, .int (nI f)), (5, .int (nI m)), (4, .int (nI p)), (3, .int (nI c)), (2, .ref cb), (1, .ref pb), (0, .ref (a 0))]) hx hb dL_isKey_220 hl (k := 8) rfl (nI_1 k) (by decide) rfl (fun ls hl => ?_)
                            refine lv_goto (tgt := 57) hx hb dL_isKey_223 (by decide) ?_
                            refine W.widen (k := 12 * (k + 1) + 8) (n := 72 * (k + 1) + 48) (by omega) (by omega) ?_
                            exact ih_lp (k + 1) ur_42.1 ur_42.2 (x8 + (nI (10 ^ cd j2))) (x9 + ((wt k) * (cv j2))) (x10 + 1) (x11 + ((wt k) * x2)) (x12 + 1) (x13 + 1) _ _ (by omega) (by omega) (by rw [dn_some (h := (fun k => hC ck cf cd nF (nI (k * 40 + p * 4 + m)) (nI f))) c_72 hOj2, e8]; exact Int32.add_assoc _ _ _) (by rw [sn_some (h := (fun k => hC ck cf cd nF (nI (k * 40 + p * 4 + m)) (nI f))) c_72 hOj2, e9]) (by rw [cn_some (h := (fun k => hC ck cf cd nF (nI (k * 40 + p * 4 + m)) (nI f))) c_72 hOj2, e10]; exact nI_1 _) (by rw [gS_some c_72 hD2, e11]) (by rw [gG_some c_72 hD2, e12]; exact nI_1 _) (by rw [gC_yes c_72, e13]; exact nI_1 _) hP hD hS _ (lv_sub hl [0, 1, 2, 3, 4, 6, 5, 9, 10, 11, 12, 13, 14, 15, 16] rfl)
                          · skip
                            exact absurd c_206 (dV_ne hT hC12 hkF hwt hcv hD2)
                        · skip
                          exact absurd c_181 (dV_ne hT hC12 hkF hwt hcv hD2)
                      · skip
                        exact absurd c_164 (hcv j2).ne
                    · skip
                      exact absurd c_135 (hcv j2).ne
                  · skip
                    exact absurd c_110 (hcv j2).ne
      exact lp (nC + 1) 0 rea sig (nI (10 ^ cd j1)) 0 0 0 0 0 _ _ (by omega) (by omega) (Int32.add_zero _).symm rfl rfl rfl rfl rfl hP hD hS _ (lv_sub hl [0, 1, 2, 3, 4, 5, 6, 7, 14, 13, 12, 11, 10, 9, 8] rfl)
    · skip
      exact absurd c_18 (hcv j1).ne
set_option maxHeartbeats 4000000 in
set_option maxRecDepth 100000 in
/-- members of a concept and a period -/
theorem kL_areMembers (l : Launch) (D : va_G) (cI cZ cO cL : ClassId) (dt : Nat) (A : Nat → Prop) (a FA : Nat → Nat) (nC nR nL nF : Nat) (par wt : Nat → Int32) (sk fk : Nat → Nat) (hd : Nat → Option Nat) (rea sig : Nat → Int32) (ck cf cd : Nat → Nat) (cv : Nat → Int32) (nx : Nat → Option Nat) (pb rb cb : Nat) (pv rv kv : Nat → Int32) (L : List Nat) (c p f : Nat) (hlt : l.stackTraces = false) (hOk : sOk nC nR nL nF par wt sk fk hd ck cf cd cv nx L) (hc : c < nC) (hp : p < 10) (hf : f < nL + 1) : Met l yL_areMembers wsL_areMembers ({ frames := 11, cells := 40, slots := 240, locals := 209 } : Room) (gP D cI cZ cO cL dt A [.ref (a 0), .int (nI c), .int (nI p), .int (nI f)] (fun H => va_P D vwCl (WD cI cO a FA nC nR nL nF par wt (fun r => nI (sk r)) (fun r => nI (fk r)) hd rea sig ++ (WF FA ck cf cd cv nx nF ++ (LR cI pb rb cb pv rv kv))) H ∧ va_D A (WD cI cO a FA nC nR nL nF par wt (fun r => nI (sk r)) (fun r => nI (fk r)) hd rea sig ++ (WF FA ck cf cd cv nx nF ++ (LR cI pb rb cb pv rv kv))))) (va_Qi (fun (r : Int32) (_ : Unit) => r = 1) (fun _ t => va_P D vwCl (WD cI cO a FA nC nR nL nF par wt (fun r => nI (sk r)) (fun r => nI (fk r)) hd rea sig ++ (WF FA ck cf cd cv nx nF ++ (LR cI pb rb cb pv rv kv))) t.heap ∧ va_D A (WD cI cO a FA nC nR nL nF par wt (fun r => nI (sk r)) (fun r => nI (fk r)) hd rea sig ++ (WF FA ck cf cd cv nx nF ++ (LR cI pb rb cb pv rv kv)))) A) 40 240 A := by
  refine Met.ofW (cc := cL_areMembers) (maxL := 9) (ret := (some .boolean)) (by decide) rfl ?_
  intro p9 e9 s m9 args below meth c9 s₁ B hml hv
  obtain ⟨rfl, hg, hP, hD⟩ := hv
  have hx := B.exec
  have hb := B.bytes
  have hr := B.returns
  have hts := atoms_spec (ws := wsL_areMembers) B.pre
  have hown : s.vm.findClass RL = some m9.cls := findClass_of_methodNamed B.named
  have hlocks := B.notSynchronized
  have hK := hg.1
  have hS : va_S A s.heap s.heap [] := va_S.rf
  obtain ⟨⟨hC12, hR5, hL8, hF⟩, ⟨hT, hwt⟩, ⟨hsk12, hfk12, hskC⟩, ⟨hCh, hH, hN, hfL⟩, hck, hcf8, hcd, hcv, hckC⟩ := id hOk
  have hcf : ∀ k, cf k < 2 ^ 31 := fun k => by have := hcf8 k; omega
  have w_0 := hts (.constant RL 21 (-99000000)) (by decide +kernel)
  have hl := lv_entry ([.ref (a 0), .int (nI c), .int (nI p), .int (nI f)]) (n := 9) (Nat.le_of_ble_eq_true rfl)
  rw [lg_entry_eq]
  generalize (lg_sl ([.ref (a 0), .int (nI c), .int (nI p), .int (nI f)]) ++ List.replicate (9 - (lg_sl ([.ref (a 0), .int (nI c), .int (nI p), .int (nI f)])).length) Slot.unset).toArray = ls at hl ⊢
  have hl : lv_has ls 9 [(0, .ref (a 0)), (1, .int (nI c)), (2, .int (nI p)), (3, .int (nI f))] := hl
  refine lv_iconst (v := 0) hx hb dL_areMembers_0 (by decide) ?_
  refine lv_istore (lv' := [(4, .int 0), (0, .ref (a 0)), (1, .int (nI c)), (2, .int (nI p)), (3, .int (nI f))]) hx hb dL_areMembers_1 hl (by decide) rfl (fun ls hl => ?_)
  refine lv_iconst (v := 0) hx hb dL_areMembers_3 (by decide) ?_
  refine lv_istore (lv' := [(5, .int 0), (4, .int 0), (0, .ref (a 0)), (1, .int (nI c)), (2, .int (nI p)), (3, .int (nI f))]) hx hb dL_areMembers_4 hl (by decide) rfl (fun ls hl => ?_)
  refine lv_iconst (v := 1) hx hb dL_areMembers_6 (by decide) ?_
  refine lv_istore (lv' := [(6, .int 1), (5, .int 0), (4, .int 0), (0, .ref (a 0)), (1, .int (nI c)), (2, .int (nI p)), (3, .int (nI f))]) hx hb dL_areMembers_7 hl (by decide) rfl (fun ls hl => ?_)
  refine lv_iconst (v := 0) hx hb dL_areMembers_9 (by decide) ?_
  refine lv_istore (lv' := [(7, .int 0), (6, .int 1), (5, .int 0), (4, .int 0), (0, .ref (a 0)), (1, .int (nI c)), (2, .int (nI p)), (3, .int (nI f))]) hx hb dL_areMembers_10 hl (by decide) rfl (fun ls hl => ?_)
  have lp : ∀ (n k : Nat) (x4 : Int32) (x5 : Int32) (x6 : Int32) (H : Heap) (locs : List Loc), 4 < k + n → k ≤ 4 → (x4 = mSum (fun q => hC ck cf cd nF (nI (c * 40 + p * 4 + q)) (nI f)) cv k) → (x5 = mDbt (fun q => hC ck cf cd nF (nI (c * 40 + p * 4 + q)) (nI f)) cd k) → (x6 = bI (mAll (fun q => hC ck cf cd nF (nI (c * 40 + p * 4 + q)) (nI f)) k = true)) → va_P D vwCl (WD cI cO a FA nC nR nL nF par wt (fun r => nI (sk r)) (fun r => nI (fk r)) hd rea sig ++ (WF FA ck cf cd cv nx nF ++ (LR cI pb rb cb pv rv kv))) H → va_D A (WD cI cO a FA nC nR nL nF par wt (fun r => nI (sk r)) (fun r => nI (fk r)) hd rea sig ++ (WF FA ck cf cd cv nx nF ++ (LR cI pb rb cb pv rv kv))) → va_S A s.heap H locs → ∀ ls : Array Slot, lv_has ls 9 [(7, .int (nI k)), (6, .int x6), (5, .int x5), (4, .int x4), (3, .int (nI f)), (2, .int (nI p)), (1, .int (nI c)), (0, .ref (a 0))] → W p9 l e9 (headSpec wsL_areMembers ({ frames := 11, cells := 40, slots := 240, locals := 209 } : Room)).room s m9 ([.ref (a 0), .int (nI c), .int (nI p), .int (nI f)] : List Value).toArray below meth c9 H locs (8 * k + 0) (48 * k + 0) (MQ below (va_Qi (fun (r : Int32) (_ : Unit) => r = 1) (fun _ t => va_P D vwCl (WD cI cO a FA nC nR nL nF par wt (fun r => nI (sk r)) (fun r => nI (fk r)) hd rea sig ++ (WF FA ck cf cd cv nx nF ++ (LR cI pb rb cb pv rv kv))) t.heap ∧ va_D A (WD cI cO a FA nC nR nL nF par wt (fun r => nI (sk r)) (fun r => nI (fk r)) hd rea sig ++ (WF FA ck cf cd cv nx nF ++ (LR cI pb rb cb pv rv kv)))) A) ([.ref (a 0), .int (nI c), .int (nI p), .int (nI f)] : List Value).toArray s 40 240 A) (F0 m9 12 ls []) := by
    intro n
    induction n with
    | zero => intro k x4 x5 x6 H locs h1 h2; exact absurd h1 (by omega)
    | succ n ih_lp =>
      intro k x4 x5 x6 H locs hn_lp hk_lp e4 e5 e6 hP hD hS ls hl
      refine lv_iload hx hb dL_areMembers_12 (lv_at hl 0 rfl) ?_
      refine lv_iconst (v := 4) hx hb dL_areMembers_14 (by decide) ?_
      refine lv_icmp_ge (tgt := 104) hx hb dL_areMembers_15 (by decide) (fun c_15 => ?_) (fun c_15 => ?_)
      · skip
        have hkF : k = 4 := by have := (nI_leI (a := 4) (b := k) (by decide) (by omega)).mp c_15; omega
        rw [hkF] at e4 e5 e6
        refine W.widen (k := 32) (n := 192) (by omega) (by omega) ?_
        refine lv_aload_n hx hb dL_areMembers_104 rfl (lv_at hl 7 rfl) ?_
        refine lv_iload_n hx hb dL_areMembers_105 rfl (lv_at hl 6 rfl) ?_
        refine lv_iload_n hx hb dL_areMembers_106 rfl (lv_at hl 5 rfl) ?_
        refine lv_iload_n hx hb dL_areMembers_107 rfl (lv_at hl 4 rfl) ?_
        refine va_calli (va_runV (As := [.int (nI c), .int (nI p), .int (nI f)]) (rest := []) ⟨hx, hb, hml, hown, hts⟩ (m4_areMembersOff l D cI cZ cO cL dt A a FA nC nR nL nF par wt (fun r => nI (sk r)) (fun r => nI (fk r)) hd rea sig ck cf cd cv nx (LR cI pb rb cb pv rv kv) c p f hlt hF hC12 hck hcf hcd hcv hwt hCh hL8 hc hp hf) (cwV 3 hts gL_areMembers_X4_areMembersOff rfl rfl rfl (by decide +kernel) ⟨(Nat.le_of_ble_eq_true rfl), (Nat.le_of_ble_eq_true rfl)⟩) (gP.v (hg.on hS) hP 3 rfl 0 rfl (⟨hP, hD⟩)) rfl rfl hl.1 rfl (lv_room (Nat.le_of_ble_eq_true rfl)) dL_areMembers_108 ⟨(Nat.le_of_ble_eq_true rfl), (Nat.le_of_ble_eq_true rfl)⟩) hS (fun q _ h => h) (fun q h => h) (fun r_1 ur_1 tr_1 H locs htr_1 hvmr_1 hr_1 hB hzr_1 hkr_1 hS => ?_)
        rw [htr_1] at hB
        obtain ⟨hP, hD⟩ := hB
        refine W.widen (k := 35) (n := 210) (Nat.le_of_ble_eq_true rfl) (Nat.le_of_ble_eq_true rfl) ?_
        have hP : va_P D vwCl (WD cI cO a FA nC nR nL nF par wt (fun r => nI (sk r)) (fun r => nI (fk r)) hd rea sig ++ (WF FA ck cf cd cv nx nF ++ (LR cI pb rb cb pv rv kv))) H := hP
        have hD : va_D A (WD cI cO a FA nC nR nL nF par wt (fun r => nI (sk r)) (fun r => nI (fk r)) hd rea sig ++ (WF FA ck cf cd cv nx nF ++ (LR cI pb rb cb pv rv kv))) := hD
        obtain rfl : r_1 = bI (memOff (fun q => hC ck cf cd nF (nI (c * 40 + p * 4 + q)) (nI f)) cd cv = true) := hr_1
        refine lv_iload hx hb dL_areMembers_111 (lv_at hl 1 rfl) ?_
        refine lv_if_eq (tgt := 139) hx hb dL_areMembers_113 (by decide) (fun c_113 => ?_) (fun c_113 => ?_)
        · skip
          have hal : ¬ mAll (fun q => hC ck cf cd nF (nI (c * 40 + p * 4 + q)) (nI f)) 4 = true := bI_z (e6.symm.trans c_113)
          have hoff : bI (memOff (fun q => hC ck cf cd nF (nI (c * 40 + p * 4 + q)) (nI f)) cd cv = true) = 0 := (bI_f (mo_no hal)).symm
          refine lv_iconst (v := 0) hx hb dL_areMembers_139 (by decide) ?_
          refine lv_icmp_ne (tgt := 147) hx hb dL_areMembers_140 (by decide) (fun c_140 => ?_) (fun c_140 => ?_)
          · skip
            exact absurd hoff c_140
          · skip
            refine lv_iconst (v := 1) hx hb dL_areMembers_143 (by decide) ?_
            refine lv_goto (tgt := 148) hx hb dL_areMembers_144 (by decide) ?_
            exact W.widen (k := 40) (n := 240) (Nat.le_of_ble_eq_true rfl) (Nat.le_of_ble_eq_true rfl) (W.zret (v := 1) hx hb hr (rfl) (fun t ht hW => ⟨⟨1, (), rfl, rfl, g_PD ht hP hD⟩, hS.F ht⟩) hS.2.2 dL_areMembers_148)
        · skip
          have hal : mAll (fun q => hC ck cf cd nF (nI (c * 40 + p * 4 + q)) (nI f)) 4 = true := bI_n (fun z => c_113 (e6.trans z))
          obtain ⟨j0, hOj0⟩ := Option.isSome_iff_exists.mp (mAll_at hal (by decide : 0 < 4))
          have hOj0 : hC ck cf cd nF (nI (c * 40 + p * 4 + 0)) (nI f) = some j0 := hOj0
          refine lv_aload_n hx hb dL_areMembers_116 rfl (lv_at hl 7 rfl) ?_
          refine lv_iconst (v := 0) hx hb dL_areMembers_117 (by decide) ?_
          refine lv_iload_n hx hb dL_areMembers_118 rfl (lv_at hl 6 rfl) ?_
          refine lv_iload_n hx hb dL_areMembers_119 rfl (lv_at hl 5 rfl) ?_
          refine lv_iconst (v := 0) hx hb dL_areMembers_120 (by decide) ?_
          refine lv_iload_n hx hb dL_areMembers_121 rfl (lv_at hl 4 rfl) ?_
          refine va_calli (vx_runSW (hh := [(0, 27, 28, 19)]) (As := [.ref (a 0), .int 0, .int (nI c), .int (nI p), .int 0, .int (nI f)]) (rest := [.int (bI (memOff (fun q => hC ck cf cd nF (nI (c * 40 + p * 4 + q)) (nI f)) cd cv = true))]) ⟨hx, hb, hml, hown, hts⟩ (kL_held l D cI cZ cO cL dt A a FA nC nR nL nF par wt sk fk hd rea sig ck cf cd cv nx pb rb cb pv rv kv L c p 0 f hlt hOk (by omega) (by omega) (by omega) (by omega)) (vx_cwSW 6 hts gL_areMembers_L_held rfl rfl rfl (by decide +kernel) ⟨(Nat.le_of_ble_eq_true rfl), (Nat.le_of_ble_eq_true rfl)⟩) (gP.s (hg.on hS) (⟨hP, hD⟩)) rfl rfl hl.1 rfl (lv_room (Nat.le_of_ble_eq_true rfl)) dL_areMembers_122 ⟨(Nat.le_of_ble_eq_true rfl), (Nat.le_of_ble_eq_true rfl)⟩) hS (fun q _ h => h) (fun q h => h) (fun r_2 ur_2 tr_2 H locs htr_2 hvmr_2 hr_2 hB hzr_2 hkr_2 hS => ?_)
          rw [htr_2] at hB
          obtain ⟨hP, hD⟩ := hB
          refine W.widen (k := 39) (n := 234) (Nat.le_of_ble_eq_true rfl) (Nat.le_of_ble_eq_true rfl) ?_
          have hP : va_P D vwCl (WD cI cO a FA nC nR nL nF par wt (fun r => nI (sk r)) (fun r => nI (fk r)) hd rea sig ++ (WF FA ck cf cd cv nx nF ++ (LR cI pb rb cb pv rv kv))) H := hP
          have hD : va_D A (WD cI cO a FA nC nR nL nF par wt (fun r => nI (sk r)) (fun r => nI (fk r)) hd rea sig ++ (WF FA ck cf cd cv nx nF ++ (LR cI pb rb cb pv rv kv))) := hD
          obtain rfl : r_2 = cv j0 := hr_2.trans (by rw [hOj0]; rfl)
          refine lv_iload hx hb dL_areMembers_125 (lv_at hl 3 rfl) ?_
          refine lv_iload hx hb dL_areMembers_127 (lv_at hl 2 rfl) ?_
          refine g_csi (va_runS (As := [.int (cv j0), .int x4, .int x5]) (rest := [.int (bI (memOff (fun q => hC ck cf cd nF (nI (c * 40 + p * 4 + q)) (nI f)) cd cv = true))]) ⟨hx, hb, hml, hown, hts⟩ (kL_isFar l D cI cZ cO cL dt A (cv j0) x4 x5 (WD cI cO a FA nC nR nL nF par wt (fun r => nI (sk r)) (fun r => nI (fk r)) hd rea sig ++ (WF FA ck cf cd cv nx nF ++ (LR cI pb rb cb pv rv kv))) (hcv j0).small (by rw [e4]; exact mSum_small hcv (by decide))) (va_cwS 3 hts gL_areMembers_L_isFar rfl rfl rfl (by decide +kernel) ⟨(Nat.le_of_ble_eq_true rfl), (Nat.le_of_ble_eq_true rfl)⟩) (gP.s (hg.on hS) hP) rfl rfl hl.1 rfl (lv_room (Nat.le_of_ble_eq_true rfl)) dL_areMembers_129 ⟨(Nat.le_of_ble_eq_true rfl), (Nat.le_of_ble_eq_true rfl)⟩) (fun r_3 hr_3 => ?_)
          obtain rfl : r_3 = bI (x5 < 2 * farI (cv j0) x4) := hr_3
          refine lv_if_eq (tgt := 139) hx hb dL_areMembers_132 (by decide) (fun c_132 => ?_) (fun c_132 => ?_)
          · skip
            have c_132 := bI_z c_132
            rw [e4, e5] at c_132
            have hoff : bI (memOff (fun q => hC ck cf cd nF (nI (c * 40 + p * 4 + q)) (nI f)) cd cv = true) = 0 := (bI_f (mo_near (h := (fun q => hC ck cf cd nF (nI (c * 40 + p * 4 + q)) (nI f))) hOj0 c_132)).symm
            refine lv_iconst (v := 0) hx hb dL_areMembers_139 (by decide) ?_
            refine lv_icmp_ne (tgt := 147) hx hb dL_areMembers_140 (by decide) (fun c_140 => ?_) (fun c_140 => ?_)
            · skip
              exact absurd hoff c_140
            · skip
              refine lv_iconst (v := 1) hx hb dL_areMembers_143 (by decide) ?_
              refine lv_goto (tgt := 148) hx hb dL_areMembers_144 (by decide) ?_
              exact W.widen (k := 40) (n := 240) (Nat.le_of_ble_eq_true rfl) (Nat.le_of_ble_eq_true rfl) (W.zret (v := 1) hx hb hr (rfl) (fun t ht hW => ⟨⟨1, (), rfl, rfl, g_PD ht hP hD⟩, hS.F ht⟩) hS.2.2 dL_areMembers_148)
          · skip
            have c_132 := bI_n c_132
            rw [e4, e5] at c_132
            have hoff : bI (memOff (fun q => hC ck cf cd nF (nI (c * 40 + p * 4 + q)) (nI f)) cd cv = true) = 1 := (bI_t (mo_far (h := (fun q => hC ck cf cd nF (nI (c * 40 + p * 4 + q)) (nI f))) hOj0 hal c_132)).symm
            refine lv_iconst (v := 1) hx hb dL_areMembers_135 (by decide) ?_
            refine lv_goto (tgt := 140) hx hb dL_areMembers_136 (by decide) ?_
            refine lv_icmp_ne (tgt := 147) hx hb dL_areMembers_140 (by decide) (fun c_140 => ?_) (fun c_140 => ?_)
            · skip
              exact absurd hoff c_140
            · skip
              refine lv_iconst (v := 1) hx hb dL_areMembers_143 (by decide) ?_
              refine lv_goto (tgt := 148) hx hb dL_areMembers_144 (by decide) ?_
              exact W.widen (k := 40) (n := 240) (Nat.le_of_ble_eq_true rfl) (Nat.le_of_ble_eq_true rfl) (W.zret (v := 1) hx hb hr (rfl) (fun t ht hW => ⟨⟨1, (), rfl, rfl, g_PD ht hP hD⟩, hS.F ht⟩) hS.2.2 dL_areMembers_148)
      · skip
        have hkF : k < 4 := by have := mt (nI_leI (a := 4) (b := k) (by decide) (by omega)).mpr c_15; omega
        refine lv_aload_n hx hb dL_areMembers_18 rfl (lv_at hl 7 rfl) ?_
        refine lv_iconst (v := 0) hx hb dL_areMembers_19 (by decide) ?_
        refine lv_iload_n hx hb dL_areMembers_20 rfl (lv_at hl 6 rfl) ?_
        refine lv_iload_n hx hb dL_areMembers_21 rfl (lv_at hl 5 rfl) ?_
        refine lv_iload hx hb dL_areMembers_22 (lv_at hl 0 rfl) ?_
        refine lv_iload_n hx hb dL_areMembers_24 rfl (lv_at hl 4 rfl) ?_
        refine va_calli (vx_runSW (hh := [(0, 27, 28, 19)]) (As := [.ref (a 0), .int 0, .int (nI c), .int (nI p), .int (nI k), .int (nI f)]) (rest := []) ⟨hx, hb, hml, hown, hts⟩ (kL_held l D cI cZ cO cL dt A a FA nC nR nL nF par wt sk fk hd rea sig ck cf cd cv nx pb rb cb pv rv kv L c p k f hlt hOk (by omega) (by omega) (by omega) (by omega)) (vx_cwSW 6 hts gL_areMembers_L_held rfl rfl rfl (by decide +kernel) ⟨(Nat.le_of_ble_eq_true rfl), (Nat.le_of_ble_eq_true rfl)⟩) (gP.s (hg.on hS) (⟨hP, hD⟩)) rfl rfl hl.1 rfl (lv_room (Nat.le_of_ble_eq_true rfl)) dL_areMembers_25 ⟨by show 8 * k + 0 + 4 ≤ 40; omega, by show 48 * k + 0 + 24 ≤ 240; omega⟩) hS (fun q _ h => h) (fun q h => h) (fun r_4 ur_4 tr_4 H locs htr_4 hvmr_4 hr_4 hB hzr_4 hkr_4 hS => ?_)
        rw [htr_4] at hB
        obtain ⟨hP, hD⟩ := hB
        refine W.widen (k := 8 * k + 4) (n := 48 * k + 24) (by omega) (by omega) ?_
        have hP : va_P D vwCl (WD cI cO a FA nC nR nL nF par wt (fun r => nI (sk r)) (fun r => nI (fk r)) hd rea sig ++ (WF FA ck cf cd cv nx nF ++ (LR cI pb rb cb pv rv kv))) H := hP
        have hD : va_D A (WD cI cO a FA nC nR nL nF par wt (fun r => nI (sk r)) (fun r => nI (fk r)) hd rea sig ++ (WF FA ck cf cd cv nx nF ++ (LR cI pb rb cb pv rv kv))) := hD
        obtain ⟨o_r_4, hOj2⟩ : ∃ z, hC ck cf cd nF (nI (c * 40 + p * 4 + k)) (nI f) = z := ⟨_, rfl⟩
        rcases o_r_4 with _ | j2
        · skip
          obtain rfl : r_4 = (-99000000) := hr_4.trans (congrArg (hv cv) hOj2)
          refine lv_istore (lv' := [(8, .int (-99000000)), (7, .int (nI k)), (6, .int x6), (5, .int x5), (4, .int x4), (3, .int (nI f)), (2, .int (nI p)), (1, .int (nI c)), (0, .ref (a 0))]) hx hb dL_areMembers_28 hl (by decide) rfl (fun ls hl => ?_)
          refine lv_iload hx hb dL_areMembers_30 (lv_at hl 2 rfl) ?_
          refine lv_if_eq (tgt := 46) hx hb dL_areMembers_32 (by decide) (fun c_32 => ?_) (fun c_32 => ?_)
          · skip
            have hal : ¬ mAll (fun q => hC ck cf cd nF (nI (c * 40 + p * 4 + q)) (nI f)) k = true := bI_z (e6.symm.trans c_32)
            refine lv_iconst (v := 0) hx hb dL_areMembers_46 (by decide) ?_
            refine lv_istore (lv' := [(6, .int 0), (8, .int (-99000000)), (7, .int (nI k)), (5, .int x5), (4, .int x4), (3, .int (nI f)), (2, .int (nI p)), (1, .int (nI c)), (0, .ref (a 0))]) hx hb dL_areMembers_47 hl (by decide) rfl (fun ls hl => ?_)
            refine lv_iload hx hb dL_areMembers_49 (lv_at hl 4 rfl) ?_
            refine lv_iload hx hb dL_areMembers_51 (lv_at hl 2 rfl) ?_
            refine lv_if_eq (tgt := 63) hx hb dL_areMembers_53 (by decide) (fun c_53 => ?_) (fun c_53 => ?_)
            · skip
              have hk0 : k = 0 := (nI_eq (b := 0) (by omega) (by decide)).mp c_53
              refine lv_iconst (v := 0) hx hb dL_areMembers_63 (by decide) ?_
              refine lv_goto (tgt := 69) hx hb dL_areMembers_64 (by decide) ?_
              refine lv_iadd hx hb dL_areMembers_69 ?_
              refine lv_istore (lv' := [(4, .int (x4 + 0)), (6, .int 0), (8, .int (-99000000)), (7, .int (nI k)), (5, .int x5), (3, .int (nI f)), (2, .int (nI p)), (1, .int (nI c)), (0, .ref (a 0))]) hx hb dL_areMembers_70 hl (by decide) rfl (fun ls hl => ?_)
              refine lv_iload hx hb dL_areMembers_72 (lv_at hl 4 rfl) ?_
              refine lv_iload hx hb dL_areMembers_74 (lv_at hl 2 rfl) ?_
              refine lv_ldc (v := (-99000000)) hx hb hown w_0 dL_areMembers_76 ?_
              refine lv_icmp_ne (tgt := 85) hx hb dL_areMembers_78 (by decide) (fun c_78 => ?_) (fun c_78 => ?_)
              · skip
                exact absurd c_78 (by decide)
              · skip
                refine lv_iconst (v := 0) hx hb dL_areMembers_81 (by decide) ?_
                refine lv_goto (tgt := 95) hx hb dL_areMembers_82 (by decide) ?_
                refine lv_iadd hx hb dL_areMembers_95 ?_
                refine lv_istore (lv' := [(5, .int (x5 + 0)), (4, .int (x4 + 0)), (6, .int 0), (8, .int (-99000000)), (7, .int (nI k)), (3, .int (nI f)), (2, .int (nI p)), (1, .int (nI c)), (0, .ref (a 0))]) hx hb dL_areMembers_96 hl (by decide) rfl (fun ls hl => ?_)
                refine lv_iinc (v := nI (k + 1)) (lv' := [(7, .int (nI (k + 1))), (5, .int (x5 + 0)), (4, .int (x4 + 0)), (6, .int 0), (8, .int (-99000000)), (3, .int (nI f)), (2, .int (nI p)), (1, .int (nI c)), (0, .ref (a 0))]) hx hb dL_areMembers_98 hl (k := 4) rfl (nI_1 k) (by decide) rfl (fun ls hl => ?_)
                refine lv_goto (tgt := 12) hx hb dL_areMembers_101 (by decide) ?_
                refine W.widen (k := 8 * (k + 1) + 0) (n := 48 * (k + 1) + 0) (by omega) (by omega) ?_
                exact ih_lp (k + 1) (x4 + 0) (x5 + 0) 0 _ _ (by omega) (by omega) (by rw [ms_none (h := (fun q => hC ck cf cd nF (nI (c * 40 + p * 4 + q)) (nI f))) hOj2, e4]; exact Int32.add_zero _) (by rw [md_none (h := (fun q => hC ck cf cd nF (nI (c * 40 + p * 4 + q)) (nI f))) hOj2, e5]; exact Int32.add_zero _) (bI_f (ma_none (h := (fun q => hC ck cf cd nF (nI (c * 40 + p * 4 + q)) (nI f))) hOj2)) hP hD hS _ (lv_sub hl [0, 3, 1, 2, 5, 6, 7, 8] rfl)
            · skip
              refine lv_iload hx hb dL_areMembers_56 (lv_at hl 1 rfl) ?_
              refine lv_ldc (v := (-99000000)) hx hb hown w_0 dL_areMembers_58 ?_
              refine lv_icmp_ne (tgt := 67) hx hb dL_areMembers_60 (by decide) (fun c_60 => ?_) (fun c_60 => ?_)
              · skip
                exact absurd c_60 (by decide)
              · skip
                refine lv_iconst (v := 0) hx hb dL_areMembers_63 (by decide) ?_
                refine lv_goto (tgt := 69) hx hb dL_areMembers_64 (by decide) ?_
                refine lv_iadd hx hb dL_areMembers_69 ?_
                refine lv_istore (lv' := [(4, .int (x4 + 0)), (6, .int 0), (8, .int (-99000000)), (7, .int (nI k)), (5, .int x5), (3, .int (nI f)), (2, .int (nI p)), (1, .int (nI c)), (0, .ref (a 0))]) hx hb dL_areMembers_70 hl (by decide) rfl (fun ls hl => ?_)
                refine lv_iload hx hb dL_areMembers_72 (lv_at hl 4 rfl) ?_
                refine lv_iload hx hb dL_areMembers_74 (lv_at hl 2 rfl) ?_
                refine lv_ldc (v := (-99000000)) hx hb hown w_0 dL_areMembers_76 ?_
                refine lv_icmp_ne (tgt := 85) hx hb dL_areMembers_78 (by decide) (fun c_78 => ?_) (fun c_78 => ?_)
                · skip
                  exact absurd c_78 (by decide)
                · skip
                  refine lv_iconst (v := 0) hx hb dL_areMembers_81 (by decide) ?_
                  refine lv_goto (tgt := 95) hx hb dL_areMembers_82 (by decide) ?_
                  refine lv_iadd hx hb dL_areMembers_95 ?_
                  refine lv_istore (lv' := [(5, .int (x5 + 0)), (4, .int (x4 + 0)), (6, .int 0), (8, .int (-99000000)), (7, .int (nI k)), (3, .int (nI f)), (2, .int (nI p)), (1, .int (nI c)), (0, .ref (a 0))]) hx hb dL_areMembers_96 hl (by decide) rfl (fun ls hl => ?_)
                  refine lv_iinc (v := nI (k + 1)) (lv' := [(7, .int (nI (k + 1))), (5, .int (x5 + 0)), (4, .int (x4 + 0)), (6, .int 0), (8, .int (-99000000)), (3, .int (nI f)), (2, .int (nI p)), (1, .int (nI c)), (0, .ref (a 0))]) hx hb dL_areMembers_98 hl (k := 4) rfl (nI_1 k) (by decide) rfl (fun ls hl => ?_)
                  refine lv_goto (tgt := 12) hx hb dL_areMembers_101 (by decide) ?_
                  refine W.widen (k := 8 * (k + 1) + 0) (n := 48 * (k + 1) + 0) (by omega) (by omega) ?_
                  exact ih_lp (k + 1) (x4 + 0) (x5 + 0) 0 _ _ (by omega) (by omega) (by rw [ms_none (h := (fun q => hC ck cf cd nF (nI (c * 40 + p * 4 + q)) (nI f))) hOj2, e4]; exact Int32.add_zero _) (by rw [md_none (h := (fun q => hC ck cf cd nF (nI (c * 40 + p * 4 + q)) (nI f))) hOj2, e5]; exact Int32.add_zero _) (bI_f (ma_none (h := (fun q => hC ck cf cd nF (nI (c * 40 + p * 4 + q)) (nI f))) hOj2)) hP hD hS _ (lv_sub hl [0, 3, 1, 2, 5, 6, 7, 8] rfl)
          · skip
            have hal : mAll (fun q => hC ck cf cd nF (nI (c * 40 + p * 4 + q)) (nI f)) k = true := bI_n (fun z => c_32 (e6.trans z))
            refine lv_iload hx hb dL_areMembers_35 (lv_at hl 0 rfl) ?_
            refine lv_ldc (v := (-99000000)) hx hb hown w_0 dL_areMembers_37 ?_
            refine lv_icmp_eq (tgt := 46) hx hb dL_areMembers_39 (by decide) (fun c_39 => ?_) (fun c_39 => ?_)
            · skip
              refine lv_iconst (v := 0) hx hb dL_areMembers_46 (by decide) ?_
              refine lv_istore (lv' := [(6, .int 0), (8, .int (-99000000)), (7, .int (nI k)), (5, .int x5), (4, .int x4), (3, .int (nI f)), (2, .int (nI p)), (1, .int (nI c)), (0, .ref (a 0))]) hx hb dL_areMembers_47 hl (by decide) rfl (fun ls hl => ?_)
              refine lv_iload hx hb dL_areMembers_49 (lv_at hl 4 rfl) ?_
              refine lv_iload hx hb dL_areMembers_51 (lv_at hl 2 rfl) ?_
              refine lv_if_eq (tgt := 63) hx hb dL_areMembers_53 (by decide) (fun c_53 => ?_) (fun c_53 => ?_)
              · skip
                have hk0 : k = 0 := (nI_eq (b := 0) (by omega) (by decide)).mp c_53
                refine lv_iconst (v := 0) hx hb dL_areMembers_63 (by decide) ?_
                refine lv_goto (tgt := 69) hx hb dL_areMembers_64 (by decide) ?_
                refine lv_iadd hx hb dL_areMembers_69 ?_
                refine lv_istore (lv' := [(4, .int (x4 + 0)), (6, .int 0), (8, .int (-99000000)), (7, .int (nI k)), (5, .int x5), (3, .int (nI f)), (2, .int (nI p)), (1, .int (nI c)), (0, .ref (a 0))]) hx hb dL_areMembers_70 hl (by decide) rfl (fun ls hl => ?_)
                refine lv_iload hx hb dL_areMembers_72 (lv_at hl 4 rfl) ?_
                refine lv_iload hx hb dL_areMembers_74 (lv_at hl 2 rfl) ?_
                refine lv_ldc (v := (-99000000)) hx hb hown w_0 dL_areMembers_76 ?_
                refine lv_icmp_ne (tgt := 85) hx hb dL_areMembers_78 (by decide) (fun c_78 => ?_) (fun c_78 => ?_)
                · skip
                  exact absurd c_78 (by decide)
                · skip
                  refine lv_iconst (v := 0) hx hb dL_areMembers_81 (by decide) ?_
                  refine lv_goto (tgt := 95) hx hb dL_areMembers_82 (by decide) ?_
                  refine lv_iadd hx hb dL_areMembers_95 ?_
                  refine lv_istore (lv' := [(5, .int (x5 + 0)), (4, .int (x4 + 0)), (6, .int 0), (8, .int (-99000000)), (7, .int (nI k)), (3, .int (nI f)), (2, .int (nI p)), (1, .int (nI c)), (0, .ref (a 0))]) hx hb dL_areMembers_96 hl (by decide) rfl (fun ls hl => ?_)
                  refine lv_iinc (v := nI (k + 1)) (lv' := [(7, .int (nI (k + 1))), (5, .int (x5 + 0)), (4, .int (x4 + 0)), (6, .int 0), (8, .int (-99000000)), (3, .int (nI f)), (2, .int (nI p)), (1, .int (nI c)), (0, .ref (a 0))]) hx hb dL_areMembers_98 hl (k := 4) rfl (nI_1 k) (by decide) rfl (fun ls hl => ?_)
                  refine lv_goto (tgt := 12) hx hb dL_areMembers_101 (by decide) ?_
                  refine W.widen (k := 8 * (k + 1) + 0) (n := 48 * (k + 1) + 0) (by omega) (by omega) ?_
                  exact ih_lp (k + 1) (x4 + 0) (x5 + 0) 0 _ _ (by omega) (by omega) (by rw [ms_none (h := (fun q => hC ck cf cd nF (nI (c * 40 + p * 4 + q)) (nI f))) hOj2, e4]; exact Int32.add_zero _) (by rw [md_none (h := (fun q => hC ck cf cd nF (nI (c * 40 + p * 4 + q)) (nI f))) hOj2, e5]; exact Int32.add_zero _) (bI_f (ma_none (h := (fun q => hC ck cf cd nF (nI (c * 40 + p * 4 + q)) (nI f))) hOj2)) hP hD hS _ (lv_sub hl [0, 3, 1, 2, 5, 6, 7, 8] rfl)
              · skip
                refine lv_iload hx hb dL_areMembers_56 (lv_at hl 1 rfl) ?_
                refine lv_ldc (v := (-99000000)) hx hb hown w_0 dL_areMembers_58 ?_
                refine lv_icmp_ne (tgt := 67) hx hb dL_areMembers_60 (by decide) (fun c_60 => ?_) (fun c_60 => ?_)
                · skip
                  exact absurd c_60 (by decide)
                · skip
                  refine lv_iconst (v := 0) hx hb dL_areMembers_63 (by decide) ?_
                  refine lv_goto (tgt := 69) hx hb dL_areMembers_64 (by decide) ?_
                  refine lv_iadd hx hb dL_areMembers_69 ?_
                  refine lv_istore (lv' := [(4, .int (x4 + 0)), (6, .int 0), (8, .int (-99000000)), (7, .int (nI k)), (5, .int x5), (3, .int (nI f)), (2, .int (nI p)), (1, .int (nI c)), (0, .ref (a 0))]) hx hb dL_areMembers_70 hl (by decide) rfl (fun ls hl => ?_)
                  refine lv_iload hx hb dL_areMembers_72 (lv_at hl 4 rfl) ?_
                  refine lv_iload hx hb dL_areMembers_74 (lv_at hl 2 rfl) ?_
                  refine lv_ldc (v := (-99000000)) hx hb hown w_0 dL_areMembers_76 ?_
                  refine lv_icmp_ne (tgt := 85) hx hb dL_areMembers_78 (by decide) (fun c_78 => ?_) (fun c_78 => ?_)
                  · skip
                    exact absurd c_78 (by decide)
                  · skip
                    refine lv_iconst (v := 0) hx hb dL_areMembers_81 (by decide) ?_
                    refine lv_goto (tgt := 95) hx hb dL_areMembers_82 (by decide) ?_
                    refine lv_iadd hx hb dL_areMembers_95 ?_
                    refine lv_istore (lv' := [(5, .int (x5 + 0)), (4, .int (x4 + 0)), (6, .int 0), (8, .int (-99000000)), (7, .int (nI k)), (3, .int (nI f)), (2, .int (nI p)), (1, .int (nI c)), (0, .ref (a 0))]) hx hb dL_areMembers_96 hl (by decide) rfl (fun ls hl => ?_)
                    refine lv_iinc (v := nI (k + 1)) (lv' := [(7, .int (nI (k + 1))), (5, .int (x5 + 0)), (4, .int (x4 + 0)), (6, .int 0), (8, .int (-99000000)), (3, .int (nI f)), (2, .int (nI p)), (1, .int (nI c)), (0, .ref (a 0))]) hx hb dL_areMembers_98 hl (k := 4) rfl (nI_1 k) (by decide) rfl (fun ls hl => ?_)
                    refine lv_goto (tgt := 12) hx hb dL_areMembers_101 (by decide) ?_
                    refine W.widen (k := 8 * (k + 1) + 0) (n := 48 * (k + 1) + 0) (by omega) (by omega) ?_
                    exact ih_lp (k + 1) (x4 + 0) (x5 + 0) 0 _ _ (by omega) (by omega) (by rw [ms_none (h := (fun q => hC ck cf cd nF (nI (c * 40 + p * 4 + q)) (nI f))) hOj2, e4]; exact Int32.add_zero _) (by rw [md_none (h := (fun q => hC ck cf cd nF (nI (c * 40 + p * 4 + q)) (nI f))) hOj2, e5]; exact Int32.add_zero _) (bI_f (ma_none (h := (fun q => hC ck cf cd nF (nI (c * 40 + p * 4 + q)) (nI f))) hOj2)) hP hD hS _ (lv_sub hl [0, 3, 1, 2, 5, 6, 7, 8] rfl)
            · skip
              exact absurd c_39 (by decide)
        · skip
          obtain rfl : r_4 = cv j2 := hr_4.trans (congrArg (hv cv) hOj2)
          refine lv_istore (lv' := [(8, .int (cv j2)), (7, .int (nI k)), (6, .int x6), (5, .int x5), (4, .int x4), (3, .int (nI f)), (2, .int (nI p)), (1, .int (nI c)), (0, .ref (a 0))]) hx hb dL_areMembers_28 hl (by decide) rfl (fun ls hl => ?_)
          refine lv_iload hx hb dL_areMembers_30 (lv_at hl 2 rfl) ?_
          refine lv_if_eq (tgt := 46) hx hb dL_areMembers_32 (by decide) (fun c_32 => ?_) (fun c_32 => ?_)
          · skip
            have hal : ¬ mAll (fun q => hC ck cf cd nF (nI (c * 40 + p * 4 + q)) (nI f)) k = true := bI_z (e6.symm.trans c_32)
            refine lv_iconst (v := 0) hx hb dL_areMembers_46 (by decide) ?_
            refine lv_istore (lv' := [(6, .int 0), (8, .int (cv j2)), (7, .int (nI k)), (5, .int x5), (4, .int x4), (3, .int (nI f)), (2, .int (nI p)), (1, .int (nI c)), (0, .ref (a 0))]) hx hb dL_areMembers_47 hl (by decide) rfl (fun ls hl => ?_)
            refine lv_iload hx hb dL_areMembers_49 (lv_at hl 4 rfl) ?_
            refine lv_iload hx hb dL_areMembers_51 (lv_at hl 2 rfl) ?_
            refine lv_if_eq (tgt := 63) hx hb dL_areMembers_53 (by decide) (fun c_53 => ?_) (fun c_53 => ?_)
            · skip
              have hk0 : k = 0 := (nI_eq (b := 0) (by omega) (by decide)).mp c_53
              refine lv_iconst (v := 0) hx hb dL_areMembers_63 (by decide) ?_
              refine lv_goto (tgt := 69) hx hb dL_areMembers_64 (by decide) ?_
              refine lv_iadd hx hb dL_areMembers_69 ?_
              refine lv_istore (lv' := [(4, .int (x4 + 0)), (6, .int 0), (8, .int (cv j2)), (7, .int (nI k)), (5, .int x5), (3, .int (nI f)), (2, .int (nI p)), (1, .int (nI c)), (0, .ref (a 0))]) hx hb dL_areMembers_70 hl (by decide) rfl (fun ls hl => ?_)
              refine lv_iload hx hb dL_areMembers_72 (lv_at hl 4 rfl) ?_
              refine lv_iload hx hb dL_areMembers_74 (lv_at hl 2 rfl) ?_
              refine lv_ldc (v := (-99000000)) hx hb hown w_0 dL_areMembers_76 ?_
              refine lv_icmp_ne (tgt := 85) hx hb dL_areMembers_78 (by decide) (fun c_78 => ?_) (fun c_78 => ?_)
              · skip
                refine lv_aload_n hx hb dL_areMembers_85 rfl (lv_at hl 8 rfl) ?_
                refine lv_iconst (v := 1) hx hb dL_areMembers_86 (by decide) ?_
                refine lv_iload_n hx hb dL_areMembers_87 rfl (lv_at hl 7 rfl) ?_
                refine lv_iload_n hx hb dL_areMembers_88 rfl (lv_at hl 6 rfl) ?_
                refine lv_iload hx hb dL_areMembers_89 (lv_at hl 3 rfl) ?_
                refine lv_iload_n hx hb dL_areMembers_91 rfl (lv_at hl 5 rfl) ?_
                refine va_calli (vx_runSW (hh := [(0, 27, 28, 19)]) (As := [.ref (a 0), .int 1, .int (nI c), .int (nI p), .int (nI k), .int (nI f)]) (rest := [.int x5]) ⟨hx, hb, hml, hown, hts⟩ (kL_heldD l D cI cZ cO cL dt A a FA nC nR nL nF par wt sk fk hd rea sig ck cf cd cv nx pb rb cb pv rv kv L c p k f hlt hOk (by omega) (by omega) (by omega) (by omega)) (vx_cwSW 6 hts gL_areMembers_L_held rfl rfl rfl (by decide +kernel) ⟨(Nat.le_of_ble_eq_true rfl), (Nat.le_of_ble_eq_true rfl)⟩) (gP.s (hg.on hS) (⟨hP, hD⟩)) rfl rfl hl.1 rfl (lv_room (Nat.le_of_ble_eq_true rfl)) dL_areMembers_92 ⟨by show 8 * k + 4 + 4 ≤ 40; omega, by show 48 * k + 24 + 24 ≤ 240; omega⟩) hS (fun q _ h => h) (fun q h => h) (fun r_5 ur_5 tr_5 H locs htr_5 hvmr_5 hr_5 hB hzr_5 hkr_5 hS => ?_)
                rw [htr_5] at hB
                obtain ⟨hP, hD⟩ := hB
                refine W.widen (k := 8 * k + 8) (n := 48 * k + 48) (by omega) (by omega) ?_
                have hP : va_P D vwCl (WD cI cO a FA nC nR nL nF par wt (fun r => nI (sk r)) (fun r => nI (fk r)) hd rea sig ++ (WF FA ck cf cd cv nx nF ++ (LR cI pb rb cb pv rv kv))) H := hP
                have hD : va_D A (WD cI cO a FA nC nR nL nF par wt (fun r => nI (sk r)) (fun r => nI (fk r)) hd rea sig ++ (WF FA ck cf cd cv nx nF ++ (LR cI pb rb cb pv rv kv))) := hD
                obtain rfl : r_5 = nI (10 ^ cd j2) := hr_5.trans (by rw [hOj2]; rfl)
                refine lv_iadd hx hb dL_areMembers_95 ?_
                refine lv_istore (lv' := [(5, .int (x5 + (nI (10 ^ cd j2)))), (4, .int (x4 + 0)), (6, .int 0), (8, .int (cv j2)), (7, .int (nI k)), (3, .int (nI f)), (2, .int (nI p)), (1, .int (nI c)), (0, .ref (a 0))]) hx hb dL_areMembers_96 hl (by decide) rfl (fun ls hl => ?_)
                refine lv_iinc (v := nI (k + 1)) (lv' := [(7, .int (nI (k + 1))), (5, .int (x5 + (nI (10 ^ cd j2)))), (4, .int (x4 + 0)), (6, .int 0), (8, .int (cv j2)), (3, .int (nI f)), (2, .int (nI p)), (1, .int (nI c)), (0, .ref (a 0))]) hx hb dL_areMembers_98 hl (k := 4) rfl (nI_1 k) (by decide) rfl (fun ls hl => ?_)
                refine lv_goto (tgt := 12) hx hb dL_areMembers_101 (by decide) ?_
                refine W.widen (k := 8 * (k + 1) + 0) (n := 48 * (k + 1) + 0) (by omega) (by omega) ?_
                exact ih_lp (k + 1) (x4 + 0) (x5 + (nI (10 ^ cd j2))) 0 _ _ (by omega) (by omega) (by rw [ms_0 hk0, e4]; exact Int32.add_zero _) (by rw [md_some (h := (fun q => hC ck cf cd nF (nI (c * 40 + p * 4 + q)) (nI f))) hOj2, e5]) (bI_f (ma_no hal)) hP hD hS _ (lv_sub hl [0, 3, 1, 2, 5, 6, 7, 8] rfl)
              · skip
                exact absurd c_78 (hcv j2).ne
            · skip
              refine lv_iload hx hb dL_areMembers_56 (lv_at hl 1 rfl) ?_
              refine lv_ldc (v := (-99000000)) hx hb hown w_0 dL_areMembers_58 ?_
              refine lv_icmp_ne (tgt := 67) hx hb dL_areMembers_60 (by decide) (fun c_60 => ?_) (fun c_60 => ?_)
              · skip
                refine lv_iload hx hb dL_areMembers_67 (lv_at hl 1 rfl) ?_
                refine lv_iadd hx hb dL_areMembers_69 ?_
                refine lv_istore (lv' := [(4, .int (x4 + (cv j2))), (6, .int 0), (8, .int (cv j2)), (7, .int (nI k)), (5, .int x5), (3, .int (nI f)), (2, .int (nI p)), (1, .int (nI c)), (0, .ref (a 0))]) hx hb dL_areMembers_70 hl (by decide) rfl (fun ls hl => ?_)
                refine lv_iload hx hb dL_areMembers_72 (lv_at hl 4 rfl) ?_
                refine lv_iload hx hb dL_areMembers_74 (lv_at hl 2 rfl) ?_
                refine lv_ldc (v := (-99000000)) hx hb hown w_0 dL_areMembers_76 ?_
                refine lv_icmp_ne (tgt := 85) hx hb dL_areMembers_78 (by decide) (fun c_78 => ?_) (fun c_78 => ?_)
                · skip
                  refine lv_aload_n hx hb dL_areMembers_85 rfl (lv_at hl 8 rfl) ?_
                  refine lv_iconst (v := 1) hx hb dL_areMembers_86 (by decide) ?_
                  refine lv_iload_n hx hb dL_areMembers_87 rfl (lv_at hl 7 rfl) ?_
                  refine lv_iload_n hx hb dL_areMembers_88 rfl (lv_at hl 6 rfl) ?_
                  refine lv_iload hx hb dL_areMembers_89 (lv_at hl 3 rfl) ?_
                  refine lv_iload_n hx hb dL_areMembers_91 rfl (lv_at hl 5 rfl) ?_
                  refine va_calli (vx_runSW (hh := [(0, 27, 28, 19)]) (As := [.ref (a 0), .int 1, .int (nI c), .int (nI p), .int (nI k), .int (nI f)]) (rest := [.int x5]) ⟨hx, hb, hml, hown, hts⟩ (kL_heldD l D cI cZ cO cL dt A a FA nC nR nL nF par wt sk fk hd rea sig ck cf cd cv nx pb rb cb pv rv kv L c p k f hlt hOk (by omega) (by omega) (by omega) (by omega)) (vx_cwSW 6 hts gL_areMembers_L_held rfl rfl rfl (by decide +kernel) ⟨(Nat.le_of_ble_eq_true rfl), (Nat.le_of_ble_eq_true rfl)⟩) (gP.s (hg.on hS) (⟨hP, hD⟩)) rfl rfl hl.1 rfl (lv_room (Nat.le_of_ble_eq_true rfl)) dL_areMembers_92 ⟨by show 8 * k + 4 + 4 ≤ 40; omega, by show 48 * k + 24 + 24 ≤ 240; omega⟩) hS (fun q _ h => h) (fun q h => h) (fun r_6 ur_6 tr_6 H locs htr_6 hvmr_6 hr_6 hB hzr_6 hkr_6 hS => ?_)
                  rw [htr_6] at hB
                  obtain ⟨hP, hD⟩ := hB
                  refine W.widen (k := 8 * k + 8) (n := 48 * k + 48) (by omega) (by omega) ?_
                  have hP : va_P D vwCl (WD cI cO a FA nC nR nL nF par wt (fun r => nI (sk r)) (fun r => nI (fk r)) hd rea sig ++ (WF FA ck cf cd cv nx nF ++ (LR cI pb rb cb pv rv kv))) H := hP
                  have hD : va_D A (WD cI cO a FA nC nR nL nF par wt (fun r => nI (sk r)) (fun r => nI (fk r)) hd rea sig ++ (WF FA ck cf cd cv nx nF ++ (LR cI pb rb cb pv rv kv))) := hD
                  obtain rfl : r_6 = nI (10 ^ cd j2) := hr_6.trans (by rw [hOj2]; rfl)
                  refine lv_iadd hx hb dL_areMembers_95 ?_
                  refine lv_istore (lv' := [(5, .int (x5 + (nI (10 ^ cd j2)))), (4, .int (x4 + (cv j2))), (6, .int 0), (8, .int (cv j2)), (7, .int (nI k)), (3, .int (nI f)), (2, .int (nI p)), (1, .int (nI c)), (0, .ref (a 0))]) hx hb dL_areMembers_96 hl (by decide) rfl (fun ls hl => ?_)
                  refine lv_iinc (v := nI (k + 1)) (lv' := [(7, .int (nI (k + 1))), (5, .int (x5 + (nI (10 ^ cd j2)))), (4, .int (x4 + (cv j2))), (6, .int 0), (8, .int (cv j2)), (3, .int (nI f)), (2, .int (nI p)), (1, .int (nI c)), (0, .ref (a 0))]) hx hb dL_areMembers_98 hl (k := 4) rfl (nI_1 k) (by decide) rfl (fun ls hl => ?_)
                  refine lv_goto (tgt := 12) hx hb dL_areMembers_101 (by decide) ?_
                  refine W.widen (k := 8 * (k + 1) + 0) (n := 48 * (k + 1) + 0) (by omega) (by omega) ?_
                  exact ih_lp (k + 1) (x4 + (cv j2)) (x5 + (nI (10 ^ cd j2))) 0 _ _ (by omega) (by omega) (by rw [ms_some (h := (fun q => hC ck cf cd nF (nI (c * 40 + p * 4 + q)) (nI f))) (fun z => c_53 (by rw [z]; rfl)) hOj2, e4]) (by rw [md_some (h := (fun q => hC ck cf cd nF (nI (c * 40 + p * 4 + q)) (nI f))) hOj2, e5]) (bI_f (ma_no hal)) hP hD hS _ (lv_sub hl [0, 3, 1, 2, 5, 6, 7, 8] rfl)
                · skip
                  exact absurd c_78 (hcv j2).ne
              · skip
                exact absurd c_60 (hcv j2).ne
          · skip
            have hal : mAll (fun q => hC ck cf cd nF (nI (c * 40 + p * 4 + q)) (nI f)) k = true := bI_n (fun z => c_32 (e6.trans z))
            refine lv_iload hx hb dL_areMembers_35 (lv_at hl 0 rfl) ?_
            refine lv_ldc (v := (-99000000)) hx hb hown w_0 dL_areMembers_37 ?_
            refine lv_icmp_eq (tgt := 46) hx hb dL_areMembers_39 (by decide) (fun c_39 => ?_) (fun c_39 => ?_)
            · skip
              exact absurd c_39 (hcv j2).ne
            · skip
              refine lv_iconst (v := 1) hx hb dL_areMembers_42 (by decide) ?_
              refine lv_goto (tgt := 47) hx hb dL_areMembers_43 (by decide) ?_
              refine lv_istore (lv' := [(6, .int 1), (8, .int (cv j2)), (7, .int (nI k)), (5, .int x5), (4, .int x4), (3, .int (nI f)), (2, .int (nI p)), (1, .int (nI c)), (0, .ref (a 0))]) hx hb dL_areMembers_47 hl (by decide) rfl (fun ls hl => ?_)
              refine lv_iload hx hb dL_areMembers_49 (lv_at hl 4 rfl) ?_
              refine lv_iload hx hb dL_areMembers_51 (lv_at hl 2 rfl) ?_
              refine lv_if_eq (tgt := 63) hx hb dL_areMembers_53 (by decide) (fun c_53 => ?_) (fun c_53 => ?_)
              · skip
                have hk0 : k = 0 := (nI_eq (b := 0) (by omega) (by decide)).mp c_53
                refine lv_iconst (v := 0) hx hb dL_areMembers_63 (by decide) ?_
                refine lv_goto (tgt := 69) hx hb dL_areMembers_64 (by decide) ?_
                refine lv_iadd hx hb dL_areMembers_69 ?_
                refine lv_istore (lv' := [(4, .int (x4 + 0)), (6, .int 1), (8, .int (cv j2)), (7, .int (nI k)), (5, .int x5), (3, .int (nI f)), (2, .int (nI p)), (1, .int (nI c)), (0, .ref (a 0))]) hx hb dL_areMembers_70 hl (by decide) rfl (fun ls hl => ?_)
                refine lv_iload hx hb dL_areMembers_72 (lv_at hl 4 rfl) ?_
                refine lv_iload hx hb dL_areMembers_74 (lv_at hl 2 rfl) ?_
                refine lv_ldc (v := (-99000000)) hx hb hown w_0 dL_areMembers_76 ?_
                refine lv_icmp_ne (tgt := 85) hx hb dL_areMembers_78 (by decide) (fun c_78 => ?_) (fun c_78 => ?_)
                · skip
                  refine lv_aload_n hx hb dL_areMembers_85 rfl (lv_at hl 8 rfl) ?_
                  refine lv_iconst (v := 1) hx hb dL_areMembers_86 (by decide) ?_
                  refine lv_iload_n hx hb dL_areMembers_87 rfl (lv_at hl 7 rfl) ?_
                  refine lv_iload_n hx hb dL_areMembers_88 rfl (lv_at hl 6 rfl) ?_
                  refine lv_iload hx hb dL_areMembers_89 (lv_at hl 3 rfl) ?_
                  refine lv_iload_n hx hb dL_areMembers_91 rfl (lv_at hl 5 rfl) ?_
                  refine va_calli (vx_runSW (hh := [(0, 27, 28, 19)]) (As := [.ref (a 0), .int 1, .int (nI c), .int (nI p), .int (nI k), .int (nI f)]) (rest := [.int x5]) ⟨hx, hb, hml, hown, hts⟩ (kL_heldD l D cI cZ cO cL dt A a FA nC nR nL nF par wt sk fk hd rea sig ck cf cd cv nx pb rb cb pv rv kv L c p k f hlt hOk (by omega) (by omega) (by omega) (by omega)) (vx_cwSW 6 hts gL_areMembers_L_held rfl rfl rfl (by decide +kernel) ⟨(Nat.le_of_ble_eq_true rfl), (Nat.le_of_ble_eq_true rfl)⟩) (gP.s (hg.on hS) (⟨hP, hD⟩)) rfl rfl hl.1 rfl (lv_room (Nat.le_of_ble_eq_true rfl)) dL_areMembers_92 ⟨by show 8 * k + 4 + 4 ≤ 40; omega, by show 48 * k + 24 + 24 ≤ 240; omega⟩) hS (fun q _ h => h) (fun q h => h) (fun r_7 ur_7 tr_7 H locs htr_7 hvmr_7 hr_7 hB hzr_7 hkr_7 hS => ?_)
                  rw [htr_7] at hB
                  obtain ⟨hP, hD⟩ := hB
                  refine W.widen (k := 8 * k + 8) (n := 48 * k + 48) (by omega) (by omega) ?_
                  have hP : va_P D vwCl (WD cI cO a FA nC nR nL nF par wt (fun r => nI (sk r)) (fun r => nI (fk r)) hd rea sig ++ (WF FA ck cf cd cv nx nF ++ (LR cI pb rb cb pv rv kv))) H := hP
                  have hD : va_D A (WD cI cO a FA nC nR nL nF par wt (fun r => nI (sk r)) (fun r => nI (fk r)) hd rea sig ++ (WF FA ck cf cd cv nx nF ++ (LR cI pb rb cb pv rv kv))) := hD
                  obtain rfl : r_7 = nI (10 ^ cd j2) := hr_7.trans (by rw [hOj2]; rfl)
                  refine lv_iadd hx hb dL_areMembers_95 ?_
                  refine lv_istore (lv' := [(5, .int (x5 + (nI (10 ^ cd j2)))), (4, .int (x4 + 0)), (6, .int 1), (8, .int (cv j2)), (7, .int (nI k)), (3, .int (nI f)), (2, .int (nI p)), (1, .int (nI c)), (0, .ref (a 0))]) hx hb dL_areMembers_96 hl (by decide) rfl (fun ls hl => ?_)
                  refine lv_iinc (v := nI (k + 1)) (lv' := [(7, .int (nI (k + 1))), (5, .int (x5 + (nI (10 ^ cd j2)))), (4, .int (x4 + 0)), (6, .int 1), (8, .int (cv j2)), (3, .int (nI f)), (2, .int (nI p)), (1, .int (nI c)), (0, .ref (a 0))]) hx hb dL_areMembers_98 hl (k := 4) rfl (nI_1 k) (by decide) rfl (fun ls hl => ?_)
                  refine lv_goto (tgt := 12) hx hb dL_areMembers_101 (by decide) ?_
                  refine W.widen (k := 8 * (k + 1) + 0) (n := 48 * (k + 1) + 0) (by omega) (by omega) ?_
                  exact ih_lp (k + 1) (x4 + 0) (x5 + (nI (10 ^ cd j2))) 1 _ _ (by omega) (by omega) (by rw [ms_0 hk0, e4]; exact Int32.add_zero _) (by rw [md_some (h := (fun q => hC ck cf cd nF (nI (c * 40 + p * 4 + q)) (nI f))) hOj2, e5]) (bI_t (ma_yes (h := (fun q => hC ck cf cd nF (nI (c * 40 + p * 4 + q)) (nI f))) hal hOj2)) hP hD hS _ (lv_sub hl [0, 3, 1, 2, 5, 6, 7, 8] rfl)
                · skip
                  exact absurd c_78 (hcv j2).ne
              · skip
                refine lv_iload hx hb dL_areMembers_56 (lv_at hl 1 rfl) ?_
                refine lv_ldc (v := (-99000000)) hx hb hown w_0 dL_areMembers_58 ?_
                refine lv_icmp_ne (tgt := 67) hx hb dL_areMembers_60 (by decide) (fun c_60 => ?_) (fun c_60 => ?_)
                · skip
                  refine lv_iload hx hb dL_areMembers_67 (lv_at hl 1 rfl) ?_
                  refine lv_iadd hx hb dL_areMembers_69 ?_
                  refine lv_istore (lv' := [(4, .int (x4 + (cv j2))), (6, .int 1), (8, .int (cv j2)), (7, .int (nI k)), (5, .int x5), (3, .int (nI f)), (2, .int (nI p)), (1, .int (nI c)), (0, .ref (a 0))]) hx hb dL_areMembers_70 hl (by decide) rfl (fun ls hl => ?_)
                  refine lv_iload hx hb dL_areMembers_72 (lv_at hl 4 rfl) ?_
                  refine lv_iload hx hb dL_areMembers_74 (lv_at hl 2 rfl) ?_
                  refine lv_ldc (v := (-99000000)) hx hb hown w_0 dL_areMembers_76 ?_
                  refine lv_icmp_ne (tgt := 85) hx hb dL_areMembers_78 (by decide) (fun c_78 => ?_) (fun c_78 => ?_)
                  · skip
                    refine lv_aload_n hx hb dL_areMembers_85 rfl (lv_at hl 8 rfl) ?_
                    refine lv_iconst (v := 1) hx hb dL_areMembers_86 (by decide) ?_
                    refine lv_iload_n hx hb dL_areMembers_87 rfl (lv_at hl 7 rfl) ?_
                    refine lv_iload_n hx hb dL_areMembers_88 rfl (lv_at hl 6 rfl) ?_
                    refine lv_iload hx hb dL_areMembers_89 (lv_at hl 3 rfl) ?_
                    refine lv_iload_n hx hb dL_areMembers_91 rfl (lv_at hl 5 rfl) ?_
                    refine va_calli (vx_runSW (hh := [(0, 27, 28, 19)]) (As := [.ref (a 0), .int 1, .int (nI c), .int (nI p), .int (nI k), .int (nI f)]) (rest := [.int x5]) ⟨hx, hb, hml, hown, hts⟩ (kL_heldD l D cI cZ cO cL dt A a FA nC nR nL nF par wt sk fk hd rea sig ck cf cd cv nx pb rb cb pv rv kv L c p k f hlt hOk (by omega) (by omega) (by omega) (by omega)) (vx_cwSW 6 hts gL_areMembers_L_held rfl rfl rfl (by decide +kernel) ⟨(Nat.le_of_ble_eq_true rfl), (Nat.le_of_ble_eq_true rfl)⟩) (gP.s (hg.on hS) (⟨hP, hD⟩)) rfl rfl hl.1 rfl (lv_room (Nat.le_of_ble_eq_true rfl)) dL_areMembers_92 ⟨by show 8 * k + 4 + 4 ≤ 40; omega, by show 48 * k + 24 + 24 ≤ 240; omega⟩) hS (fun q _ h => h) (fun q h => h) (fun r_8 ur_8 tr_8 H locs htr_8 hvmr_8 hr_8 hB hzr_8 hkr_8 hS => ?_)
                    rw [htr_8] at hB
                    obtain ⟨hP, hD⟩ := hB
                    refine W.widen (k := 8 * k + 8) (n := 48 * k + 48) (by omega) (by omega) ?_
                    have hP : va_P D vwCl (WD cI cO a FA nC nR nL nF par wt (fun r => nI (sk r)) (fun r => nI (fk r)) hd rea sig ++ (WF FA ck cf cd cv nx nF ++ (LR cI pb rb cb pv rv kv))) H := hP
                    have hD : va_D A (WD cI cO a FA nC nR nL nF par wt (fun r => nI (sk r)) (fun r => nI (fk r)) hd rea sig ++ (WF FA ck cf cd cv nx nF ++ (LR cI pb rb cb pv rv kv))) := hD
                    obtain rfl : r_8 = nI (10 ^ cd j2) := hr_8.trans (by rw [hOj2]; rfl)
                    refine lv_iadd hx hb dL_areMembers_95 ?_
                    refine lv_istore (lv' := [(5, .int (x5 + (nI (10 ^ cd j2)))), (4, .int (x4 + (cv j2))), (6, .int 1), (8, .int (cv j2)), (7, .int (nI k)), (3, .int (nI f)), (2, .int (nI p)), (1, .int (nI c)), (0, .ref (a 0))]) hx hb dL_areMembers_96 hl (by decide) rfl (fun ls hl => ?_)
                    refine lv_iinc (v := nI (k + 1)) (lv' := [(7, .int (nI (k + 1))), (5, .int (x5 + (nI (10 ^ cd j2)))), (4, .int (x4 + (cv j2))), (6, .int 1), (8, .int (cv j2)), (3, .int (nI f)), (2, .int (nI p)), (1, .int (nI c)), (0, .ref (a 0))]) hx hb dL_areMembers_98 hl (k := 4) rfl (nI_1 k) (by decide) rfl (fun ls hl => ?_)
                    refine lv_goto (tgt := 12) hx hb dL_areMembers_101 (by decide) ?_
                    refine W.widen (k := 8 * (k + 1) + 0) (n := 48 * (k + 1) + 0) (by omega) (by omega) ?_
                    exact ih_lp (k + 1) (x4 + (cv j2)) (x5 + (nI (10 ^ cd j2))) 1 _ _ (by omega) (by omega) (by rw [ms_some (h := (fun q => hC ck cf cd nF (nI (c * 40 + p * 4 + q)) (nI f))) (fun z => c_53 (by rw [z]; rfl)) hOj2, e4]) (by rw [md_some (h := (fun q => hC ck cf cd nF (nI (c * 40 + p * 4 + q)) (nI f))) hOj2, e5]) (bI_t (ma_yes (h := (fun q => hC ck cf cd nF (nI (c * 40 + p * 4 + q)) (nI f))) hal hOj2)) hP hD hS _ (lv_sub hl [0, 3, 1, 2, 5, 6, 7, 8] rfl)
                  · skip
                    exact absurd c_78 (hcv j2).ne
                · skip
                  exact absurd c_60 (hcv j2).ne
  exact lp (4 + 1) 0 0 0 1 _ _ (by omega) (by omega) rfl rfl (bI_t rfl) hP hD hS _ (lv_sub hl [0, 1, 2, 3, 7, 6, 5, 4] rfl)
set_option maxHeartbeats 4000000 in
set_option maxRecDepth 100000 in
/-- a rule at a period and member -/
theorem kL_isRoll (l : Launch) (D : va_G) (cI cZ cO cL : ClassId) (dt : Nat) (A : Nat → Prop) (a FA : Nat → Nat) (nC nR nL nF : Nat) (par wt : Nat → Int32) (sk fk : Nat → Nat) (hd : Nat → Option Nat) (rea sig : Nat → Int32) (ck cf cd : Nat → Nat) (cv : Nat → Int32) (nx : Nat → Option Nat) (pb rb cb : Nat) (pv rv kv : Nat → Int32) (L : List Nat) (ri p m f : Nat) (hlt : l.stackTraces = false) (hOk : sOk nC nR nL nF par wt sk fk hd ck cf cd cv nx L) (hrk : rOk2 nR sk fk rv) (hri : ri < nR) (hp : p < 10) (hm : m < 4) (hf : f < nL + 1) : Met l yL_isRoll wsL_isRoll ({ frames := 11, cells := 30, slots := 180, locals := 209 } : Room) (gP D cI cZ cO cL dt A [.ref (a 0), .ref rb, .int (nI ri), .int (nI p), .int (nI m), .int (nI f)] (fun H => va_P D vwCl (WD cI cO a FA nC nR nL nF par wt (fun r => nI (sk r)) (fun r => nI (fk r)) hd rea sig ++ (WF FA ck cf cd cv nx nF ++ (LR cI pb rb cb pv rv kv))) H ∧ va_D A (WD cI cO a FA nC nR nL nF par wt (fun r => nI (sk r)) (fun r => nI (fk r)) hd rea sig ++ (WF FA ck cf cd cv nx nF ++ (LR cI pb rb cb pv rv kv))))) (va_Qi (fun (r : Int32) (_ : Unit) => r = 1) (fun _ t => va_P D vwCl (WD cI cO a FA nC nR nL nF par wt (fun r => nI (sk r)) (fun r => nI (fk r)) hd rea sig ++ (WF FA ck cf cd cv nx nF ++ (LR cI pb rb cb pv rv kv))) t.heap ∧ va_D A (WD cI cO a FA nC nR nL nF par wt (fun r => nI (sk r)) (fun r => nI (fk r)) hd rea sig ++ (WF FA ck cf cd cv nx nF ++ (LR cI pb rb cb pv rv kv)))) A) 30 180 A := by
  refine Met.ofW (cc := cL_isRoll) (maxL := 11) (ret := (some .boolean)) (by decide) rfl ?_
  intro p9 e9 s m9 args below meth c9 s₁ B hml hv
  obtain ⟨rfl, hg, hP, hD⟩ := hv
  have hx := B.exec
  have hb := B.bytes
  have hr := B.returns
  have hts := atoms_spec (ws := wsL_isRoll) B.pre
  have hown : s.vm.findClass RL = some m9.cls := findClass_of_methodNamed B.named
  have hlocks := B.notSynchronized
  have hK := hg.1
  have hS : va_S A s.heap s.heap [] := va_S.rf
  obtain ⟨⟨hC12, hR5, hL8, hF⟩, ⟨hT, hwt⟩, ⟨hsk12, hfk12, hskC⟩, ⟨hCh, hH, hN, hfL⟩, hck, hcf8, hcd, hcv, hckC⟩ := id hOk
  have hcf : ∀ k, cf k < 2 ^ 31 := fun k => by have := hcf8 k; omega
  have w_0 := hts (.constant RL 21 (-99000000)) (by decide +kernel)
  have hl := lv_entry ([.ref (a 0), .ref rb, .int (nI ri), .int (nI p), .int (nI m), .int (nI f)]) (n := 11) (Nat.le_of_ble_eq_true rfl)
  rw [lg_entry_eq]
  generalize (lg_sl ([.ref (a 0), .ref rb, .int (nI ri), .int (nI p), .int (nI m), .int (nI f)]) ++ List.replicate (11 - (lg_sl ([.ref (a 0), .ref rb, .int (nI ri), .int (nI p), .int (nI m), .int (nI f)])).length) Slot.unset).toArray = ls at hl ⊢
  have hl : lv_has ls 11 [(0, .ref (a 0)), (1, .ref rb), (2, .int (nI ri)), (3, .int (nI p)), (4, .int (nI m)), (5, .int (nI f))] := hl
  refine lv_iload_n hx hb dL_isRoll_0 rfl (lv_at hl 3 rfl) ?_
  refine lv_if_ne (tgt := 23) hx hb dL_isRoll_1 (by decide) (fun c_1 => ?_) (fun c_1 => ?_)
  · skip
    have hp0 : 0 < p := Nat.pos_of_ne_zero (fun z => c_1 (by rw [z]; rfl))
    refine lv_aload_n hx hb dL_isRoll_23 rfl (lv_at hl 0 rfl) ?_
    refine lv_iconst (v := 0) hx hb dL_isRoll_24 (by decide) ?_
    refine lv_aload_n hx hb dL_isRoll_25 rfl (lv_at hl 1 rfl) ?_
    refine lv_iconst (v := 2) hx hb dL_isRoll_26 (by decide) ?_
    refine lv_iload_n hx hb dL_isRoll_27 rfl (lv_at hl 2 rfl) ?_
    refine lv_imul hx hb dL_isRoll_28 ?_
    refine lv_topi (fun dv edv => ?_)
    obtain rfl : dv = nI (2 * ri) := by rw [edv]; exact pk_mul 2 ri
    refine g_iald hx hb hK hP (11 + nF + 1) 0 (n := 10) (f := rv) (WDRj 1 rfl) rfl (2 * ri) rfl (by omega) (by decide) dL_isRoll_29 ?_
    refine lv_topi (fun dv edv => ?_)
    obtain rfl : dv = nI (sk ri) := by rw [edv]; exact (hrk _ (by omega)).1
    refine lv_iload_n hx hb dL_isRoll_30 rfl (lv_at hl 3 rfl) ?_
    refine lv_iload hx hb dL_isRoll_31 (lv_at hl 4 rfl) ?_
    refine lv_iload hx hb dL_isRoll_33 (lv_at hl 5 rfl) ?_
    refine va_calli (vx_runSW (hh := [(0, 27, 28, 19)]) (As := [.ref (a 0), .int 0, .int (nI (sk ri)), .int (nI p), .int (nI m), .int (nI f)]) (rest := []) ⟨hx, hb, hml, hown, hts⟩ (kL_held l D cI cZ cO cL dt A a FA nC nR nL nF par wt sk fk hd rea sig ck cf cd cv nx pb rb cb pv rv kv L (sk ri) p m f hlt hOk (hskC ri hri).1 (by omega) (by omega) (by omega)) (vx_cwSW 6 hts gL_isRoll_L_held rfl rfl rfl (by decide +kernel) ⟨(Nat.le_of_ble_eq_true rfl), (Nat.le_of_ble_eq_true rfl)⟩) (gP.s (hg.on hS) (⟨hP, hD⟩)) rfl rfl hl.1 rfl (lv_room (Nat.le_of_ble_eq_true rfl)) dL_isRoll_35 ⟨(Nat.le_of_ble_eq_true rfl), (Nat.le_of_ble_eq_true rfl)⟩) hS (fun q _ h => h) (fun q h => h) (fun r_1 ur_1 tr_1 H locs htr_1 hvmr_1 hr_1 hB hzr_1 hkr_1 hS => ?_)
    rw [htr_1] at hB
    obtain ⟨hP, hD⟩ := hB
    refine W.widen (k := 4) (n := 24) (Nat.le_of_ble_eq_true rfl) (Nat.le_of_ble_eq_true rfl) ?_
    have hP : va_P D vwCl (WD cI cO a FA nC nR nL nF par wt (fun r => nI (sk r)) (fun r => nI (fk r)) hd rea sig ++ (WF FA ck cf cd cv nx nF ++ (LR cI pb rb cb pv rv kv))) H := hP
    have hD : va_D A (WD cI cO a FA nC nR nL nF par wt (fun r => nI (sk r)) (fun r => nI (fk r)) hd rea sig ++ (WF FA ck cf cd cv nx nF ++ (LR cI pb rb cb pv rv kv))) := hD
    obtain ⟨o_r_1, hOj1⟩ : ∃ z, hC ck cf cd nF (nI ((sk ri) * 40 + p * 4 + m)) (nI f) = z := ⟨_, rfl⟩
    rcases o_r_1 with _ | j1
    · skip
      obtain rfl : r_1 = (-99000000) := hr_1.trans (congrArg (hv cv) hOj1)
      refine lv_istore (lv' := [(6, .int (-99000000)), (0, .ref (a 0)), (1, .ref rb), (2, .int (nI ri)), (3, .int (nI p)), (4, .int (nI m)), (5, .int (nI f))]) hx hb dL_isRoll_38 hl (by decide) rfl (fun ls hl => ?_)
      refine lv_aload_n hx hb dL_isRoll_40 rfl (lv_at hl 1 rfl) ?_
      refine lv_iconst (v := 0) hx hb dL_isRoll_41 (by decide) ?_
      refine lv_aload_n hx hb dL_isRoll_42 rfl (lv_at hl 2 rfl) ?_
      refine lv_iconst (v := 2) hx hb dL_isRoll_43 (by decide) ?_
      refine lv_iload_n hx hb dL_isRoll_44 rfl (lv_at hl 3 rfl) ?_
      refine lv_imul hx hb dL_isRoll_45 ?_
      refine lv_topi (fun dv edv => ?_)
      obtain rfl : dv = nI (2 * ri) := by rw [edv]; exact pk_mul 2 ri
      refine g_iald hx hb hK hP (11 + nF + 1) 0 (n := 10) (f := rv) (WDRj 1 rfl) rfl (2 * ri) rfl (by omega) (by decide) dL_isRoll_46 ?_
      refine lv_topi (fun dv edv => ?_)
      obtain rfl : dv = nI (sk ri) := by rw [edv]; exact (hrk _ (by omega)).1
      refine lv_iload_n hx hb dL_isRoll_47 rfl (lv_at hl 4 rfl) ?_
      refine lv_iconst (v := 1) hx hb dL_isRoll_48 (by decide) ?_
      refine lv_isub hx hb dL_isRoll_49 ?_
      refine lv_topi (fun dv edv => ?_)
      obtain rfl : dv = nI (p - 1) := by rw [edv]; exact nI_sub1 (by omega)
      refine lv_iload hx hb dL_isRoll_50 (lv_at hl 5 rfl) ?_
      refine lv_iload hx hb dL_isRoll_52 (lv_at hl 6 rfl) ?_
      refine va_calli (vx_runSW (hh := [(0, 27, 28, 19)]) (As := [.ref (a 0), .int 0, .int (nI (sk ri)), .int (nI (p - 1)), .int (nI m), .int (nI f)]) (rest := []) ⟨hx, hb, hml, hown, hts⟩ (kL_held l D cI cZ cO cL dt A a FA nC nR nL nF par wt sk fk hd rea sig ck cf cd cv nx pb rb cb pv rv kv L (sk ri) (p - 1) m f hlt hOk (hskC ri hri).1 (by omega) (by omega) (by omega)) (vx_cwSW 6 hts gL_isRoll_L_held rfl rfl rfl (by decide +kernel) ⟨(Nat.le_of_ble_eq_true rfl), (Nat.le_of_ble_eq_true rfl)⟩) (gP.s (hg.on hS) (⟨hP, hD⟩)) rfl rfl hl.1 rfl (lv_room (Nat.le_of_ble_eq_true rfl)) dL_isRoll_54 ⟨(Nat.le_of_ble_eq_true rfl), (Nat.le_of_ble_eq_true rfl)⟩) hS (fun q _ h => h) (fun q h => h) (fun r_2 ur_2 tr_2 H locs htr_2 hvmr_2 hr_2 hB hzr_2 hkr_2 hS => ?_)
      rw [htr_2] at hB
      obtain ⟨hP, hD⟩ := hB
      refine W.widen (k := 8) (n := 48) (Nat.le_of_ble_eq_true rfl) (Nat.le_of_ble_eq_true rfl) ?_
      have hP : va_P D vwCl (WD cI cO a FA nC nR nL nF par wt (fun r => nI (sk r)) (fun r => nI (fk r)) hd rea sig ++ (WF FA ck cf cd cv nx nF ++ (LR cI pb rb cb pv rv kv))) H := hP
      have hD : va_D A (WD cI cO a FA nC nR nL nF par wt (fun r => nI (sk r)) (fun r => nI (fk r)) hd rea sig ++ (WF FA ck cf cd cv nx nF ++ (LR cI pb rb cb pv rv kv))) := hD
      obtain ⟨o_r_2, hOj2⟩ : ∃ z, hC ck cf cd nF (nI ((sk ri) * 40 + (p - 1) * 4 + m)) (nI f) = z := ⟨_, rfl⟩
      rcases o_r_2 with _ | j2
      · skip
        obtain rfl : r_2 = (-99000000) := hr_2.trans (congrArg (hv cv) hOj2)
        refine lv_istore (lv' := [(7, .int (-99000000)), (6, .int (-99000000)), (0, .ref (a 0)), (1, .ref rb), (2, .int (nI ri)), (3, .int (nI p)), (4, .int (nI m)), (5, .int (nI f))]) hx hb dL_isRoll_57 hl (by decide) rfl (fun ls hl => ?_)
        refine lv_aload_n hx hb dL_isRoll_59 rfl (lv_at hl 2 rfl) ?_
        refine lv_iconst (v := 0) hx hb dL_isRoll_60 (by decide) ?_
        refine lv_aload_n hx hb dL_isRoll_61 rfl (lv_at hl 3 rfl) ?_
        refine lv_iconst (v := 2) hx hb dL_isRoll_62 (by decide) ?_
        refine lv_iload_n hx hb dL_isRoll_63 rfl (lv_at hl 4 rfl) ?_
        refine lv_imul hx hb dL_isRoll_64 ?_
        refine lv_topi (fun dv edv => ?_)
        obtain rfl : dv = nI (2 * ri) := by rw [edv]; exact pk_mul 2 ri
        refine lv_iconst (v := 1) hx hb dL_isRoll_65 (by decide) ?_
        refine lv_iadd hx hb dL_isRoll_66 ?_
        refine lv_topi (fun dv edv => ?_)
        obtain rfl : dv = nI ((2 * ri) + 1) := by rw [edv]; exact nI_add (2 * ri) 1
        refine g_iald hx hb hK hP (11 + nF + 1) 0 (n := 10) (f := rv) (WDRj 1 rfl) rfl ((2 * ri) + 1) rfl (by omega) (by decide) dL_isRoll_67 ?_
        refine lv_topi (fun dv edv => ?_)
        obtain rfl : dv = nI (fk ri) := by rw [edv]; exact (hrk _ (by omega)).2
        refine lv_iload_n hx hb dL_isRoll_68 rfl (lv_at hl 5 rfl) ?_
        refine lv_iload hx hb dL_isRoll_69 (lv_at hl 6 rfl) ?_
        refine lv_iload hx hb dL_isRoll_71 (lv_at hl 7 rfl) ?_
        refine va_calli (vx_runSW (hh := [(0, 27, 28, 19)]) (As := [.ref (a 0), .int 0, .int (nI (fk ri)), .int (nI p), .int (nI m), .int (nI f)]) (rest := []) ⟨hx, hb, hml, hown, hts⟩ (kL_held l D cI cZ cO cL dt A a FA nC nR nL nF par wt sk fk hd rea sig ck cf cd cv nx pb rb cb pv rv kv L (fk ri) p m f hlt hOk (hskC ri hri).2 (by omega) (by omega) (by omega)) (vx_cwSW 6 hts gL_isRoll_L_held rfl rfl rfl (by decide +kernel) ⟨(Nat.le_of_ble_eq_true rfl), (Nat.le_of_ble_eq_true rfl)⟩) (gP.s (hg.on hS) (⟨hP, hD⟩)) rfl rfl hl.1 rfl (lv_room (Nat.le_of_ble_eq_true rfl)) dL_isRoll_73 ⟨(Nat.le_of_ble_eq_true rfl), (Nat.le_of_ble_eq_true rfl)⟩) hS (fun q _ h => h) (fun q h => h) (fun r_3 ur_3 tr_3 H locs htr_3 hvmr_3 hr_3 hB hzr_3 hkr_3 hS => ?_)
        rw [htr_3] at hB
        obtain ⟨hP, hD⟩ := hB
        refine W.widen (k := 12) (n := 72) (Nat.le_of_ble_eq_true rfl) (Nat.le_of_ble_eq_true rfl) ?_
        have hP : va_P D vwCl (WD cI cO a FA nC nR nL nF par wt (fun r => nI (sk r)) (fun r => nI (fk r)) hd rea sig ++ (WF FA ck cf cd cv nx nF ++ (LR cI pb rb cb pv rv kv))) H := hP
        have hD : va_D A (WD cI cO a FA nC nR nL nF par wt (fun r => nI (sk r)) (fun r => nI (fk r)) hd rea sig ++ (WF FA ck cf cd cv nx nF ++ (LR cI pb rb cb pv rv kv))) := hD
        obtain ⟨o_r_3, hOj3⟩ : ∃ z, hC ck cf cd nF (nI ((fk ri) * 40 + p * 4 + m)) (nI f) = z := ⟨_, rfl⟩
        rcases o_r_3 with _ | j3
        · skip
          obtain rfl : r_3 = (-99000000) := hr_3.trans (congrArg (hv cv) hOj3)
          refine lv_istore (lv' := [(8, .int (-99000000)), (7, .int (-99000000)), (6, .int (-99000000)), (0, .ref (a 0)), (1, .ref rb), (2, .int (nI ri)), (3, .int (nI p)), (4, .int (nI m)), (5, .int (nI f))]) hx hb dL_isRoll_76 hl (by decide) rfl (fun ls hl => ?_)
          refine lv_iload hx hb dL_isRoll_78 (lv_at hl 2 rfl) ?_
          refine lv_ldc (v := (-99000000)) hx hb hown w_0 dL_isRoll_80 ?_
          refine lv_icmp_eq (tgt := 103) hx hb dL_isRoll_82 (by decide) (fun c_82 => ?_) (fun c_82 => ?_)
          · skip
            refine lv_iconst (v := 0) hx hb dL_isRoll_103 (by decide) ?_
            refine lv_istore (lv' := [(9, .int 0), (8, .int (-99000000)), (7, .int (-99000000)), (6, .int (-99000000)), (0, .ref (a 0)), (1, .ref rb), (2, .int (nI ri)), (3, .int (nI p)), (4, .int (nI m)), (5, .int (nI f))]) hx hb dL_isRoll_104 hl (by decide) rfl (fun ls hl => ?_)
            refine lv_aload_n hx hb dL_isRoll_106 rfl (lv_at hl 4 rfl) ?_
            refine lv_iconst (v := 1) hx hb dL_isRoll_107 (by decide) ?_
            refine lv_aload_n hx hb dL_isRoll_108 rfl (lv_at hl 5 rfl) ?_
            refine lv_iconst (v := 2) hx hb dL_isRoll_109 (by decide) ?_
            refine lv_iload_n hx hb dL_isRoll_110 rfl (lv_at hl 6 rfl) ?_
            refine lv_imul hx hb dL_isRoll_111 ?_
            refine lv_topi (fun dv edv => ?_)
            obtain rfl : dv = nI (2 * ri) := by rw [edv]; exact pk_mul 2 ri
            refine g_iald hx hb hK hP (11 + nF + 1) 0 (n := 10) (f := rv) (WDRj 1 rfl) rfl (2 * ri) rfl (by omega) (by decide) dL_isRoll_112 ?_
            refine lv_topi (fun dv edv => ?_)
            obtain rfl : dv = nI (sk ri) := by rw [edv]; exact (hrk _ (by omega)).1
            refine lv_iload_n hx hb dL_isRoll_113 rfl (lv_at hl 7 rfl) ?_
            refine lv_iload hx hb dL_isRoll_114 (lv_at hl 8 rfl) ?_
            refine lv_iload hx hb dL_isRoll_116 (lv_at hl 9 rfl) ?_
            refine va_calli (vx_runSW (hh := [(0, 27, 28, 19)]) (As := [.ref (a 0), .int 1, .int (nI (sk ri)), .int (nI p), .int (nI m), .int (nI f)]) (rest := []) ⟨hx, hb, hml, hown, hts⟩ (kL_heldD l D cI cZ cO cL dt A a FA nC nR nL nF par wt sk fk hd rea sig ck cf cd cv nx pb rb cb pv rv kv L (sk ri) p m f hlt hOk (hskC ri hri).1 (by omega) (by omega) (by omega)) (vx_cwSW 6 hts gL_isRoll_L_held rfl rfl rfl (by decide +kernel) ⟨(Nat.le_of_ble_eq_true rfl), (Nat.le_of_ble_eq_true rfl)⟩) (gP.s (hg.on hS) (⟨hP, hD⟩)) rfl rfl hl.1 rfl (lv_room (Nat.le_of_ble_eq_true rfl)) dL_isRoll_118 ⟨(Nat.le_of_ble_eq_true rfl), (Nat.le_of_ble_eq_true rfl)⟩) hS (fun q _ h => h) (fun q h => h) (fun r_4 ur_4 tr_4 H locs htr_4 hvmr_4 hr_4 hB hzr_4 hkr_4 hS => ?_)
            rw [htr_4] at hB
            obtain ⟨hP, hD⟩ := hB
            refine W.widen (k := 16) (n := 96) (Nat.le_of_ble_eq_true rfl) (Nat.le_of_ble_eq_true rfl) ?_
            have hP : va_P D vwCl (WD cI cO a FA nC nR nL nF par wt (fun r => nI (sk r)) (fun r => nI (fk r)) hd rea sig ++ (WF FA ck cf cd cv nx nF ++ (LR cI pb rb cb pv rv kv))) H := hP
            have hD : va_D A (WD cI cO a FA nC nR nL nF par wt (fun r => nI (sk r)) (fun r => nI (fk r)) hd rea sig ++ (WF FA ck cf cd cv nx nF ++ (LR cI pb rb cb pv rv kv))) := hD
            obtain rfl : r_4 = (-99000000) := hr_4.trans (by rw [hOj1]; rfl)
            refine lv_aload_n hx hb dL_isRoll_121 rfl (lv_at hl 4 rfl) ?_
            refine lv_iconst (v := 1) hx hb dL_isRoll_122 (by decide) ?_
            refine lv_aload_n hx hb dL_isRoll_123 rfl (lv_at hl 5 rfl) ?_
            refine lv_iconst (v := 2) hx hb dL_isRoll_124 (by decide) ?_
            refine lv_iload_n hx hb dL_isRoll_125 rfl (lv_at hl 6 rfl) ?_
            refine lv_imul hx hb dL_isRoll_126 ?_
            refine lv_topi (fun dv edv => ?_)
            obtain rfl : dv = nI (2 * ri) := by rw [edv]; exact pk_mul 2 ri
            refine g_iald hx hb hK hP (11 + nF + 1) 0 (n := 10) (f := rv) (WDRj 1 rfl) rfl (2 * ri) rfl (by omega) (by decide) dL_isRoll_127 ?_
            refine lv_topi (fun dv edv => ?_)
            obtain rfl : dv = nI (sk ri) := by rw [edv]; exact (hrk _ (by omega)).1
            refine lv_iload_n hx hb dL_isRoll_128 rfl (lv_at hl 7 rfl) ?_
            refine lv_iconst (v := 1) hx hb dL_isRoll_129 (by decide) ?_
            refine lv_isub hx hb dL_isRoll_130 ?_
            refine lv_topi (fun dv edv => ?_)
            obtain rfl : dv = nI (p - 1) := by rw [edv]; exact nI_sub1 (by omega)
            refine lv_iload hx hb dL_isRoll_131 (lv_at hl 8 rfl) ?_
            refine lv_iload hx hb dL_isRoll_133 (lv_at hl 9 rfl) ?_
            refine va_calli (vx_runSW (hh := [(0, 27, 28, 19)]) (As := [.ref (a 0), .int 1, .int (nI (sk ri)), .int (nI (p - 1)), .int (nI m), .int (nI f)]) (rest := [.int (-99000000)]) ⟨hx, hb, hml, hown, hts⟩ (kL_heldD l D cI cZ cO cL dt A a FA nC nR nL nF par wt sk fk hd rea sig ck cf cd cv nx pb rb cb pv rv kv L (sk ri) (p - 1) m f hlt hOk (hskC ri hri).1 (by omega) (by omega) (by omega)) (vx_cwSW 6 hts gL_isRoll_L_held rfl rfl rfl (by decide +kernel) ⟨(Nat.le_of_ble_eq_true rfl), (Nat.le_of_ble_eq_true rfl)⟩) (gP.s (hg.on hS) (⟨hP, hD⟩)) rfl rfl hl.1 rfl (lv_room (Nat.le_of_ble_eq_true rfl)) dL_isRoll_135 ⟨(Nat.le_of_ble_eq_true rfl), (Nat.le_of_ble_eq_true rfl)⟩) hS (fun q _ h => h) (fun q h => h) (fun r_5 ur_5 tr_5 H locs htr_5 hvmr_5 hr_5 hB hzr_5 hkr_5 hS => ?_)
            rw [htr_5] at hB
            obtain ⟨hP, hD⟩ := hB
            refine W.widen (k := 20) (n := 120) (Nat.le_of_ble_eq_true rfl) (Nat.le_of_ble_eq_true rfl) ?_
            have hP : va_P D vwCl (WD cI cO a FA nC nR nL nF par wt (fun r => nI (sk r)) (fun r => nI (fk r)) hd rea sig ++ (WF FA ck cf cd cv nx nF ++ (LR cI pb rb cb pv rv kv))) H := hP
            have hD : va_D A (WD cI cO a FA nC nR nL nF par wt (fun r => nI (sk r)) (fun r => nI (fk r)) hd rea sig ++ (WF FA ck cf cd cv nx nF ++ (LR cI pb rb cb pv rv kv))) := hD
            obtain rfl : r_5 = (-99000000) := hr_5.trans (by rw [hOj2]; rfl)
            refine lv_iadd hx hb dL_isRoll_138 ?_
            refine lv_aload_n hx hb dL_isRoll_139 rfl (lv_at hl 4 rfl) ?_
            refine lv_iconst (v := 1) hx hb dL_isRoll_140 (by decide) ?_
            refine lv_aload_n hx hb dL_isRoll_141 rfl (lv_at hl 5 rfl) ?_
            refine lv_iconst (v := 2) hx hb dL_isRoll_142 (by decide) ?_
            refine lv_iload_n hx hb dL_isRoll_143 rfl (lv_at hl 6 rfl) ?_
            refine lv_imul hx hb dL_isRoll_144 ?_
            refine lv_topi (fun dv edv => ?_)
            obtain rfl : dv = nI (2 * ri) := by rw [edv]; exact pk_mul 2 ri
            refine lv_iconst (v := 1) hx hb dL_isRoll_145 (by decide) ?_
            refine lv_iadd hx hb dL_isRoll_146 ?_
            refine lv_topi (fun dv edv => ?_)
            obtain rfl : dv = nI ((2 * ri) + 1) := by rw [edv]; exact nI_add (2 * ri) 1
            refine g_iald hx hb hK hP (11 + nF + 1) 0 (n := 10) (f := rv) (WDRj 1 rfl) rfl ((2 * ri) + 1) rfl (by omega) (by decide) dL_isRoll_147 ?_
            refine lv_topi (fun dv edv => ?_)
            obtain rfl : dv = nI (fk ri) := by rw [edv]; exact (hrk _ (by omega)).2
            refine lv_iload_n hx hb dL_isRoll_148 rfl (lv_at hl 7 rfl) ?_
            refine lv_iload hx hb dL_isRoll_149 (lv_at hl 8 rfl) ?_
            refine lv_iload hx hb dL_isRoll_151 (lv_at hl 9 rfl) ?_
            refine va_calli (vx_runSW (hh := [(0, 27, 28, 19)]) (As := [.ref (a 0), .int 1, .int (nI (fk ri)), .int (nI p), .int (nI m), .int (nI f)]) (rest := [.int ((-99000000) + (-99000000))]) ⟨hx, hb, hml, hown, hts⟩ (kL_heldD l D cI cZ cO cL dt A a FA nC nR nL nF par wt sk fk hd rea sig ck cf cd cv nx pb rb cb pv rv kv L (fk ri) p m f hlt hOk (hskC ri hri).2 (by omega) (by omega) (by omega)) (vx_cwSW 6 hts gL_isRoll_L_held rfl rfl rfl (by decide +kernel) ⟨(Nat.le_of_ble_eq_true rfl), (Nat.le_of_ble_eq_true rfl)⟩) (gP.s (hg.on hS) (⟨hP, hD⟩)) rfl rfl hl.1 rfl (lv_room (Nat.le_of_ble_eq_true rfl)) dL_isRoll_153 ⟨(Nat.le_of_ble_eq_true rfl), (Nat.le_of_ble_eq_true rfl)⟩) hS (fun q _ h => h) (fun q h => h) (fun r_6 ur_6 tr_6 H locs htr_6 hvmr_6 hr_6 hB hzr_6 hkr_6 hS => ?_)
            rw [htr_6] at hB
            obtain ⟨hP, hD⟩ := hB
            refine W.widen (k := 24) (n := 144) (Nat.le_of_ble_eq_true rfl) (Nat.le_of_ble_eq_true rfl) ?_
            have hP : va_P D vwCl (WD cI cO a FA nC nR nL nF par wt (fun r => nI (sk r)) (fun r => nI (fk r)) hd rea sig ++ (WF FA ck cf cd cv nx nF ++ (LR cI pb rb cb pv rv kv))) H := hP
            have hD : va_D A (WD cI cO a FA nC nR nL nF par wt (fun r => nI (sk r)) (fun r => nI (fk r)) hd rea sig ++ (WF FA ck cf cd cv nx nF ++ (LR cI pb rb cb pv rv kv))) := hD
            obtain rfl : r_6 = (-99000000) := hr_6.trans (by rw [hOj3]; rfl)
            refine lv_iadd hx hb dL_isRoll_156 ?_
            refine lv_istore (lv' := [(10, .int (((-99000000) + (-99000000)) + (-99000000))), (9, .int 0), (8, .int (-99000000)), (7, .int (-99000000)), (6, .int (-99000000)), (0, .ref (a 0)), (1, .ref rb), (2, .int (nI ri)), (3, .int (nI p)), (4, .int (nI m)), (5, .int (nI f))]) hx hb dL_isRoll_157 hl (by decide) rfl (fun ls hl => ?_)
            refine lv_aload_n hx hb dL_isRoll_159 rfl (lv_at hl 5 rfl) ?_
            refine lv_iload_n hx hb dL_isRoll_160 rfl (lv_at hl 7 rfl) ?_
            refine lv_iload_n hx hb dL_isRoll_161 rfl (lv_at hl 8 rfl) ?_
            refine lv_iload hx hb dL_isRoll_162 (lv_at hl 9 rfl) ?_
            refine lv_iload hx hb dL_isRoll_164 (lv_at hl 10 rfl) ?_
            refine va_calli (va_runV (As := [.int (nI ri), .int (nI p), .int (nI m), .int (nI f)]) (rest := []) ⟨hx, hb, hml, hown, hts⟩ (m4_isRollOff l D cI cZ cO cL dt A a FA nC nR nL nF par wt (fun r => nI (sk r)) (fun r => nI (fk r)) hd rea sig ck cf cd cv nx (LR cI pb rb cb pv rv kv) ri p m f sk fk hlt hF hC12 hck hcf hcd hcv hwt hCh hL8 hR5 (fun _ => rfl) (fun _ => rfl) hsk12 hfk12 hri hp hm hf) (cwV 4 hts gL_isRoll_X4_isRollOff rfl rfl rfl (by decide +kernel) ⟨(Nat.le_of_ble_eq_true rfl), (Nat.le_of_ble_eq_true rfl)⟩) (gP.v (hg.on hS) hP 3 rfl 0 rfl (⟨hP, hD⟩)) rfl rfl hl.1 rfl (lv_room (Nat.le_of_ble_eq_true rfl)) dL_isRoll_166 ⟨(Nat.le_of_ble_eq_true rfl), (Nat.le_of_ble_eq_true rfl)⟩) hS (fun q _ h => h) (fun q h => h) (fun r_7 ur_7 tr_7 H locs htr_7 hvmr_7 hr_7 hB hzr_7 hkr_7 hS => ?_)
            rw [htr_7] at hB
            obtain ⟨hP, hD⟩ := hB
            refine W.widen (k := 26) (n := 156) (Nat.le_of_ble_eq_true rfl) (Nat.le_of_ble_eq_true rfl) ?_
            have hP : va_P D vwCl (WD cI cO a FA nC nR nL nF par wt (fun r => nI (sk r)) (fun r => nI (fk r)) hd rea sig ++ (WF FA ck cf cd cv nx nF ++ (LR cI pb rb cb pv rv kv))) H := hP
            have hD : va_D A (WD cI cO a FA nC nR nL nF par wt (fun r => nI (sk r)) (fun r => nI (fk r)) hd rea sig ++ (WF FA ck cf cd cv nx nF ++ (LR cI pb rb cb pv rv kv))) := hD
            obtain rfl : r_7 = bI (rollOff (nI p) (hC ck cf cd nF (nI (sk ri * 40 + p * 4 + m)) (nI f)) (hC ck cf cd nF (nI (sk ri * 40 + (p - 1) * 4 + m)) (nI f)) (hC ck cf cd nF (nI (fk ri * 40 + p * 4 + m)) (nI f)) cd cv = true) := hr_7
            refine lv_iload hx hb dL_isRoll_169 (lv_at hl 1 rfl) ?_
            refine lv_if_eq (tgt := 193) hx hb dL_isRoll_171 (by decide) (fun c_171 => ?_) (fun c_171 => ?_)
            · skip
              have hoff : bI (rollOff (nI p) (hC ck cf cd nF (nI (sk ri * 40 + p * 4 + m)) (nI f)) (hC ck cf cd nF (nI (sk ri * 40 + (p - 1) * 4 + m)) (nI f)) (hC ck cf cd nF (nI (fk ri * 40 + p * 4 + m)) (nI f)) cd cv = true) = 0 := (bI_f (ro_n1 hOj1)).symm
              refine lv_iconst (v := 0) hx hb dL_isRoll_193 (by decide) ?_
              refine lv_icmp_ne (tgt := 201) hx hb dL_isRoll_194 (by decide) (fun c_194 => ?_) (fun c_194 => ?_)
              · skip
                exact absurd hoff c_194
              · skip
                refine lv_iconst (v := 1) hx hb dL_isRoll_197 (by decide) ?_
                refine lv_goto (tgt := 202) hx hb dL_isRoll_198 (by decide) ?_
                exact W.widen (k := 30) (n := 180) (Nat.le_of_ble_eq_true rfl) (Nat.le_of_ble_eq_true rfl) (W.zret (v := 1) hx hb hr (rfl) (fun t ht hW => ⟨⟨1, (), rfl, rfl, g_PD ht hP hD⟩, hS.F ht⟩) hS.2.2 dL_isRoll_202)
            · skip
              exact absurd c_171 (by decide)
          · skip
            exact absurd c_82 (by decide)
        · skip
          obtain rfl : r_3 = cv j3 := hr_3.trans (congrArg (hv cv) hOj3)
          refine lv_istore (lv' := [(8, .int (cv j3)), (7, .int (-99000000)), (6, .int (-99000000)), (0, .ref (a 0)), (1, .ref rb), (2, .int (nI ri)), (3, .int (nI p)), (4, .int (nI m)), (5, .int (nI f))]) hx hb dL_isRoll_76 hl (by decide) rfl (fun ls hl => ?_)
          refine lv_iload hx hb dL_isRoll_78 (lv_at hl 2 rfl) ?_
          refine lv_ldc (v := (-99000000)) hx hb hown w_0 dL_isRoll_80 ?_
          refine lv_icmp_eq (tgt := 103) hx hb dL_isRoll_82 (by decide) (fun c_82 => ?_) (fun c_82 => ?_)
          · skip
            refine lv_iconst (v := 0) hx hb dL_isRoll_103 (by decide) ?_
            refine lv_istore (lv' := [(9, .int 0), (8, .int (cv j3)), (7, .int (-99000000)), (6, .int (-99000000)), (0, .ref (a 0)), (1, .ref rb), (2, .int (nI ri)), (3, .int (nI p)), (4, .int (nI m)), (5, .int (nI f))]) hx hb dL_isRoll_104 hl (by decide) rfl (fun ls hl => ?_)
            refine lv_aload_n hx hb dL_isRoll_106 rfl (lv_at hl 4 rfl) ?_
            refine lv_iconst (v := 1) hx hb dL_isRoll_107 (by decide) ?_
            refine lv_aload_n hx hb dL_isRoll_108 rfl (lv_at hl 5 rfl) ?_
            refine lv_iconst (v := 2) hx hb dL_isRoll_109 (by decide) ?_
            refine lv_iload_n hx hb dL_isRoll_110 rfl (lv_at hl 6 rfl) ?_
            refine lv_imul hx hb dL_isRoll_111 ?_
            refine lv_topi (fun dv edv => ?_)
            obtain rfl : dv = nI (2 * ri) := by rw [edv]; exact pk_mul 2 ri
            refine g_iald hx hb hK hP (11 + nF + 1) 0 (n := 10) (f := rv) (WDRj 1 rfl) rfl (2 * ri) rfl (by omega) (by decide) dL_isRoll_112 ?_
            refine lv_topi (fun dv edv => ?_)
            obtain rfl : dv = nI (sk ri) := by rw [edv]; exact (hrk _ (by omega)).1
            refine lv_iload_n hx hb dL_isRoll_113 rfl (lv_at hl 7 rfl) ?_
            refine lv_iload hx hb dL_isRoll_114 (lv_at hl 8 rfl) ?_
            refine lv_iload hx hb dL_isRoll_116 (lv_at hl 9 rfl) ?_
            refine va_calli (vx_runSW (hh := [(0, 27, 28, 19)]) (As := [.ref (a 0), .int 1, .int (nI (sk ri)), .int (nI p), .int (nI m), .int (nI f)]) (rest := []) ⟨hx, hb, hml, hown, hts⟩ (kL_heldD l D cI cZ cO cL dt A a FA nC nR nL nF par wt sk fk hd rea sig ck cf cd cv nx pb rb cb pv rv kv L (sk ri) p m f hlt hOk (hskC ri hri).1 (by omega) (by omega) (by omega)) (vx_cwSW 6 hts gL_isRoll_L_held rfl rfl rfl (by decide +kernel) ⟨(Nat.le_of_ble_eq_true rfl), (Nat.le_of_ble_eq_true rfl)⟩) (gP.s (hg.on hS) (⟨hP, hD⟩)) rfl rfl hl.1 rfl (lv_room (Nat.le_of_ble_eq_true rfl)) dL_isRoll_118 ⟨(Nat.le_of_ble_eq_true rfl), (Nat.le_of_ble_eq_true rfl)⟩) hS (fun q _ h => h) (fun q h => h) (fun r_8 ur_8 tr_8 H locs htr_8 hvmr_8 hr_8 hB hzr_8 hkr_8 hS => ?_)
            rw [htr_8] at hB
            obtain ⟨hP, hD⟩ := hB
            refine W.widen (k := 16) (n := 96) (Nat.le_of_ble_eq_true rfl) (Nat.le_of_ble_eq_true rfl) ?_
            have hP : va_P D vwCl (WD cI cO a FA nC nR nL nF par wt (fun r => nI (sk r)) (fun r => nI (fk r)) hd rea sig ++ (WF FA ck cf cd cv nx nF ++ (LR cI pb rb cb pv rv kv))) H := hP
            have hD : va_D A (WD cI cO a FA nC nR nL nF par wt (fun r => nI (sk r)) (fun r => nI (fk r)) hd rea sig ++ (WF FA ck cf cd cv nx nF ++ (LR cI pb rb cb pv rv kv))) := hD
            obtain rfl : r_8 = (-99000000) := hr_8.trans (by rw [hOj1]; rfl)
            refine lv_aload_n hx hb dL_isRoll_121 rfl (lv_at hl 4 rfl) ?_
            refine lv_iconst (v := 1) hx hb dL_isRoll_122 (by decide) ?_
            refine lv_aload_n hx hb dL_isRoll_123 rfl (lv_at hl 5 rfl) ?_
            refine lv_iconst (v := 2) hx hb dL_isRoll_124 (by decide) ?_
            refine lv_iload_n hx hb dL_isRoll_125 rfl (lv_at hl 6 rfl) ?_
            refine lv_imul hx hb dL_isRoll_126 ?_
            refine lv_topi (fun dv edv => ?_)
            obtain rfl : dv = nI (2 * ri) := by rw [edv]; exact pk_mul 2 ri
            refine g_iald hx hb hK hP (11 + nF + 1) 0 (n := 10) (f := rv) (WDRj 1 rfl) rfl (2 * ri) rfl (by omega) (by decide) dL_isRoll_127 ?_
            refine lv_topi (fun dv edv => ?_)
            obtain rfl : dv = nI (sk ri) := by rw [edv]; exact (hrk _ (by omega)).1
            refine lv_iload_n hx hb dL_isRoll_128 rfl (lv_at hl 7 rfl) ?_
            refine lv_iconst (v := 1) hx hb dL_isRoll_129 (by decide) ?_
            refine lv_isub hx hb dL_isRoll_130 ?_
            refine lv_topi (fun dv edv => ?_)
            obtain rfl : dv = nI (p - 1) := by rw [edv]; exact nI_sub1 (by omega)
            refine lv_iload hx hb dL_isRoll_131 (lv_at hl 8 rfl) ?_
            refine lv_iload hx hb dL_isRoll_133 (lv_at hl 9 rfl) ?_
            refine va_calli (vx_runSW (hh := [(0, 27, 28, 19)]) (As := [.ref (a 0), .int 1, .int (nI (sk ri)), .int (nI (p - 1)), .int (nI m), .int (nI f)]) (rest := [.int (-99000000)]) ⟨hx, hb, hml, hown, hts⟩ (kL_heldD l D cI cZ cO cL dt A a FA nC nR nL nF par wt sk fk hd rea sig ck cf cd cv nx pb rb cb pv rv kv L (sk ri) (p - 1) m f hlt hOk (hskC ri hri).1 (by omega) (by omega) (by omega)) (vx_cwSW 6 hts gL_isRoll_L_held rfl rfl rfl (by decide +kernel) ⟨(Nat.le_of_ble_eq_true rfl), (Nat.le_of_ble_eq_true rfl)⟩) (gP.s (hg.on hS) (⟨hP, hD⟩)) rfl rfl hl.1 rfl (lv_room (Nat.le_of_ble_eq_true rfl)) dL_isRoll_135 ⟨(Nat.le_of_ble_eq_true rfl), (Nat.le_of_ble_eq_true rfl)⟩) hS (fun q _ h => h) (fun q h => h) (fun r_9 ur_9 tr_9 H locs htr_9 hvmr_9 hr_9 hB hzr_9 hkr_9 hS => ?_)
            rw [htr_9] at hB
            obtain ⟨hP, hD⟩ := hB
            refine W.widen (k := 20) (n := 120) (Nat.le_of_ble_eq_true rfl) (Nat.le_of_ble_eq_true rfl) ?_
            have hP : va_P D vwCl (WD cI cO a FA nC nR nL nF par wt (fun r => nI (sk r)) (fun r => nI (fk r)) hd rea sig ++ (WF FA ck cf cd cv nx nF ++ (LR cI pb rb cb pv rv kv))) H := hP
            have hD : va_D A (WD cI cO a FA nC nR nL nF par wt (fun r => nI (sk r)) (fun r => nI (fk r)) hd rea sig ++ (WF FA ck cf cd cv nx nF ++ (LR cI pb rb cb pv rv kv))) := hD
            obtain rfl : r_9 = (-99000000) := hr_9.trans (by rw [hOj2]; rfl)
            refine lv_iadd hx hb dL_isRoll_138 ?_
            refine lv_aload_n hx hb dL_isRoll_139 rfl (lv_at hl 4 rfl) ?_
            refine lv_iconst (v := 1) hx hb dL_isRoll_140 (by decide) ?_
            refine lv_aload_n hx hb dL_isRoll_141 rfl (lv_at hl 5 rfl) ?_
            refine lv_iconst (v := 2) hx hb dL_isRoll_142 (by decide) ?_
            refine lv_iload_n hx hb dL_isRoll_143 rfl (lv_at hl 6 rfl) ?_
            refine lv_imul hx hb dL_isRoll_144 ?_
            refine lv_topi (fun dv edv => ?_)
            obtain rfl : dv = nI (2 * ri) := by rw [edv]; exact pk_mul 2 ri
            refine lv_iconst (v := 1) hx hb dL_isRoll_145 (by decide) ?_
            refine lv_iadd hx hb dL_isRoll_146 ?_
            refine lv_topi (fun dv edv => ?_)
            obtain rfl : dv = nI ((2 * ri) + 1) := by rw [edv]; exact nI_add (2 * ri) 1
            refine g_iald hx hb hK hP (11 + nF + 1) 0 (n := 10) (f := rv) (WDRj 1 rfl) rfl ((2 * ri) + 1) rfl (by omega) (by decide) dL_isRoll_147 ?_
            refine lv_topi (fun dv edv => ?_)
            obtain rfl : dv = nI (fk ri) := by rw [edv]; exact (hrk _ (by omega)).2
            refine lv_iload_n hx hb dL_isRoll_148 rfl (lv_at hl 7 rfl) ?_
            refine lv_iload hx hb dL_isRoll_149 (lv_at hl 8 rfl) ?_
            refine lv_iload hx hb dL_isRoll_151 (lv_at hl 9 rfl) ?_
            refine va_calli (vx_runSW (hh := [(0, 27, 28, 19)]) (As := [.ref (a 0), .int 1, .int (nI (fk ri)), .int (nI p), .int (nI m), .int (nI f)]) (rest := [.int ((-99000000) + (-99000000))]) ⟨hx, hb, hml, hown, hts⟩ (kL_heldD l D cI cZ cO cL dt A a FA nC nR nL nF par wt sk fk hd rea sig ck cf cd cv nx pb rb cb pv rv kv L (fk ri) p m f hlt hOk (hskC ri hri).2 (by omega) (by omega) (by omega)) (vx_cwSW 6 hts gL_isRoll_L_held rfl rfl rfl (by decide +kernel) ⟨(Nat.le_of_ble_eq_true rfl), (Nat.le_of_ble_eq_true rfl)⟩) (gP.s (hg.on hS) (⟨hP, hD⟩)) rfl rfl hl.1 rfl (lv_room (Nat.le_of_ble_eq_true rfl)) dL_isRoll_153 ⟨(Nat.le_of_ble_eq_true rfl), (Nat.le_of_ble_eq_true rfl)⟩) hS (fun q _ h => h) (fun q h => h) (fun r_10 ur_10 tr_10 H locs htr_10 hvmr_10 hr_10 hB hzr_10 hkr_10 hS => ?_)
            rw [htr_10] at hB
            obtain ⟨hP, hD⟩ := hB
            refine W.widen (k := 24) (n := 144) (Nat.le_of_ble_eq_true rfl) (Nat.le_of_ble_eq_true rfl) ?_
            have hP : va_P D vwCl (WD cI cO a FA nC nR nL nF par wt (fun r => nI (sk r)) (fun r => nI (fk r)) hd rea sig ++ (WF FA ck cf cd cv nx nF ++ (LR cI pb rb cb pv rv kv))) H := hP
            have hD : va_D A (WD cI cO a FA nC nR nL nF par wt (fun r => nI (sk r)) (fun r => nI (fk r)) hd rea sig ++ (WF FA ck cf cd cv nx nF ++ (LR cI pb rb cb pv rv kv))) := hD
            obtain rfl : r_10 = nI (10 ^ cd j3) := hr_10.trans (by rw [hOj3]; rfl)
            refine lv_iadd hx hb dL_isRoll_156 ?_
            refine lv_istore (lv' := [(10, .int (((-99000000) + (-99000000)) + (nI (10 ^ cd j3)))), (9, .int 0), (8, .int (cv j3)), (7, .int (-99000000)), (6, .int (-99000000)), (0, .ref (a 0)), (1, .ref rb), (2, .int (nI ri)), (3, .int (nI p)), (4, .int (nI m)), (5, .int (nI f))]) hx hb dL_isRoll_157 hl (by decide) rfl (fun ls hl => ?_)
            refine lv_aload_n hx hb dL_isRoll_159 rfl (lv_at hl 5 rfl) ?_
            refine lv_iload_n hx hb dL_isRoll_160 rfl (lv_at hl 7 rfl) ?_
            refine lv_iload_n hx hb dL_isRoll_161 rfl (lv_at hl 8 rfl) ?_
            refine lv_iload hx hb dL_isRoll_162 (lv_at hl 9 rfl) ?_
            refine lv_iload hx hb dL_isRoll_164 (lv_at hl 10 rfl) ?_
            refine va_calli (va_runV (As := [.int (nI ri), .int (nI p), .int (nI m), .int (nI f)]) (rest := []) ⟨hx, hb, hml, hown, hts⟩ (m4_isRollOff l D cI cZ cO cL dt A a FA nC nR nL nF par wt (fun r => nI (sk r)) (fun r => nI (fk r)) hd rea sig ck cf cd cv nx (LR cI pb rb cb pv rv kv) ri p m f sk fk hlt hF hC12 hck hcf hcd hcv hwt hCh hL8 hR5 (fun _ => rfl) (fun _ => rfl) hsk12 hfk12 hri hp hm hf) (cwV 4 hts gL_isRoll_X4_isRollOff rfl rfl rfl (by decide +kernel) ⟨(Nat.le_of_ble_eq_true rfl), (Nat.le_of_ble_eq_true rfl)⟩) (gP.v (hg.on hS) hP 3 rfl 0 rfl (⟨hP, hD⟩)) rfl rfl hl.1 rfl (lv_room (Nat.le_of_ble_eq_true rfl)) dL_isRoll_166 ⟨(Nat.le_of_ble_eq_true rfl), (Nat.le_of_ble_eq_true rfl)⟩) hS (fun q _ h => h) (fun q h => h) (fun r_11 ur_11 tr_11 H locs htr_11 hvmr_11 hr_11 hB hzr_11 hkr_11 hS => ?_)
            rw [htr_11] at hB
            obtain ⟨hP, hD⟩ := hB
            refine W.widen (k := 26) (n := 156) (Nat.le_of_ble_eq_true rfl) (Nat.le_of_ble_eq_true rfl) ?_
            have hP : va_P D vwCl (WD cI cO a FA nC nR nL nF par wt (fun r => nI (sk r)) (fun r => nI (fk r)) hd rea sig ++ (WF FA ck cf cd cv nx nF ++ (LR cI pb rb cb pv rv kv))) H := hP
            have hD : va_D A (WD cI cO a FA nC nR nL nF par wt (fun r => nI (sk r)) (fun r => nI (fk r)) hd rea sig ++ (WF FA ck cf cd cv nx nF ++ (LR cI pb rb cb pv rv kv))) := hD
            obtain rfl : r_11 = bI (rollOff (nI p) (hC ck cf cd nF (nI (sk ri * 40 + p * 4 + m)) (nI f)) (hC ck cf cd nF (nI (sk ri * 40 + (p - 1) * 4 + m)) (nI f)) (hC ck cf cd nF (nI (fk ri * 40 + p * 4 + m)) (nI f)) cd cv = true) := hr_11
            refine lv_iload hx hb dL_isRoll_169 (lv_at hl 1 rfl) ?_
            refine lv_if_eq (tgt := 193) hx hb dL_isRoll_171 (by decide) (fun c_171 => ?_) (fun c_171 => ?_)
            · skip
              have hoff : bI (rollOff (nI p) (hC ck cf cd nF (nI (sk ri * 40 + p * 4 + m)) (nI f)) (hC ck cf cd nF (nI (sk ri * 40 + (p - 1) * 4 + m)) (nI f)) (hC ck cf cd nF (nI (fk ri * 40 + p * 4 + m)) (nI f)) cd cv = true) = 0 := (bI_f (ro_n1 hOj1)).symm
              refine lv_iconst (v := 0) hx hb dL_isRoll_193 (by decide) ?_
              refine lv_icmp_ne (tgt := 201) hx hb dL_isRoll_194 (by decide) (fun c_194 => ?_) (fun c_194 => ?_)
              · skip
                exact absurd hoff c_194
              · skip
                refine lv_iconst (v := 1) hx hb dL_isRoll_197 (by decide) ?_
                refine lv_goto (tgt := 202) hx hb dL_isRoll_198 (by decide) ?_
                exact W.widen (k := 30) (n := 180) (Nat.le_of_ble_eq_true rfl) (Nat.le_of_ble_eq_true rfl) (W.zret (v := 1) hx hb hr (rfl) (fun t ht hW => ⟨⟨1, (), rfl, rfl, g_PD ht hP hD⟩, hS.F ht⟩) hS.2.2 dL_isRoll_202)
            · skip
              exact absurd c_171 (by decide)
          · skip
            exact absurd c_82 (by decide)
      · skip
        obtain rfl : r_2 = cv j2 := hr_2.trans (congrArg (hv cv) hOj2)
        refine lv_istore (lv' := [(7, .int (cv j2)), (6, .int (-99000000)), (0, .ref (a 0)), (1, .ref rb), (2, .int (nI ri)), (3, .int (nI p)), (4, .int (nI m)), (5, .int (nI f))]) hx hb dL_isRoll_57 hl (by decide) rfl (fun ls hl => ?_)
        refine lv_aload_n hx hb dL_isRoll_59 rfl (lv_at hl 2 rfl) ?_
        refine lv_iconst (v := 0) hx hb dL_isRoll_60 (by decide) ?_
        refine lv_aload_n hx hb dL_isRoll_61 rfl (lv_at hl 3 rfl) ?_
        refine lv_iconst (v := 2) hx hb dL_isRoll_62 (by decide) ?_
        refine lv_iload_n hx hb dL_isRoll_63 rfl (lv_at hl 4 rfl) ?_
        refine lv_imul hx hb dL_isRoll_64 ?_
        refine lv_topi (fun dv edv => ?_)
        obtain rfl : dv = nI (2 * ri) := by rw [edv]; exact pk_mul 2 ri
        refine lv_iconst (v := 1) hx hb dL_isRoll_65 (by decide) ?_
        refine lv_iadd hx hb dL_isRoll_66 ?_
        refine lv_topi (fun dv edv => ?_)
        obtain rfl : dv = nI ((2 * ri) + 1) := by rw [edv]; exact nI_add (2 * ri) 1
        refine g_iald hx hb hK hP (11 + nF + 1) 0 (n := 10) (f := rv) (WDRj 1 rfl) rfl ((2 * ri) + 1) rfl (by omega) (by decide) dL_isRoll_67 ?_
        refine lv_topi (fun dv edv => ?_)
        obtain rfl : dv = nI (fk ri) := by rw [edv]; exact (hrk _ (by omega)).2
        refine lv_iload_n hx hb dL_isRoll_68 rfl (lv_at hl 5 rfl) ?_
        refine lv_iload hx hb dL_isRoll_69 (lv_at hl 6 rfl) ?_
        refine lv_iload hx hb dL_isRoll_71 (lv_at hl 7 rfl) ?_
        refine va_calli (vx_runSW (hh := [(0, 27, 28, 19)]) (As := [.ref (a 0), .int 0, .int (nI (fk ri)), .int (nI p), .int (nI m), .int (nI f)]) (rest := []) ⟨hx, hb, hml, hown, hts⟩ (kL_held l D cI cZ cO cL dt A a FA nC nR nL nF par wt sk fk hd rea sig ck cf cd cv nx pb rb cb pv rv kv L (fk ri) p m f hlt hOk (hskC ri hri).2 (by omega) (by omega) (by omega)) (vx_cwSW 6 hts gL_isRoll_L_held rfl rfl rfl (by decide +kernel) ⟨(Nat.le_of_ble_eq_true rfl), (Nat.le_of_ble_eq_true rfl)⟩) (gP.s (hg.on hS) (⟨hP, hD⟩)) rfl rfl hl.1 rfl (lv_room (Nat.le_of_ble_eq_true rfl)) dL_isRoll_73 ⟨(Nat.le_of_ble_eq_true rfl), (Nat.le_of_ble_eq_true rfl)⟩) hS (fun q _ h => h) (fun q h => h) (fun r_12 ur_12 tr_12 H locs htr_12 hvmr_12 hr_12 hB hzr_12 hkr_12 hS => ?_)
        rw [htr_12] at hB
        obtain ⟨hP, hD⟩ := hB
        refine W.widen (k := 12) (n := 72) (Nat.le_of_ble_eq_true rfl) (Nat.le_of_ble_eq_true rfl) ?_
        have hP : va_P D vwCl (WD cI cO a FA nC nR nL nF par wt (fun r => nI (sk r)) (fun r => nI (fk r)) hd rea sig ++ (WF FA ck cf cd cv nx nF ++ (LR cI pb rb cb pv rv kv))) H := hP
        have hD : va_D A (WD cI cO a FA nC nR nL nF par wt (fun r => nI (sk r)) (fun r => nI (fk r)) hd rea sig ++ (WF FA ck cf cd cv nx nF ++ (LR cI pb rb cb pv rv kv))) := hD
        obtain ⟨o_r_12, hOj3⟩ : ∃ z, hC ck cf cd nF (nI ((fk ri) * 40 + p * 4 + m)) (nI f) = z := ⟨_, rfl⟩
        rcases o_r_12 with _ | j3
        · skip
          obtain rfl : r_12 = (-99000000) := hr_12.trans (congrArg (hv cv) hOj3)
          refine lv_istore (lv' := [(8, .int (-99000000)), (7, .int (cv j2)), (6, .int (-99000000)), (0, .ref (a 0)), (1, .ref rb), (2, .int (nI ri)), (3, .int (nI p)), (4, .int (nI m)), (5, .int (nI f))]) hx hb dL_isRoll_76 hl (by decide) rfl (fun ls hl => ?_)
          refine lv_iload hx hb dL_isRoll_78 (lv_at hl 2 rfl) ?_
          refine lv_ldc (v := (-99000000)) hx hb hown w_0 dL_isRoll_80 ?_
          refine lv_icmp_eq (tgt := 103) hx hb dL_isRoll_82 (by decide) (fun c_82 => ?_) (fun c_82 => ?_)
          · skip
            refine lv_iconst (v := 0) hx hb dL_isRoll_103 (by decide) ?_
            refine lv_istore (lv' := [(9, .int 0), (8, .int (-99000000)), (7, .int (cv j2)), (6, .int (-99000000)), (0, .ref (a 0)), (1, .ref rb), (2, .int (nI ri)), (3, .int (nI p)), (4, .int (nI m)), (5, .int (nI f))]) hx hb dL_isRoll_104 hl (by decide) rfl (fun ls hl => ?_)
            refine lv_aload_n hx hb dL_isRoll_106 rfl (lv_at hl 4 rfl) ?_
            refine lv_iconst (v := 1) hx hb dL_isRoll_107 (by decide) ?_
            refine lv_aload_n hx hb dL_isRoll_108 rfl (lv_at hl 5 rfl) ?_
            refine lv_iconst (v := 2) hx hb dL_isRoll_109 (by decide) ?_
            refine lv_iload_n hx hb dL_isRoll_110 rfl (lv_at hl 6 rfl) ?_
            refine lv_imul hx hb dL_isRoll_111 ?_
            refine lv_topi (fun dv edv => ?_)
            obtain rfl : dv = nI (2 * ri) := by rw [edv]; exact pk_mul 2 ri
            refine g_iald hx hb hK hP (11 + nF + 1) 0 (n := 10) (f := rv) (WDRj 1 rfl) rfl (2 * ri) rfl (by omega) (by decide) dL_isRoll_112 ?_
            refine lv_topi (fun dv edv => ?_)
            obtain rfl : dv = nI (sk ri) := by rw [edv]; exact (hrk _ (by omega)).1
            refine lv_iload_n hx hb dL_isRoll_113 rfl (lv_at hl 7 rfl) ?_
            refine lv_iload hx hb dL_isRoll_114 (lv_at hl 8 rfl) ?_
            refine lv_iload hx hb dL_isRoll_116 (lv_at hl 9 rfl) ?_
            refine va_calli (vx_runSW (hh := [(0, 27, 28, 19)]) (As := [.ref (a 0), .int 1, .int (nI (sk ri)), .int (nI p), .int (nI m), .int (nI f)]) (rest := []) ⟨hx, hb, hml, hown, hts⟩ (kL_heldD l D cI cZ cO cL dt A a FA nC nR nL nF par wt sk fk hd rea sig ck cf cd cv nx pb rb cb pv rv kv L (sk ri) p m f hlt hOk (hskC ri hri).1 (by omega) (by omega) (by omega)) (vx_cwSW 6 hts gL_isRoll_L_held rfl rfl rfl (by decide +kernel) ⟨(Nat.le_of_ble_eq_true rfl), (Nat.le_of_ble_eq_true rfl)⟩) (gP.s (hg.on hS) (⟨hP, hD⟩)) rfl rfl hl.1 rfl (lv_room (Nat.le_of_ble_eq_true rfl)) dL_isRoll_118 ⟨(Nat.le_of_ble_eq_true rfl), (Nat.le_of_ble_eq_true rfl)⟩) hS (fun q _ h => h) (fun q h => h) (fun r_13 ur_13 tr_13 H locs htr_13 hvmr_13 hr_13 hB hzr_13 hkr_13 hS => ?_)
            rw [htr_13] at hB
            obtain ⟨hP, hD⟩ := hB
            refine W.widen (k := 16) (n := 96) (Nat.le_of_ble_eq_true rfl) (Nat.le_of_ble_eq_true rfl) ?_
            have hP : va_P D vwCl (WD cI cO a FA nC nR nL nF par wt (fun r => nI (sk r)) (fun r => nI (fk r)) hd rea sig ++ (WF FA ck cf cd cv nx nF ++ (LR cI pb rb cb pv rv kv))) H := hP
            have hD : va_D A (WD cI cO a FA nC nR nL nF par wt (fun r => nI (sk r)) (fun r => nI (fk r)) hd rea sig ++ (WF FA ck cf cd cv nx nF ++ (LR cI pb rb cb pv rv kv))) := hD
            obtain rfl : r_13 = (-99000000) := hr_13.trans (by rw [hOj1]; rfl)
            refine lv_aload_n hx hb dL_isRoll_121 rfl (lv_at hl 4 rfl) ?_
            refine lv_iconst (v := 1) hx hb dL_isRoll_122 (by decide) ?_
            refine lv_aload_n hx hb dL_isRoll_123 rfl (lv_at hl 5 rfl) ?_
            refine lv_iconst (v := 2) hx hb dL_isRoll_124 (by decide) ?_
            refine lv_iload_n hx hb dL_isRoll_125 rfl (lv_at hl 6 rfl) ?_
            refine lv_imul hx hb dL_isRoll_126 ?_
            refine lv_topi (fun dv edv => ?_)
            obtain rfl : dv = nI (2 * ri) := by rw [edv]; exact pk_mul 2 ri
            refine g_iald hx hb hK hP (11 + nF + 1) 0 (n := 10) (f := rv) (WDRj 1 rfl) rfl (2 * ri) rfl (by omega) (by decide) dL_isRoll_127 ?_
            refine lv_topi (fun dv edv => ?_)
            obtain rfl : dv = nI (sk ri) := by rw [edv]; exact (hrk _ (by omega)).1
            refine lv_iload_n hx hb dL_isRoll_128 rfl (lv_at hl 7 rfl) ?_
            refine lv_iconst (v := 1) hx hb dL_isRoll_129 (by decide) ?_
            refine lv_isub hx hb dL_isRoll_130 ?_
            refine lv_topi (fun dv edv => ?_)
            obtain rfl : dv = nI (p - 1) := by rw [edv]; exact nI_sub1 (by omega)
            refine lv_iload hx hb dL_isRoll_131 (lv_at hl 8 rfl) ?_
            refine lv_iload hx hb dL_isRoll_133 (lv_at hl 9 rfl) ?_
            refine va_calli (vx_runSW (hh := [(0, 27, 28, 19)]) (As := [.ref (a 0), .int 1, .int (nI (sk ri)), .int (nI (p - 1)), .int (nI m), .int (nI f)]) (rest := [.int (-99000000)]) ⟨hx, hb, hml, hown, hts⟩ (kL_heldD l D cI cZ cO cL dt A a FA nC nR nL nF par wt sk fk hd rea sig ck cf cd cv nx pb rb cb pv rv kv L (sk ri) (p - 1) m f hlt hOk (hskC ri hri).1 (by omega) (by omega) (by omega)) (vx_cwSW 6 hts gL_isRoll_L_held rfl rfl rfl (by decide +kernel) ⟨(Nat.le_of_ble_eq_true rfl), (Nat.le_of_ble_eq_true rfl)⟩) (gP.s (hg.on hS) (⟨hP, hD⟩)) rfl rfl hl.1 rfl (lv_room (Nat.le_of_ble_eq_true rfl)) dL_isRoll_135 ⟨(Nat.le_of_ble_eq_true rfl), (Nat.le_of_ble_eq_true rfl)⟩) hS (fun q _ h => h) (fun q h => h) (fun r_14 ur_14 tr_14 H locs htr_14 hvmr_14 hr_14 hB hzr_14 hkr_14 hS => ?_)
            rw [htr_14] at hB
            obtain ⟨hP, hD⟩ := hB
            refine W.widen (k := 20) (n := 120) (Nat.le_of_ble_eq_true rfl) (Nat.le_of_ble_eq_true rfl) ?_
            have hP : va_P D vwCl (WD cI cO a FA nC nR nL nF par wt (fun r => nI (sk r)) (fun r => nI (fk r)) hd rea sig ++ (WF FA ck cf cd cv nx nF ++ (LR cI pb rb cb pv rv kv))) H := hP
            have hD : va_D A (WD cI cO a FA nC nR nL nF par wt (fun r => nI (sk r)) (fun r => nI (fk r)) hd rea sig ++ (WF FA ck cf cd cv nx nF ++ (LR cI pb rb cb pv rv kv))) := hD
            obtain rfl : r_14 = nI (10 ^ cd j2) := hr_14.trans (by rw [hOj2]; rfl)
            refine lv_iadd hx hb dL_isRoll_138 ?_
            refine lv_aload_n hx hb dL_isRoll_139 rfl (lv_at hl 4 rfl) ?_
            refine lv_iconst (v := 1) hx hb dL_isRoll_140 (by decide) ?_
            refine lv_aload_n hx hb dL_isRoll_141 rfl (lv_at hl 5 rfl) ?_
            refine lv_iconst (v := 2) hx hb dL_isRoll_142 (by decide) ?_
            refine lv_iload_n hx hb dL_isRoll_143 rfl (lv_at hl 6 rfl) ?_
            refine lv_imul hx hb dL_isRoll_144 ?_
            refine lv_topi (fun dv edv => ?_)
            obtain rfl : dv = nI (2 * ri) := by rw [edv]; exact pk_mul 2 ri
            refine lv_iconst (v := 1) hx hb dL_isRoll_145 (by decide) ?_
            refine lv_iadd hx hb dL_isRoll_146 ?_
            refine lv_topi (fun dv edv => ?_)
            obtain rfl : dv = nI ((2 * ri) + 1) := by rw [edv]; exact nI_add (2 * ri) 1
            refine g_iald hx hb hK hP (11 + nF + 1) 0 (n := 10) (f := rv) (WDRj 1 rfl) rfl ((2 * ri) + 1) rfl (by omega) (by decide) dL_isRoll_147 ?_
            refine lv_topi (fun dv edv => ?_)
            obtain rfl : dv = nI (fk ri) := by rw [edv]; exact (hrk _ (by omega)).2
            refine lv_iload_n hx hb dL_isRoll_148 rfl (lv_at hl 7 rfl) ?_
            refine lv_iload hx hb dL_isRoll_149 (lv_at hl 8 rfl) ?_
            refine lv_iload hx hb dL_isRoll_151 (lv_at hl 9 rfl) ?_
            refine va_calli (vx_runSW (hh := [(0, 27, 28, 19)]) (As := [.ref (a 0), .int 1, .int (nI (fk ri)), .int (nI p), .int (nI m), .int (nI f)]) (rest := [.int ((-99000000) + (nI (10 ^ cd j2)))]) ⟨hx, hb, hml, hown, hts⟩ (kL_heldD l D cI cZ cO cL dt A a FA nC nR nL nF par wt sk fk hd rea sig ck cf cd cv nx pb rb cb pv rv kv L (fk ri) p m f hlt hOk (hskC ri hri).2 (by omega) (by omega) (by omega)) (vx_cwSW 6 hts gL_isRoll_L_held rfl rfl rfl (by decide +kernel) ⟨(Nat.le_of_ble_eq_true rfl), (Nat.le_of_ble_eq_true rfl)⟩) (gP.s (hg.on hS) (⟨hP, hD⟩)) rfl rfl hl.1 rfl (lv_room (Nat.le_of_ble_eq_true rfl)) dL_isRoll_153 ⟨(Nat.le_of_ble_eq_true rfl), (Nat.le_of_ble_eq_true rfl)⟩) hS (fun q _ h => h) (fun q h => h) (fun r_15 ur_15 tr_15 H locs htr_15 hvmr_15 hr_15 hB hzr_15 hkr_15 hS => ?_)
            rw [htr_15] at hB
            obtain ⟨hP, hD⟩ := hB
            refine W.widen (k := 24) (n := 144) (Nat.le_of_ble_eq_true rfl) (Nat.le_of_ble_eq_true rfl) ?_
            have hP : va_P D vwCl (WD cI cO a FA nC nR nL nF par wt (fun r => nI (sk r)) (fun r => nI (fk r)) hd rea sig ++ (WF FA ck cf cd cv nx nF ++ (LR cI pb rb cb pv rv kv))) H := hP
            have hD : va_D A (WD cI cO a FA nC nR nL nF par wt (fun r => nI (sk r)) (fun r => nI (fk r)) hd rea sig ++ (WF FA ck cf cd cv nx nF ++ (LR cI pb rb cb pv rv kv))) := hD
            obtain rfl : r_15 = (-99000000) := hr_15.trans (by rw [hOj3]; rfl)
            refine lv_iadd hx hb dL_isRoll_156 ?_
            refine lv_istore (lv' := [(10, .int (((-99000000) + (nI (10 ^ cd j2))) + (-99000000))), (9, .int 0), (8, .int (-99000000)), (7, .int (cv j2)), (6, .int (-99000000)), (0, .ref (a 0)), (1, .ref rb), (2, .int (nI ri)), (3, .int (nI p)), (4, .int (nI m)), (5, .int (nI f))]) hx hb dL_isRoll_157 hl (by decide) rfl (fun ls hl => ?_)
            refine lv_aload_n hx hb dL_isRoll_159 rfl (lv_at hl 5 rfl) ?_
            refine lv_iload_n hx hb dL_isRoll_160 rfl (lv_at hl 7 rfl) ?_
            refine lv_iload_n hx hb dL_isRoll_161 rfl (lv_at hl 8 rfl) ?_
            refine lv_iload hx hb dL_isRoll_162 (lv_at hl 9 rfl) ?_
            refine lv_iload hx hb dL_isRoll_164 (lv_at hl 10 rfl) ?_
            refine va_calli (va_runV (As := [.int (nI ri), .int (nI p), .int (nI m), .int (nI f)]) (rest := []) ⟨hx, hb, hml, hown, hts⟩ (m4_isRollOff l D cI cZ cO cL dt A a FA nC nR nL nF par wt (fun r => nI (sk r)) (fun r => nI (fk r)) hd rea sig ck cf cd cv nx (LR cI pb rb cb pv rv kv) ri p m f sk fk hlt hF hC12 hck hcf hcd hcv hwt hCh hL8 hR5 (fun _ => rfl) (fun _ => rfl) hsk12 hfk12 hri hp hm hf) (cwV 4 hts gL_isRoll_X4_isRollOff rfl rfl rfl (by decide +kernel) ⟨(Nat.le_of_ble_eq_true rfl), (Nat.le_of_ble_eq_true rfl)⟩) (gP.v (hg.on hS) hP 3 rfl 0 rfl (⟨hP, hD⟩)) rfl rfl hl.1 rfl (lv_room (Nat.le_of_ble_eq_true rfl)) dL_isRoll_166 ⟨(Nat.le_of_ble_eq_true rfl), (Nat.le_of_ble_eq_true rfl)⟩) hS (fun q _ h => h) (fun q h => h) (fun r_16 ur_16 tr_16 H locs htr_16 hvmr_16 hr_16 hB hzr_16 hkr_16 hS => ?_)
            rw [htr_16] at hB
            obtain ⟨hP, hD⟩ := hB
            refine W.widen (k := 26) (n := 156) (Nat.le_of_ble_eq_true rfl) (Nat.le_of_ble_eq_true rfl) ?_
            have hP : va_P D vwCl (WD cI cO a FA nC nR nL nF par wt (fun r => nI (sk r)) (fun r => nI (fk r)) hd rea sig ++ (WF FA ck cf cd cv nx nF ++ (LR cI pb rb cb pv rv kv))) H := hP
            have hD : va_D A (WD cI cO a FA nC nR nL nF par wt (fun r => nI (sk r)) (fun r => nI (fk r)) hd rea sig ++ (WF FA ck cf cd cv nx nF ++ (LR cI pb rb cb pv rv kv))) := hD
            obtain rfl : r_16 = bI (rollOff (nI p) (hC ck cf cd nF (nI (sk ri * 40 + p * 4 + m)) (nI f)) (hC ck cf cd nF (nI (sk ri * 40 + (p - 1) * 4 + m)) (nI f)) (hC ck cf cd nF (nI (fk ri * 40 + p * 4 + m)) (nI f)) cd cv = true) := hr_16
            refine lv_iload hx hb dL_isRoll_169 (lv_at hl 1 rfl) ?_
            refine lv_if_eq (tgt := 193) hx hb dL_isRoll_171 (by decide) (fun c_171 => ?_) (fun c_171 => ?_)
            · skip
              have hoff : bI (rollOff (nI p) (hC ck cf cd nF (nI (sk ri * 40 + p * 4 + m)) (nI f)) (hC ck cf cd nF (nI (sk ri * 40 + (p - 1) * 4 + m)) (nI f)) (hC ck cf cd nF (nI (fk ri * 40 + p * 4 + m)) (nI f)) cd cv = true) = 0 := (bI_f (ro_n1 hOj1)).symm
              refine lv_iconst (v := 0) hx hb dL_isRoll_193 (by decide) ?_
              refine lv_icmp_ne (tgt := 201) hx hb dL_isRoll_194 (by decide) (fun c_194 => ?_) (fun c_194 => ?_)
              · skip
                exact absurd hoff c_194
              · skip
                refine lv_iconst (v := 1) hx hb dL_isRoll_197 (by decide) ?_
                refine lv_goto (tgt := 202) hx hb dL_isRoll_198 (by decide) ?_
                exact W.widen (k := 30) (n := 180) (Nat.le_of_ble_eq_true rfl) (Nat.le_of_ble_eq_true rfl) (W.zret (v := 1) hx hb hr (rfl) (fun t ht hW => ⟨⟨1, (), rfl, rfl, g_PD ht hP hD⟩, hS.F ht⟩) hS.2.2 dL_isRoll_202)
            · skip
              exact absurd c_171 (by decide)
          · skip
            exact absurd c_82 (by decide)
        · skip
          obtain rfl : r_12 = cv j3 := hr_12.trans (congrArg (hv cv) hOj3)
          refine lv_istore (lv' := [(8, .int (cv j3)), (7, .int (cv j2)), (6, .int (-99000000)), (0, .ref (a 0)), (1, .ref rb), (2, .int (nI ri)), (3, .int (nI p)), (4, .int (nI m)), (5, .int (nI f))]) hx hb dL_isRoll_76 hl (by decide) rfl (fun ls hl => ?_)
          refine lv_iload hx hb dL_isRoll_78 (lv_at hl 2 rfl) ?_
          refine lv_ldc (v := (-99000000)) hx hb hown w_0 dL_isRoll_80 ?_
          refine lv_icmp_eq (tgt := 103) hx hb dL_isRoll_82 (by decide) (fun c_82 => ?_) (fun c_82 => ?_)
          · skip
            refine lv_iconst (v := 0) hx hb dL_isRoll_103 (by decide) ?_
            refine lv_istore (lv' := [(9, .int 0), (8, .int (cv j3)), (7, .int (cv j2)), (6, .int (-99000000)), (0, .ref (a 0)), (1, .ref rb), (2, .int (nI ri)), (3, .int (nI p)), (4, .int (nI m)), (5, .int (nI f))]) hx hb dL_isRoll_104 hl (by decide) rfl (fun ls hl => ?_)
            refine lv_aload_n hx hb dL_isRoll_106 rfl (lv_at hl 4 rfl) ?_
            refine lv_iconst (v := 1) hx hb dL_isRoll_107 (by decide) ?_
            refine lv_aload_n hx hb dL_isRoll_108 rfl (lv_at hl 5 rfl) ?_
            refine lv_iconst (v := 2) hx hb dL_isRoll_109 (by decide) ?_
            refine lv_iload_n hx hb dL_isRoll_110 rfl (lv_at hl 6 rfl) ?_
            refine lv_imul hx hb dL_isRoll_111 ?_
            refine lv_topi (fun dv edv => ?_)
            obtain rfl : dv = nI (2 * ri) := by rw [edv]; exact pk_mul 2 ri
            refine g_iald hx hb hK hP (11 + nF + 1) 0 (n := 10) (f := rv) (WDRj 1 rfl) rfl (2 * ri) rfl (by omega) (by decide) dL_isRoll_112 ?_
            refine lv_topi (fun dv edv => ?_)
            obtain rfl : dv = nI (sk ri) := by rw [edv]; exact (hrk _ (by omega)).1
            refine lv_iload_n hx hb dL_isRoll_113 rfl (lv_at hl 7 rfl) ?_
            refine lv_iload hx hb dL_isRoll_114 (lv_at hl 8 rfl) ?_
            refine lv_iload hx hb dL_isRoll_116 (lv_at hl 9 rfl) ?_
            refine va_calli (vx_runSW (hh := [(0, 27, 28, 19)]) (As := [.ref (a 0), .int 1, .int (nI (sk ri)), .int (nI p), .int (nI m), .int (nI f)]) (rest := []) ⟨hx, hb, hml, hown, hts⟩ (kL_heldD l D cI cZ cO cL dt A a FA nC nR nL nF par wt sk fk hd rea sig ck cf cd cv nx pb rb cb pv rv kv L (sk ri) p m f hlt hOk (hskC ri hri).1 (by omega) (by omega) (by omega)) (vx_cwSW 6 hts gL_isRoll_L_held rfl rfl rfl (by decide +kernel) ⟨(Nat.le_of_ble_eq_true rfl), (Nat.le_of_ble_eq_true rfl)⟩) (gP.s (hg.on hS) (⟨hP, hD⟩)) rfl rfl hl.1 rfl (lv_room (Nat.le_of_ble_eq_true rfl)) dL_isRoll_118 ⟨(Nat.le_of_ble_eq_true rfl), (Nat.le_of_ble_eq_true rfl)⟩) hS (fun q _ h => h) (fun q h => h) (fun r_17 ur_17 tr_17 H locs htr_17 hvmr_17 hr_17 hB hzr_17 hkr_17 hS => ?_)
            rw [htr_17] at hB
            obtain ⟨hP, hD⟩ := hB
            refine W.widen (k := 16) (n := 96) (Nat.le_of_ble_eq_true rfl) (Nat.le_of_ble_eq_true rfl) ?_
            have hP : va_P D vwCl (WD cI cO a FA nC nR nL nF par wt (fun r => nI (sk r)) (fun r => nI (fk r)) hd rea sig ++ (WF FA ck cf cd cv nx nF ++ (LR cI pb rb cb pv rv kv))) H := hP
            have hD : va_D A (WD cI cO a FA nC nR nL nF par wt (fun r => nI (sk r)) (fun r => nI (fk r)) hd rea sig ++ (WF FA ck cf cd cv nx nF ++ (LR cI pb rb cb pv rv kv))) := hD
            obtain rfl : r_17 = (-99000000) := hr_17.trans (by rw [hOj1]; rfl)
            refine lv_aload_n hx hb dL_isRoll_121 rfl (lv_at hl 4 rfl) ?_
            refine lv_iconst (v := 1) hx hb dL_isRoll_122 (by decide) ?_
            refine lv_aload_n hx hb dL_isRoll_123 rfl (lv_at hl 5 rfl) ?_
            refine lv_iconst (v := 2) hx hb dL_isRoll_124 (by decide) ?_
            refine lv_iload_n hx hb dL_isRoll_125 rfl (lv_at hl 6 rfl) ?_
            refine lv_imul hx hb dL_isRoll_126 ?_
            refine lv_topi (fun dv edv => ?_)
            obtain rfl : dv = nI (2 * ri) := by rw [edv]; exact pk_mul 2 ri
            refine g_iald hx hb hK hP (11 + nF + 1) 0 (n := 10) (f := rv) (WDRj 1 rfl) rfl (2 * ri) rfl (by omega) (by decide) dL_isRoll_127 ?_
            refine lv_topi (fun dv edv => ?_)
            obtain rfl : dv = nI (sk ri) := by rw [edv]; exact (hrk _ (by omega)).1
            refine lv_iload_n hx hb dL_isRoll_128 rfl (lv_at hl 7 rfl) ?_
            refine lv_iconst (v := 1) hx hb dL_isRoll_129 (by decide) ?_
            refine lv_isub hx hb dL_isRoll_130 ?_
            refine lv_topi (fun dv edv => ?_)
            obtain rfl : dv = nI (p - 1) := by rw [edv]; exact nI_sub1 (by omega)
            refine lv_iload hx hb dL_isRoll_131 (lv_at hl 8 rfl) ?_
            refine lv_iload hx hb dL_isRoll_133 (lv_at hl 9 rfl) ?_
            refine va_calli (vx_runSW (hh := [(0, 27, 28, 19)]) (As := [.ref (a 0), .int 1, .int (nI (sk ri)), .int (nI (p - 1)), .int (nI m), .int (nI f)]) (rest := [.int (-99000000)]) ⟨hx, hb, hml, hown, hts⟩ (kL_heldD l D cI cZ cO cL dt A a FA nC nR nL nF par wt sk fk hd rea sig ck cf cd cv nx pb rb cb pv rv kv L (sk ri) (p - 1) m f hlt hOk (hskC ri hri).1 (by omega) (by omega) (by omega)) (vx_cwSW 6 hts gL_isRoll_L_held rfl rfl rfl (by decide +kernel) ⟨(Nat.le_of_ble_eq_true rfl), (Nat.le_of_ble_eq_true rfl)⟩) (gP.s (hg.on hS) (⟨hP, hD⟩)) rfl rfl hl.1 rfl (lv_room (Nat.le_of_ble_eq_true rfl)) dL_isRoll_135 ⟨(Nat.le_of_ble_eq_true rfl), (Nat.le_of_ble_eq_true rfl)⟩) hS (fun q _ h => h) (fun q h => h) (fun r_18 ur_18 tr_18 H locs htr_18 hvmr_18 hr_18 hB hzr_18 hkr_18 hS => ?_)
            rw [htr_18] at hB
            obtain ⟨hP, hD⟩ := hB
            refine W.widen (k := 20) (n := 120) (Nat.le_of_ble_eq_true rfl) (Nat.le_of_ble_eq_true rfl) ?_
            have hP : va_P D vwCl (WD cI cO a FA nC nR nL nF par wt (fun r => nI (sk r)) (fun r => nI (fk r)) hd rea sig ++ (WF FA ck cf cd cv nx nF ++ (LR cI pb rb cb pv rv kv))) H := hP
            have hD : va_D A (WD cI cO a FA nC nR nL nF par wt (fun r => nI (sk r)) (fun r => nI (fk r)) hd rea sig ++ (WF FA ck cf cd cv nx nF ++ (LR cI pb rb cb pv rv kv))) := hD
            obtain rfl : r_18 = nI (10 ^ cd j2) := hr_18.trans (by rw [hOj2]; rfl)
            refine lv_iadd hx hb dL_isRoll_138 ?_
            refine lv_aload_n hx hb dL_isRoll_139 rfl (lv_at hl 4 rfl) ?_
            refine lv_iconst (v := 1) hx hb dL_isRoll_140 (by decide) ?_
            refine lv_aload_n hx hb dL_isRoll_141 rfl (lv_at hl 5 rfl) ?_
            refine lv_iconst (v := 2) hx hb dL_isRoll_142 (by decide) ?_
            refine lv_iload_n hx hb dL_isRoll_143 rfl (lv_at hl 6 rfl) ?_
            refine lv_imul hx hb dL_isRoll_144 ?_
            refine lv_topi (fun dv edv => ?_)
            obtain rfl : dv = nI (2 * ri) := by rw [edv]; exact pk_mul 2 ri
            refine lv_iconst (v := 1) hx hb dL_isRoll_145 (by decide) ?_
            refine lv_iadd hx hb dL_isRoll_146 ?_
            refine lv_topi (fun dv edv => ?_)
            obtain rfl : dv = nI ((2 * ri) + 1) := by rw [edv]; exact nI_add (2 * ri) 1
            refine g_iald hx hb hK hP (11 + nF + 1) 0 (n := 10) (f := rv) (WDRj 1 rfl) rfl ((2 * ri) + 1) rfl (by omega) (by decide) dL_isRoll_147 ?_
            refine lv_topi (fun dv edv => ?_)
            obtain rfl : dv = nI (fk ri) := by rw [edv]; exact (hrk _ (by omega)).2
            refine lv_iload_n hx hb dL_isRoll_148 rfl (lv_at hl 7 rfl) ?_
            refine lv_iload hx hb dL_isRoll_149 (lv_at hl 8 rfl) ?_
            refine lv_iload hx hb dL_isRoll_151 (lv_at hl 9 rfl) ?_
            refine va_calli (vx_runSW (hh := [(0, 27, 28, 19)]) (As := [.ref (a 0), .int 1, .int (nI (fk ri)), .int (nI p), .int (nI m), .int (nI f)]) (rest := [.int ((-99000000) + (nI (10 ^ cd j2)))]) ⟨hx, hb, hml, hown, hts⟩ (kL_heldD l D cI cZ cO cL dt A a FA nC nR nL nF par wt sk fk hd rea sig ck cf cd cv nx pb rb cb pv rv kv L (fk ri) p m f hlt hOk (hskC ri hri).2 (by omega) (by omega) (by omega)) (vx_cwSW 6 hts gL_isRoll_L_held rfl rfl rfl (by decide +kernel) ⟨(Nat.le_of_ble_eq_true rfl), (Nat.le_of_ble_eq_true rfl)⟩) (gP.s (hg.on hS) (⟨hP, hD⟩)) rfl rfl hl.1 rfl (lv_room (Nat.le_of_ble_eq_true rfl)) dL_isRoll_153 ⟨(Nat.le_of_ble_eq_true rfl), (Nat.le_of_ble_eq_true rfl)⟩) hS (fun q _ h => h) (fun q h => h) (fun r_19 ur_19 tr_19 H locs htr_19 hvmr_19 hr_19 hB hzr_19 hkr_19 hS => ?_)
            rw [htr_19] at hB
            obtain ⟨hP, hD⟩ := hB
            refine W.widen (k := 24) (n := 144) (Nat.le_of_ble_eq_true rfl) (Nat.le_of_ble_eq_true rfl) ?_
            have hP : va_P D vwCl (WD cI cO a FA nC nR nL nF par wt (fun r => nI (sk r)) (fun r => nI (fk r)) hd rea sig ++ (WF FA ck cf cd cv nx nF ++ (LR cI pb rb cb pv rv kv))) H := hP
            have hD : va_D A (WD cI cO a FA nC nR nL nF par wt (fun r => nI (sk r)) (fun r => nI (fk r)) hd rea sig ++ (WF FA ck cf cd cv nx nF ++ (LR cI pb rb cb pv rv kv))) := hD
            obtain rfl : r_19 = nI (10 ^ cd j3) := hr_19.trans (by rw [hOj3]; rfl)
            refine lv_iadd hx hb dL_isRoll_156 ?_
            refine lv_istore (lv' := [(10, .int (((-99000000) + (nI (10 ^ cd j2))) + (nI (10 ^ cd j3)))), (9, .int 0), (8, .int (cv j3)), (7, .int (cv j2)), (6, .int (-99000000)), (0, .ref (a 0)), (1, .ref rb), (2, .int (nI ri)), (3, .int (nI p)), (4, .int (nI m)), (5, .int (nI f))]) hx hb dL_isRoll_157 hl (by decide) rfl (fun ls hl => ?_)
            refine lv_aload_n hx hb dL_isRoll_159 rfl (lv_at hl 5 rfl) ?_
            refine lv_iload_n hx hb dL_isRoll_160 rfl (lv_at hl 7 rfl) ?_
            refine lv_iload_n hx hb dL_isRoll_161 rfl (lv_at hl 8 rfl) ?_
            refine lv_iload hx hb dL_isRoll_162 (lv_at hl 9 rfl) ?_
            refine lv_iload hx hb dL_isRoll_164 (lv_at hl 10 rfl) ?_
            refine va_calli (va_runV (As := [.int (nI ri), .int (nI p), .int (nI m), .int (nI f)]) (rest := []) ⟨hx, hb, hml, hown, hts⟩ (m4_isRollOff l D cI cZ cO cL dt A a FA nC nR nL nF par wt (fun r => nI (sk r)) (fun r => nI (fk r)) hd rea sig ck cf cd cv nx (LR cI pb rb cb pv rv kv) ri p m f sk fk hlt hF hC12 hck hcf hcd hcv hwt hCh hL8 hR5 (fun _ => rfl) (fun _ => rfl) hsk12 hfk12 hri hp hm hf) (cwV 4 hts gL_isRoll_X4_isRollOff rfl rfl rfl (by decide +kernel) ⟨(Nat.le_of_ble_eq_true rfl), (Nat.le_of_ble_eq_true rfl)⟩) (gP.v (hg.on hS) hP 3 rfl 0 rfl (⟨hP, hD⟩)) rfl rfl hl.1 rfl (lv_room (Nat.le_of_ble_eq_true rfl)) dL_isRoll_166 ⟨(Nat.le_of_ble_eq_true rfl), (Nat.le_of_ble_eq_true rfl)⟩) hS (fun q _ h => h) (fun q h => h) (fun r_20 ur_20 tr_20 H locs htr_20 hvmr_20 hr_20 hB hzr_20 hkr_20 hS => ?_)
            rw [htr_20] at hB
            obtain ⟨hP, hD⟩ := hB
            refine W.widen (k := 26) (n := 156) (Nat.le_of_ble_eq_true rfl) (Nat.le_of_ble_eq_true rfl) ?_
            have hP : va_P D vwCl (WD cI cO a FA nC nR nL nF par wt (fun r => nI (sk r)) (fun r => nI (fk r)) hd rea sig ++ (WF FA ck cf cd cv nx nF ++ (LR cI pb rb cb pv rv kv))) H := hP
            have hD : va_D A (WD cI cO a FA nC nR nL nF par wt (fun r => nI (sk r)) (fun r => nI (fk r)) hd rea sig ++ (WF FA ck cf cd cv nx nF ++ (LR cI pb rb cb pv rv kv))) := hD
            obtain rfl : r_20 = bI (rollOff (nI p) (hC ck cf cd nF (nI (sk ri * 40 + p * 4 + m)) (nI f)) (hC ck cf cd nF (nI (sk ri * 40 + (p - 1) * 4 + m)) (nI f)) (hC ck cf cd nF (nI (fk ri * 40 + p * 4 + m)) (nI f)) cd cv = true) := hr_20
            refine lv_iload hx hb dL_isRoll_169 (lv_at hl 1 rfl) ?_
            refine lv_if_eq (tgt := 193) hx hb dL_isRoll_171 (by decide) (fun c_171 => ?_) (fun c_171 => ?_)
            · skip
              have hoff : bI (rollOff (nI p) (hC ck cf cd nF (nI (sk ri * 40 + p * 4 + m)) (nI f)) (hC ck cf cd nF (nI (sk ri * 40 + (p - 1) * 4 + m)) (nI f)) (hC ck cf cd nF (nI (fk ri * 40 + p * 4 + m)) (nI f)) cd cv = true) = 0 := (bI_f (ro_n1 hOj1)).symm
              refine lv_iconst (v := 0) hx hb dL_isRoll_193 (by decide) ?_
              refine lv_icmp_ne (tgt := 201) hx hb dL_isRoll_194 (by decide) (fun c_194 => ?_) (fun c_194 => ?_)
              · skip
                exact absurd hoff c_194
              · skip
                refine lv_iconst (v := 1) hx hb dL_isRoll_197 (by decide) ?_
                refine lv_goto (tgt := 202) hx hb dL_isRoll_198 (by decide) ?_
                exact W.widen (k := 30) (n := 180) (Nat.le_of_ble_eq_true rfl) (Nat.le_of_ble_eq_true rfl) (W.zret (v := 1) hx hb hr (rfl) (fun t ht hW => ⟨⟨1, (), rfl, rfl, g_PD ht hP hD⟩, hS.F ht⟩) hS.2.2 dL_isRoll_202)
            · skip
              exact absurd c_171 (by decide)
          · skip
            exact absurd c_82 (by decide)
    · skip
      obtain rfl : r_1 = cv j1 := hr_1.trans (congrArg (hv cv) hOj1)
      refine lv_istore (lv' := [(6, .int (cv j1)), (0, .ref (a 0)), (1, .ref rb), (2, .int (nI ri)), (3, .int (nI p)), (4, .int (nI m)), (5, .int (nI f))]) hx hb dL_isRoll_38 hl (by decide) rfl (fun ls hl => ?_)
      refine lv_aload_n hx hb dL_isRoll_40 rfl (lv_at hl 1 rfl) ?_
      refine lv_iconst (v := 0) hx hb dL_isRoll_41 (by decide) ?_
      refine lv_aload_n hx hb dL_isRoll_42 rfl (lv_at hl 2 rfl) ?_
      refine lv_iconst (v := 2) hx hb dL_isRoll_43 (by decide) ?_
      refine lv_iload_n hx hb dL_isRoll_44 rfl (lv_at hl 3 rfl) ?_
      refine lv_imul hx hb dL_isRoll_45 ?_
      refine lv_topi (fun dv edv => ?_)
      obtain rfl : dv = nI (2 * ri) := by rw [edv]; exact pk_mul 2 ri
      refine g_iald hx hb hK hP (11 + nF + 1) 0 (n := 10) (f := rv) (WDRj 1 rfl) rfl (2 * ri) rfl (by omega) (by decide) dL_isRoll_46 ?_
      refine lv_topi (fun dv edv => ?_)
      obtain rfl : dv = nI (sk ri) := by rw [edv]; exact (hrk _ (by omega)).1
      refine lv_iload_n hx hb dL_isRoll_47 rfl (lv_at hl 4 rfl) ?_
      refine lv_iconst (v := 1) hx hb dL_isRoll_48 (by decide) ?_
      refine lv_isub hx hb dL_isRoll_49 ?_
      refine lv_topi (fun dv edv => ?_)
      obtain rfl : dv = nI (p - 1) := by rw [edv]; exact nI_sub1 (by omega)
      refine lv_iload hx hb dL_isRoll_50 (lv_at hl 5 rfl) ?_
      refine lv_iload hx hb dL_isRoll_52 (lv_at hl 6 rfl) ?_
      refine va_calli (vx_runSW (hh := [(0, 27, 28, 19)]) (As := [.ref (a 0), .int 0, .int (nI (sk ri)), .int (nI (p - 1)), .int (nI m), .int (nI f)]) (rest := []) ⟨hx, hb, hml, hown, hts⟩ (kL_held l D cI cZ cO cL dt A a FA nC nR nL nF par wt sk fk hd rea sig ck cf cd cv nx pb rb cb pv rv kv L (sk ri) (p - 1) m f hlt hOk (hskC ri hri).1 (by omega) (by omega) (by omega)) (vx_cwSW 6 hts gL_isRoll_L_held rfl rfl rfl (by decide +kernel) ⟨(Nat.le_of_ble_eq_true rfl), (Nat.le_of_ble_eq_true rfl)⟩) (gP.s (hg.on hS) (⟨hP, hD⟩)) rfl rfl hl.1 rfl (lv_room (Nat.le_of_ble_eq_true rfl)) dL_isRoll_54 ⟨(Nat.le_of_ble_eq_true rfl), (Nat.le_of_ble_eq_true rfl)⟩) hS (fun q _ h => h) (fun q h => h) (fun r_21 ur_21 tr_21 H locs htr_21 hvmr_21 hr_21 hB hzr_21 hkr_21 hS => ?_)
      rw [htr_21] at hB
      obtain ⟨hP, hD⟩ := hB
      refine W.widen (k := 8) (n := 48) (Nat.le_of_ble_eq_true rfl) (Nat.le_of_ble_eq_true rfl) ?_
      have hP : va_P D vwCl (WD cI cO a FA nC nR nL nF par wt (fun r => nI (sk r)) (fun r => nI (fk r)) hd rea sig ++ (WF FA ck cf cd cv nx nF ++ (LR cI pb rb cb pv rv kv))) H := hP
      have hD : va_D A (WD cI cO a FA nC nR nL nF par wt (fun r => nI (sk r)) (fun r => nI (fk r)) hd rea sig ++ (WF FA ck cf cd cv nx nF ++ (LR cI pb rb cb pv rv kv))) := hD
      obtain ⟨o_r_21, hOj2⟩ : ∃ z, hC ck cf cd nF (nI ((sk ri) * 40 + (p - 1) * 4 + m)) (nI f) = z := ⟨_, rfl⟩
      rcases o_r_21 with _ | j2
      · skip
        obtain rfl : r_21 = (-99000000) := hr_21.trans (congrArg (hv cv) hOj2)
        refine lv_istore (lv' := [(7, .int (-99000000)), (6, .int (cv j1)), (0, .ref (a 0)), (1, .ref rb), (2, .int (nI ri)), (3, .int (nI p)), (4, .int (nI m)), (5, .int (nI f))]) hx hb dL_isRoll_57 hl (by decide) rfl (fun ls hl => ?_)
        refine lv_aload_n hx hb dL_isRoll_59 rfl (lv_at hl 2 rfl) ?_
        refine lv_iconst (v := 0) hx hb dL_isRoll_60 (by decide) ?_
        refine lv_aload_n hx hb dL_isRoll_61 rfl (lv_at hl 3 rfl) ?_
        refine lv_iconst (v := 2) hx hb dL_isRoll_62 (by decide) ?_
        refine lv_iload_n hx hb dL_isRoll_63 rfl (lv_at hl 4 rfl) ?_
        refine lv_imul hx hb dL_isRoll_64 ?_
        refine lv_topi (fun dv edv => ?_)
        obtain rfl : dv = nI (2 * ri) := by rw [edv]; exact pk_mul 2 ri
        refine lv_iconst (v := 1) hx hb dL_isRoll_65 (by decide) ?_
        refine lv_iadd hx hb dL_isRoll_66 ?_
        refine lv_topi (fun dv edv => ?_)
        obtain rfl : dv = nI ((2 * ri) + 1) := by rw [edv]; exact nI_add (2 * ri) 1
        refine g_iald hx hb hK hP (11 + nF + 1) 0 (n := 10) (f := rv) (WDRj 1 rfl) rfl ((2 * ri) + 1) rfl (by omega) (by decide) dL_isRoll_67 ?_
        refine lv_topi (fun dv edv => ?_)
        obtain rfl : dv = nI (fk ri) := by rw [edv]; exact (hrk _ (by omega)).2
        refine lv_iload_n hx hb dL_isRoll_68 rfl (lv_at hl 5 rfl) ?_
        refine lv_iload hx hb dL_isRoll_69 (lv_at hl 6 rfl) ?_
        refine lv_iload hx hb dL_isRoll_71 (lv_at hl 7 rfl) ?_
        refine va_calli (vx_runSW (hh := [(0, 27, 28, 19)]) (As := [.ref (a 0), .int 0, .int (nI (fk ri)), .int (nI p), .int (nI m), .int (nI f)]) (rest := []) ⟨hx, hb, hml, hown, hts⟩ (kL_held l D cI cZ cO cL dt A a FA nC nR nL nF par wt sk fk hd rea sig ck cf cd cv nx pb rb cb pv rv kv L (fk ri) p m f hlt hOk (hskC ri hri).2 (by omega) (by omega) (by omega)) (vx_cwSW 6 hts gL_isRoll_L_held rfl rfl rfl (by decide +kernel) ⟨(Nat.le_of_ble_eq_true rfl), (Nat.le_of_ble_eq_true rfl)⟩) (gP.s (hg.on hS) (⟨hP, hD⟩)) rfl rfl hl.1 rfl (lv_room (Nat.le_of_ble_eq_true rfl)) dL_isRoll_73 ⟨(Nat.le_of_ble_eq_true rfl), (Nat.le_of_ble_eq_true rfl)⟩) hS (fun q _ h => h) (fun q h => h) (fun r_22 ur_22 tr_22 H locs htr_22 hvmr_22 hr_22 hB hzr_22 hkr_22 hS => ?_)
        rw [htr_22] at hB
        obtain ⟨hP, hD⟩ := hB
        refine W.widen (k := 12) (n := 72) (Nat.le_of_ble_eq_true rfl) (Nat.le_of_ble_eq_true rfl) ?_
        have hP : va_P D vwCl (WD cI cO a FA nC nR nL nF par wt (fun r => nI (sk r)) (fun r => nI (fk r)) hd rea sig ++ (WF FA ck cf cd cv nx nF ++ (LR cI pb rb cb pv rv kv))) H := hP
        have hD : va_D A (WD cI cO a FA nC nR nL nF par wt (fun r => nI (sk r)) (fun r => nI (fk r)) hd rea sig ++ (WF FA ck cf cd cv nx nF ++ (LR cI pb rb cb pv rv kv))) := hD
        obtain ⟨o_r_22, hOj3⟩ : ∃ z, hC ck cf cd nF (nI ((fk ri) * 40 + p * 4 + m)) (nI f) = z := ⟨_, rfl⟩
        rcases o_r_22 with _ | j3
        · skip
          obtain rfl : r_22 = (-99000000) := hr_22.trans (congrArg (hv cv) hOj3)
          refine lv_istore (lv' := [(8, .int (-99000000)), (7, .int (-99000000)), (6, .int (cv j1)), (0, .ref (a 0)), (1, .ref rb), (2, .int (nI ri)), (3, .int (nI p)), (4, .int (nI m)), (5, .int (nI f))]) hx hb dL_isRoll_76 hl (by decide) rfl (fun ls hl => ?_)
          refine lv_iload hx hb dL_isRoll_78 (lv_at hl 2 rfl) ?_
          refine lv_ldc (v := (-99000000)) hx hb hown w_0 dL_isRoll_80 ?_
          refine lv_icmp_eq (tgt := 103) hx hb dL_isRoll_82 (by decide) (fun c_82 => ?_) (fun c_82 => ?_)
          · skip
            exact absurd c_82 (hcv j1).ne
          · skip
            refine lv_iload hx hb dL_isRoll_85 (lv_at hl 1 rfl) ?_
            refine lv_ldc (v := (-99000000)) hx hb hown w_0 dL_isRoll_87 ?_
            refine lv_icmp_eq (tgt := 103) hx hb dL_isRoll_89 (by decide) (fun c_89 => ?_) (fun c_89 => ?_)
            · skip
              refine lv_iconst (v := 0) hx hb dL_isRoll_103 (by decide) ?_
              refine lv_istore (lv' := [(9, .int 0), (8, .int (-99000000)), (7, .int (-99000000)), (6, .int (cv j1)), (0, .ref (a 0)), (1, .ref rb), (2, .int (nI ri)), (3, .int (nI p)), (4, .int (nI m)), (5, .int (nI f))]) hx hb dL_isRoll_104 hl (by decide) rfl (fun ls hl => ?_)
              refine lv_aload_n hx hb dL_isRoll_106 rfl (lv_at hl 4 rfl) ?_
              refine lv_iconst (v := 1) hx hb dL_isRoll_107 (by decide) ?_
              refine lv_aload_n hx hb dL_isRoll_108 rfl (lv_at hl 5 rfl) ?_
              refine lv_iconst (v := 2) hx hb dL_isRoll_109 (by decide) ?_
              refine lv_iload_n hx hb dL_isRoll_110 rfl (lv_at hl 6 rfl) ?_
              refine lv_imul hx hb dL_isRoll_111 ?_
              refine lv_topi (fun dv edv => ?_)
              obtain rfl : dv = nI (2 * ri) := by rw [edv]; exact pk_mul 2 ri
              refine g_iald hx hb hK hP (11 + nF + 1) 0 (n := 10) (f := rv) (WDRj 1 rfl) rfl (2 * ri) rfl (by omega) (by decide) dL_isRoll_112 ?_
              refine lv_topi (fun dv edv => ?_)
              obtain rfl : dv = nI (sk ri) := by rw [edv]; exact (hrk _ (by omega)).1
              refine lv_iload_n hx hb dL_isRoll_113 rfl (lv_at hl 7 rfl) ?_
              refine lv_iload hx hb dL_isRoll_114 (lv_at hl 8 rfl) ?_
              refine lv_iload hx hb dL_isRoll_116 (lv_at hl 9 rfl) ?_
              refine va_calli (vx_runSW (hh := [(0, 27, 28, 19)]) (As := [.ref (a 0), .int 1, .int (nI (sk ri)), .int (nI p), .int (nI m), .int (nI f)]) (rest := []) ⟨hx, hb, hml, hown, hts⟩ (kL_heldD l D cI cZ cO cL dt A a FA nC nR nL nF par wt sk fk hd rea sig ck cf cd cv nx pb rb cb pv rv kv L (sk ri) p m f hlt hOk (hskC ri hri).1 (by omega) (by omega) (by omega)) (vx_cwSW 6 hts gL_isRoll_L_held rfl rfl rfl (by decide +kernel) ⟨(Nat.le_of_ble_eq_true rfl), (Nat.le_of_ble_eq_true rfl)⟩) (gP.s (hg.on hS) (⟨hP, hD⟩)) rfl rfl hl.1 rfl (lv_room (Nat.le_of_ble_eq_true rfl)) dL_isRoll_118 ⟨(Nat.le_of_ble_eq_true rfl), (Nat.le_of_ble_eq_true rfl)⟩) hS (fun q _ h => h) (fun q h => h) (fun r_23 ur_23 tr_23 H locs htr_23 hvmr_23 hr_23 hB hzr_23 hkr_23 hS => ?_)
              rw [htr_23] at hB
              obtain ⟨hP, hD⟩ := hB
              refine W.widen (k := 16) (n := 96) (Nat.le_of_ble_eq_true rfl) (Nat.le_of_ble_eq_true rfl) ?_
              have hP : va_P D vwCl (WD cI cO a FA nC nR nL nF par wt (fun r => nI (sk r)) (fun r => nI (fk r)) hd rea sig ++ (WF FA ck cf cd cv nx nF ++ (LR cI pb rb cb pv rv kv))) H := hP
              have hD : va_D A (WD cI cO a FA nC nR nL nF par wt (fun r => nI (sk r)) (fun r => nI (fk r)) hd rea sig ++ (WF FA ck cf cd cv nx nF ++ (LR cI pb rb cb pv rv kv))) := hD
              obtain rfl : r_23 = nI (10 ^ cd j1) := hr_23.trans (by rw [hOj1]; rfl)
              refine lv_aload_n hx hb dL_isRoll_121 rfl (lv_at hl 4 rfl) ?_
              refine lv_iconst (v := 1) hx hb dL_isRoll_122 (by decide) ?_
              refine lv_aload_n hx hb dL_isRoll_123 rfl (lv_at hl 5 rfl) ?_
              refine lv_iconst (v := 2) hx hb dL_isRoll_124 (by decide) ?_
              refine lv_iload_n hx hb dL_isRoll_125 rfl (lv_at hl 6 rfl) ?_
              refine lv_imul hx hb dL_isRoll_126 ?_
              refine lv_topi (fun dv edv => ?_)
              obtain rfl : dv = nI (2 * ri) := by rw [edv]; exact pk_mul 2 ri
              refine g_iald hx hb hK hP (11 + nF + 1) 0 (n := 10) (f := rv) (WDRj 1 rfl) rfl (2 * ri) rfl (by omega) (by decide) dL_isRoll_127 ?_
              refine lv_topi (fun dv edv => ?_)
              obtain rfl : dv = nI (sk ri) := by rw [edv]; exact (hrk _ (by omega)).1
              refine lv_iload_n hx hb dL_isRoll_128 rfl (lv_at hl 7 rfl) ?_
              refine lv_iconst (v := 1) hx hb dL_isRoll_129 (by decide) ?_
              refine lv_isub hx hb dL_isRoll_130 ?_
              refine lv_topi (fun dv edv => ?_)
              obtain rfl : dv = nI (p - 1) := by rw [edv]; exact nI_sub1 (by omega)
              refine lv_iload hx hb dL_isRoll_131 (lv_at hl 8 rfl) ?_
              refine lv_iload hx hb dL_isRoll_133 (lv_at hl 9 rfl) ?_
              refine va_calli (vx_runSW (hh := [(0, 27, 28, 19)]) (As := [.ref (a 0), .int 1, .int (nI (sk ri)), .int (nI (p - 1)), .int (nI m), .int (nI f)]) (rest := [.int (nI (10 ^ cd j1))]) ⟨hx, hb, hml, hown, hts⟩ (kL_heldD l D cI cZ cO cL dt A a FA nC nR nL nF par wt sk fk hd rea sig ck cf cd cv nx pb rb cb pv rv kv L (sk ri) (p - 1) m f hlt hOk (hskC ri hri).1 (by omega) (by omega) (by omega)) (vx_cwSW 6 hts gL_isRoll_L_held rfl rfl rfl (by decide +kernel) ⟨(Nat.le_of_ble_eq_true rfl), (Nat.le_of_ble_eq_true rfl)⟩) (gP.s (hg.on hS) (⟨hP, hD⟩)) rfl rfl hl.1 rfl (lv_room (Nat.le_of_ble_eq_true rfl)) dL_isRoll_135 ⟨(Nat.le_of_ble_eq_true rfl), (Nat.le_of_ble_eq_true rfl)⟩) hS (fun q _ h => h) (fun q h => h) (fun r_24 ur_24 tr_24 H locs htr_24 hvmr_24 hr_24 hB hzr_24 hkr_24 hS => ?_)
              rw [htr_24] at hB
              obtain ⟨hP, hD⟩ := hB
              refine W.widen (k := 20) (n := 120) (Nat.le_of_ble_eq_true rfl) (Nat.le_of_ble_eq_true rfl) ?_
              have hP : va_P D vwCl (WD cI cO a FA nC nR nL nF par wt (fun r => nI (sk r)) (fun r => nI (fk r)) hd rea sig ++ (WF FA ck cf cd cv nx nF ++ (LR cI pb rb cb pv rv kv))) H := hP
              have hD : va_D A (WD cI cO a FA nC nR nL nF par wt (fun r => nI (sk r)) (fun r => nI (fk r)) hd rea sig ++ (WF FA ck cf cd cv nx nF ++ (LR cI pb rb cb pv rv kv))) := hD
              obtain rfl : r_24 = (-99000000) := hr_24.trans (by rw [hOj2]; rfl)
              refine lv_iadd hx hb dL_isRoll_138 ?_
              refine lv_aload_n hx hb dL_isRoll_139 rfl (lv_at hl 4 rfl) ?_
              refine lv_iconst (v := 1) hx hb dL_isRoll_140 (by decide) ?_
              refine lv_aload_n hx hb dL_isRoll_141 rfl (lv_at hl 5 rfl) ?_
              refine lv_iconst (v := 2) hx hb dL_isRoll_142 (by decide) ?_
              refine lv_iload_n hx hb dL_isRoll_143 rfl (lv_at hl 6 rfl) ?_
              refine lv_imul hx hb dL_isRoll_144 ?_
              refine lv_topi (fun dv edv => ?_)
              obtain rfl : dv = nI (2 * ri) := by rw [edv]; exact pk_mul 2 ri
              refine lv_iconst (v := 1) hx hb dL_isRoll_145 (by decide) ?_
              refine lv_iadd hx hb dL_isRoll_146 ?_
              refine lv_topi (fun dv edv => ?_)
              obtain rfl : dv = nI ((2 * ri) + 1) := by rw [edv]; exact nI_add (2 * ri) 1
              refine g_iald hx hb hK hP (11 + nF + 1) 0 (n := 10) (f := rv) (WDRj 1 rfl) rfl ((2 * ri) + 1) rfl (by omega) (by decide) dL_isRoll_147 ?_
              refine lv_topi (fun dv edv => ?_)
              obtain rfl : dv = nI (fk ri) := by rw [edv]; exact (hrk _ (by omega)).2
              refine lv_iload_n hx hb dL_isRoll_148 rfl (lv_at hl 7 rfl) ?_
              refine lv_iload hx hb dL_isRoll_149 (lv_at hl 8 rfl) ?_
              refine lv_iload hx hb dL_isRoll_151 (lv_at hl 9 rfl) ?_
              refine va_calli (vx_runSW (hh := [(0, 27, 28, 19)]) (As := [.ref (a 0), .int 1, .int (nI (fk ri)), .int (nI p), .int (nI m), .int (nI f)]) (rest := [.int ((nI (10 ^ cd j1)) + (-99000000))]) ⟨hx, hb, hml, hown, hts⟩ (kL_heldD l D cI cZ cO cL dt A a FA nC nR nL nF par wt sk fk hd rea sig ck cf cd cv nx pb rb cb pv rv kv L (fk ri) p m f hlt hOk (hskC ri hri).2 (by omega) (by omega) (by omega)) (vx_cwSW 6 hts gL_isRoll_L_held rfl rfl rfl (by decide +kernel) ⟨(Nat.le_of_ble_eq_true rfl), (Nat.le_of_ble_eq_true rfl)⟩) (gP.s (hg.on hS) (⟨hP, hD⟩)) rfl rfl hl.1 rfl (lv_room (Nat.le_of_ble_eq_true rfl)) dL_isRoll_153 ⟨(Nat.le_of_ble_eq_true rfl), (Nat.le_of_ble_eq_true rfl)⟩) hS (fun q _ h => h) (fun q h => h) (fun r_25 ur_25 tr_25 H locs htr_25 hvmr_25 hr_25 hB hzr_25 hkr_25 hS => ?_)
              rw [htr_25] at hB
              obtain ⟨hP, hD⟩ := hB
              refine W.widen (k := 24) (n := 144) (Nat.le_of_ble_eq_true rfl) (Nat.le_of_ble_eq_true rfl) ?_
              have hP : va_P D vwCl (WD cI cO a FA nC nR nL nF par wt (fun r => nI (sk r)) (fun r => nI (fk r)) hd rea sig ++ (WF FA ck cf cd cv nx nF ++ (LR cI pb rb cb pv rv kv))) H := hP
              have hD : va_D A (WD cI cO a FA nC nR nL nF par wt (fun r => nI (sk r)) (fun r => nI (fk r)) hd rea sig ++ (WF FA ck cf cd cv nx nF ++ (LR cI pb rb cb pv rv kv))) := hD
              obtain rfl : r_25 = (-99000000) := hr_25.trans (by rw [hOj3]; rfl)
              refine lv_iadd hx hb dL_isRoll_156 ?_
              refine lv_istore (lv' := [(10, .int (((nI (10 ^ cd j1)) + (-99000000)) + (-99000000))), (9, .int 0), (8, .int (-99000000)), (7, .int (-99000000)), (6, .int (cv j1)), (0, .ref (a 0)), (1, .ref rb), (2, .int (nI ri)), (3, .int (nI p)), (4, .int (nI m)), (5, .int (nI f))]) hx hb dL_isRoll_157 hl (by decide) rfl (fun ls hl => ?_)
              refine lv_aload_n hx hb dL_isRoll_159 rfl (lv_at hl 5 rfl) ?_
              refine lv_iload_n hx hb dL_isRoll_160 rfl (lv_at hl 7 rfl) ?_
              refine lv_iload_n hx hb dL_isRoll_161 rfl (lv_at hl 8 rfl) ?_
              refine lv_iload hx hb dL_isRoll_162 (lv_at hl 9 rfl) ?_
              refine lv_iload hx hb dL_isRoll_164 (lv_at hl 10 rfl) ?_
              refine va_calli (va_runV (As := [.int (nI ri), .int (nI p), .int (nI m), .int (nI f)]) (rest := []) ⟨hx, hb, hml, hown, hts⟩ (m4_isRollOff l D cI cZ cO cL dt A a FA nC nR nL nF par wt (fun r => nI (sk r)) (fun r => nI (fk r)) hd rea sig ck cf cd cv nx (LR cI pb rb cb pv rv kv) ri p m f sk fk hlt hF hC12 hck hcf hcd hcv hwt hCh hL8 hR5 (fun _ => rfl) (fun _ => rfl) hsk12 hfk12 hri hp hm hf) (cwV 4 hts gL_isRoll_X4_isRollOff rfl rfl rfl (by decide +kernel) ⟨(Nat.le_of_ble_eq_true rfl), (Nat.le_of_ble_eq_true rfl)⟩) (gP.v (hg.on hS) hP 3 rfl 0 rfl (⟨hP, hD⟩)) rfl rfl hl.1 rfl (lv_room (Nat.le_of_ble_eq_true rfl)) dL_isRoll_166 ⟨(Nat.le_of_ble_eq_true rfl), (Nat.le_of_ble_eq_true rfl)⟩) hS (fun q _ h => h) (fun q h => h) (fun r_26 ur_26 tr_26 H locs htr_26 hvmr_26 hr_26 hB hzr_26 hkr_26 hS => ?_)
              rw [htr_26] at hB
              obtain ⟨hP, hD⟩ := hB
              refine W.widen (k := 26) (n := 156) (Nat.le_of_ble_eq_true rfl) (Nat.le_of_ble_eq_true rfl) ?_
              have hP : va_P D vwCl (WD cI cO a FA nC nR nL nF par wt (fun r => nI (sk r)) (fun r => nI (fk r)) hd rea sig ++ (WF FA ck cf cd cv nx nF ++ (LR cI pb rb cb pv rv kv))) H := hP
              have hD : va_D A (WD cI cO a FA nC nR nL nF par wt (fun r => nI (sk r)) (fun r => nI (fk r)) hd rea sig ++ (WF FA ck cf cd cv nx nF ++ (LR cI pb rb cb pv rv kv))) := hD
              obtain rfl : r_26 = bI (rollOff (nI p) (hC ck cf cd nF (nI (sk ri * 40 + p * 4 + m)) (nI f)) (hC ck cf cd nF (nI (sk ri * 40 + (p - 1) * 4 + m)) (nI f)) (hC ck cf cd nF (nI (fk ri * 40 + p * 4 + m)) (nI f)) cd cv = true) := hr_26
              refine lv_iload hx hb dL_isRoll_169 (lv_at hl 1 rfl) ?_
              refine lv_if_eq (tgt := 193) hx hb dL_isRoll_171 (by decide) (fun c_171 => ?_) (fun c_171 => ?_)
              · skip
                have hoff : bI (rollOff (nI p) (hC ck cf cd nF (nI (sk ri * 40 + p * 4 + m)) (nI f)) (hC ck cf cd nF (nI (sk ri * 40 + (p - 1) * 4 + m)) (nI f)) (hC ck cf cd nF (nI (fk ri * 40 + p * 4 + m)) (nI f)) cd cv = true) = 0 := (bI_f (ro_n2 hOj2)).symm
                refine lv_iconst (v := 0) hx hb dL_isRoll_193 (by decide) ?_
                refine lv_icmp_ne (tgt := 201) hx hb dL_isRoll_194 (by decide) (fun c_194 => ?_) (fun c_194 => ?_)
                · skip
                  exact absurd hoff c_194
                · skip
                  refine lv_iconst (v := 1) hx hb dL_isRoll_197 (by decide) ?_
                  refine lv_goto (tgt := 202) hx hb dL_isRoll_198 (by decide) ?_
                  exact W.widen (k := 30) (n := 180) (Nat.le_of_ble_eq_true rfl) (Nat.le_of_ble_eq_true rfl) (W.zret (v := 1) hx hb hr (rfl) (fun t ht hW => ⟨⟨1, (), rfl, rfl, g_PD ht hP hD⟩, hS.F ht⟩) hS.2.2 dL_isRoll_202)
              · skip
                exact absurd c_171 (by decide)
            · skip
              exact absurd c_89 (by decide)
        · skip
          obtain rfl : r_22 = cv j3 := hr_22.trans (congrArg (hv cv) hOj3)
          refine lv_istore (lv' := [(8, .int (cv j3)), (7, .int (-99000000)), (6, .int (cv j1)), (0, .ref (a 0)), (1, .ref rb), (2, .int (nI ri)), (3, .int (nI p)), (4, .int (nI m)), (5, .int (nI f))]) hx hb dL_isRoll_76 hl (by decide) rfl (fun ls hl => ?_)
          refine lv_iload hx hb dL_isRoll_78 (lv_at hl 2 rfl) ?_
          refine lv_ldc (v := (-99000000)) hx hb hown w_0 dL_isRoll_80 ?_
          refine lv_icmp_eq (tgt := 103) hx hb dL_isRoll_82 (by decide) (fun c_82 => ?_) (fun c_82 => ?_)
          · skip
            exact absurd c_82 (hcv j1).ne
          · skip
            refine lv_iload hx hb dL_isRoll_85 (lv_at hl 1 rfl) ?_
            refine lv_ldc (v := (-99000000)) hx hb hown w_0 dL_isRoll_87 ?_
            refine lv_icmp_eq (tgt := 103) hx hb dL_isRoll_89 (by decide) (fun c_89 => ?_) (fun c_89 => ?_)
            · skip
              refine lv_iconst (v := 0) hx hb dL_isRoll_103 (by decide) ?_
              refine lv_istore (lv' := [(9, .int 0), (8, .int (cv j3)), (7, .int (-99000000)), (6, .int (cv j1)), (0, .ref (a 0)), (1, .ref rb), (2, .int (nI ri)), (3, .int (nI p)), (4, .int (nI m)), (5, .int (nI f))]) hx hb dL_isRoll_104 hl (by decide) rfl (fun ls hl => ?_)
              refine lv_aload_n hx hb dL_isRoll_106 rfl (lv_at hl 4 rfl) ?_
              refine lv_iconst (v := 1) hx hb dL_isRoll_107 (by decide) ?_
              refine lv_aload_n hx hb dL_isRoll_108 rfl (lv_at hl 5 rfl) ?_
              refine lv_iconst (v := 2) hx hb dL_isRoll_109 (by decide) ?_
              refine lv_iload_n hx hb dL_isRoll_110 rfl (lv_at hl 6 rfl) ?_
              refine lv_imul hx hb dL_isRoll_111 ?_
              refine lv_topi (fun dv edv => ?_)
              obtain rfl : dv = nI (2 * ri) := by rw [edv]; exact pk_mul 2 ri
              refine g_iald hx hb hK hP (11 + nF + 1) 0 (n := 10) (f := rv) (WDRj 1 rfl) rfl (2 * ri) rfl (by omega) (by decide) dL_isRoll_112 ?_
              refine lv_topi (fun dv edv => ?_)
              obtain rfl : dv = nI (sk ri) := by rw [edv]; exact (hrk _ (by omega)).1
              refine lv_iload_n hx hb dL_isRoll_113 rfl (lv_at hl 7 rfl) ?_
              refine lv_iload hx hb dL_isRoll_114 (lv_at hl 8 rfl) ?_
              refine lv_iload hx hb dL_isRoll_116 (lv_at hl 9 rfl) ?_
              refine va_calli (vx_runSW (hh := [(0, 27, 28, 19)]) (As := [.ref (a 0), .int 1, .int (nI (sk ri)), .int (nI p), .int (nI m), .int (nI f)]) (rest := []) ⟨hx, hb, hml, hown, hts⟩ (kL_heldD l D cI cZ cO cL dt A a FA nC nR nL nF par wt sk fk hd rea sig ck cf cd cv nx pb rb cb pv rv kv L (sk ri) p m f hlt hOk (hskC ri hri).1 (by omega) (by omega) (by omega)) (vx_cwSW 6 hts gL_isRoll_L_held rfl rfl rfl (by decide +kernel) ⟨(Nat.le_of_ble_eq_true rfl), (Nat.le_of_ble_eq_true rfl)⟩) (gP.s (hg.on hS) (⟨hP, hD⟩)) rfl rfl hl.1 rfl (lv_room (Nat.le_of_ble_eq_true rfl)) dL_isRoll_118 ⟨(Nat.le_of_ble_eq_true rfl), (Nat.le_of_ble_eq_true rfl)⟩) hS (fun q _ h => h) (fun q h => h) (fun r_27 ur_27 tr_27 H locs htr_27 hvmr_27 hr_27 hB hzr_27 hkr_27 hS => ?_)
              rw [htr_27] at hB
              obtain ⟨hP, hD⟩ := hB
              refine W.widen (k := 16) (n := 96) (Nat.le_of_ble_eq_true rfl) (Nat.le_of_ble_eq_true rfl) ?_
              have hP : va_P D vwCl (WD cI cO a FA nC nR nL nF par wt (fun r => nI (sk r)) (fun r => nI (fk r)) hd rea sig ++ (WF FA ck cf cd cv nx nF ++ (LR cI pb rb cb pv rv kv))) H := hP
              have hD : va_D A (WD cI cO a FA nC nR nL nF par wt (fun r => nI (sk r)) (fun r => nI (fk r)) hd rea sig ++ (WF FA ck cf cd cv nx nF ++ (LR cI pb rb cb pv rv kv))) := hD
              obtain rfl : r_27 = nI (10 ^ cd j1) := hr_27.trans (by rw [hOj1]; rfl)
              refine lv_aload_n hx hb dL_isRoll_121 rfl (lv_at hl 4 rfl) ?_
              refine lv_iconst (v := 1) hx hb dL_isRoll_122 (by decide) ?_
              refine lv_aload_n hx hb dL_isRoll_123 rfl (lv_at hl 5 rfl) ?_
              refine lv_iconst (v := 2) hx hb dL_isRoll_124 (by decide) ?_
              refine lv_iload_n hx hb dL_isRoll_125 rfl (lv_at hl 6 rfl) ?_
              refine lv_imul hx hb dL_isRoll_126 ?_
              refine lv_topi (fun dv edv => ?_)
              obtain rfl : dv = nI (2 * ri) := by rw [edv]; exact pk_mul 2 ri
              refine g_iald hx hb hK hP (11 + nF + 1) 0 (n := 10) (f := rv) (WDRj 1 rfl) rfl (2 * ri) rfl (by omega) (by decide) dL_isRoll_127 ?_
              refine lv_topi (fun dv edv => ?_)
              obtain rfl : dv = nI (sk ri) := by rw [edv]; exact (hrk _ (by omega)).1
              refine lv_iload_n hx hb dL_isRoll_128 rfl (lv_at hl 7 rfl) ?_
              refine lv_iconst (v := 1) hx hb dL_isRoll_129 (by decide) ?_
              refine lv_isub hx hb dL_isRoll_130 ?_
              refine lv_topi (fun dv edv => ?_)
              obtain rfl : dv = nI (p - 1) := by rw [edv]; exact nI_sub1 (by omega)
              refine lv_iload hx hb dL_isRoll_131 (lv_at hl 8 rfl) ?_
              refine lv_iload hx hb dL_isRoll_133 (lv_at hl 9 rfl) ?_
              refine va_calli (vx_runSW (hh := [(0, 27, 28, 19)]) (As := [.ref (a 0), .int 1, .int (nI (sk ri)), .int (nI (p - 1)), .int (nI m), .int (nI f)]) (rest := [.int (nI (10 ^ cd j1))]) ⟨hx, hb, hml, hown, hts⟩ (kL_heldD l D cI cZ cO cL dt A a FA nC nR nL nF par wt sk fk hd rea sig ck cf cd cv nx pb rb cb pv rv kv L (sk ri) (p - 1) m f hlt hOk (hskC ri hri).1 (by omega) (by omega) (by omega)) (vx_cwSW 6 hts gL_isRoll_L_held rfl rfl rfl (by decide +kernel) ⟨(Nat.le_of_ble_eq_true rfl), (Nat.le_of_ble_eq_true rfl)⟩) (gP.s (hg.on hS) (⟨hP, hD⟩)) rfl rfl hl.1 rfl (lv_room (Nat.le_of_ble_eq_true rfl)) dL_isRoll_135 ⟨(Nat.le_of_ble_eq_true rfl), (Nat.le_of_ble_eq_true rfl)⟩) hS (fun q _ h => h) (fun q h => h) (fun r_28 ur_28 tr_28 H locs htr_28 hvmr_28 hr_28 hB hzr_28 hkr_28 hS => ?_)
              rw [htr_28] at hB
              obtain ⟨hP, hD⟩ := hB
              refine W.widen (k := 20) (n := 120) (Nat.le_of_ble_eq_true rfl) (Nat.le_of_ble_eq_true rfl) ?_
              have hP : va_P D vwCl (WD cI cO a FA nC nR nL nF par wt (fun r => nI (sk r)) (fun r => nI (fk r)) hd rea sig ++ (WF FA ck cf cd cv nx nF ++ (LR cI pb rb cb pv rv kv))) H := hP
              have hD : va_D A (WD cI cO a FA nC nR nL nF par wt (fun r => nI (sk r)) (fun r => nI (fk r)) hd rea sig ++ (WF FA ck cf cd cv nx nF ++ (LR cI pb rb cb pv rv kv))) := hD
              obtain rfl : r_28 = (-99000000) := hr_28.trans (by rw [hOj2]; rfl)
              refine lv_iadd hx hb dL_isRoll_138 ?_
              refine lv_aload_n hx hb dL_isRoll_139 rfl (lv_at hl 4 rfl) ?_
              refine lv_iconst (v := 1) hx hb dL_isRoll_140 (by decide) ?_
              refine lv_aload_n hx hb dL_isRoll_141 rfl (lv_at hl 5 rfl) ?_
              refine lv_iconst (v := 2) hx hb dL_isRoll_142 (by decide) ?_
              refine lv_iload_n hx hb dL_isRoll_143 rfl (lv_at hl 6 rfl) ?_
              refine lv_imul hx hb dL_isRoll_144 ?_
              refine lv_topi (fun dv edv => ?_)
              obtain rfl : dv = nI (2 * ri) := by rw [edv]; exact pk_mul 2 ri
              refine lv_iconst (v := 1) hx hb dL_isRoll_145 (by decide) ?_
              refine lv_iadd hx hb dL_isRoll_146 ?_
              refine lv_topi (fun dv edv => ?_)
              obtain rfl : dv = nI ((2 * ri) + 1) := by rw [edv]; exact nI_add (2 * ri) 1
              refine g_iald hx hb hK hP (11 + nF + 1) 0 (n := 10) (f := rv) (WDRj 1 rfl) rfl ((2 * ri) + 1) rfl (by omega) (by decide) dL_isRoll_147 ?_
              refine lv_topi (fun dv edv => ?_)
              obtain rfl : dv = nI (fk ri) := by rw [edv]; exact (hrk _ (by omega)).2
              refine lv_iload_n hx hb dL_isRoll_148 rfl (lv_at hl 7 rfl) ?_
              refine lv_iload hx hb dL_isRoll_149 (lv_at hl 8 rfl) ?_
              refine lv_iload hx hb dL_isRoll_151 (lv_at hl 9 rfl) ?_
              refine va_calli (vx_runSW (hh := [(0, 27, 28, 19)]) (As := [.ref (a 0), .int 1, .int (nI (fk ri)), .int (nI p), .int (nI m), .int (nI f)]) (rest := [.int ((nI (10 ^ cd j1)) + (-99000000))]) ⟨hx, hb, hml, hown, hts⟩ (kL_heldD l D cI cZ cO cL dt A a FA nC nR nL nF par wt sk fk hd rea sig ck cf cd cv nx pb rb cb pv rv kv L (fk ri) p m f hlt hOk (hskC ri hri).2 (by omega) (by omega) (by omega)) (vx_cwSW 6 hts gL_isRoll_L_held rfl rfl rfl (by decide +kernel) ⟨(Nat.le_of_ble_eq_true rfl), (Nat.le_of_ble_eq_true rfl)⟩) (gP.s (hg.on hS) (⟨hP, hD⟩)) rfl rfl hl.1 rfl (lv_room (Nat.le_of_ble_eq_true rfl)) dL_isRoll_153 ⟨(Nat.le_of_ble_eq_true rfl), (Nat.le_of_ble_eq_true rfl)⟩) hS (fun q _ h => h) (fun q h => h) (fun r_29 ur_29 tr_29 H locs htr_29 hvmr_29 hr_29 hB hzr_29 hkr_29 hS => ?_)
              rw [htr_29] at hB
              obtain ⟨hP, hD⟩ := hB
              refine W.widen (k := 24) (n := 144) (Nat.le_of_ble_eq_true rfl) (Nat.le_of_ble_eq_true rfl) ?_
              have hP : va_P D vwCl (WD cI cO a FA nC nR nL nF par wt (fun r => nI (sk r)) (fun r => nI (fk r)) hd rea sig ++ (WF FA ck cf cd cv nx nF ++ (LR cI pb rb cb pv rv kv))) H := hP
              have hD : va_D A (WD cI cO a FA nC nR nL nF par wt (fun r => nI (sk r)) (fun r => nI (fk r)) hd rea sig ++ (WF FA ck cf cd cv nx nF ++ (LR cI pb rb cb pv rv kv))) := hD
              obtain rfl : r_29 = nI (10 ^ cd j3) := hr_29.trans (by rw [hOj3]; rfl)
              refine lv_iadd hx hb dL_isRoll_156 ?_
              refine lv_istore (lv' := [(10, .int (((nI (10 ^ cd j1)) + (-99000000)) + (nI (10 ^ cd j3)))), (9, .int 0), (8, .int (cv j3)), (7, .int (-99000000)), (6, .int (cv j1)), (0, .ref (a 0)), (1, .ref rb), (2, .int (nI ri)), (3, .int (nI p)), (4, .int (nI m)), (5, .int (nI f))]) hx hb dL_isRoll_157 hl (by decide) rfl (fun ls hl => ?_)
              refine lv_aload_n hx hb dL_isRoll_159 rfl (lv_at hl 5 rfl) ?_
              refine lv_iload_n hx hb dL_isRoll_160 rfl (lv_at hl 7 rfl) ?_
              refine lv_iload_n hx hb dL_isRoll_161 rfl (lv_at hl 8 rfl) ?_
              refine lv_iload hx hb dL_isRoll_162 (lv_at hl 9 rfl) ?_
              refine lv_iload hx hb dL_isRoll_164 (lv_at hl 10 rfl) ?_
              refine va_calli (va_runV (As := [.int (nI ri), .int (nI p), .int (nI m), .int (nI f)]) (rest := []) ⟨hx, hb, hml, hown, hts⟩ (m4_isRollOff l D cI cZ cO cL dt A a FA nC nR nL nF par wt (fun r => nI (sk r)) (fun r => nI (fk r)) hd rea sig ck cf cd cv nx (LR cI pb rb cb pv rv kv) ri p m f sk fk hlt hF hC12 hck hcf hcd hcv hwt hCh hL8 hR5 (fun _ => rfl) (fun _ => rfl) hsk12 hfk12 hri hp hm hf) (cwV 4 hts gL_isRoll_X4_isRollOff rfl rfl rfl (by decide +kernel) ⟨(Nat.le_of_ble_eq_true rfl), (Nat.le_of_ble_eq_true rfl)⟩) (gP.v (hg.on hS) hP 3 rfl 0 rfl (⟨hP, hD⟩)) rfl rfl hl.1 rfl (lv_room (Nat.le_of_ble_eq_true rfl)) dL_isRoll_166 ⟨(Nat.le_of_ble_eq_true rfl), (Nat.le_of_ble_eq_true rfl)⟩) hS (fun q _ h => h) (fun q h => h) (fun r_30 ur_30 tr_30 H locs htr_30 hvmr_30 hr_30 hB hzr_30 hkr_30 hS => ?_)
              rw [htr_30] at hB
              obtain ⟨hP, hD⟩ := hB
              refine W.widen (k := 26) (n := 156) (Nat.le_of_ble_eq_true rfl) (Nat.le_of_ble_eq_true rfl) ?_
              have hP : va_P D vwCl (WD cI cO a FA nC nR nL nF par wt (fun r => nI (sk r)) (fun r => nI (fk r)) hd rea sig ++ (WF FA ck cf cd cv nx nF ++ (LR cI pb rb cb pv rv kv))) H := hP
              have hD : va_D A (WD cI cO a FA nC nR nL nF par wt (fun r => nI (sk r)) (fun r => nI (fk r)) hd rea sig ++ (WF FA ck cf cd cv nx nF ++ (LR cI pb rb cb pv rv kv))) := hD
              obtain rfl : r_30 = bI (rollOff (nI p) (hC ck cf cd nF (nI (sk ri * 40 + p * 4 + m)) (nI f)) (hC ck cf cd nF (nI (sk ri * 40 + (p - 1) * 4 + m)) (nI f)) (hC ck cf cd nF (nI (fk ri * 40 + p * 4 + m)) (nI f)) cd cv = true) := hr_30
              refine lv_iload hx hb dL_isRoll_169 (lv_at hl 1 rfl) ?_
              refine lv_if_eq (tgt := 193) hx hb dL_isRoll_171 (by decide) (fun c_171 => ?_) (fun c_171 => ?_)
              · skip
                have hoff : bI (rollOff (nI p) (hC ck cf cd nF (nI (sk ri * 40 + p * 4 + m)) (nI f)) (hC ck cf cd nF (nI (sk ri * 40 + (p - 1) * 4 + m)) (nI f)) (hC ck cf cd nF (nI (fk ri * 40 + p * 4 + m)) (nI f)) cd cv = true) = 0 := (bI_f (ro_n2 hOj2)).symm
                refine lv_iconst (v := 0) hx hb dL_isRoll_193 (by decide) ?_
                refine lv_icmp_ne (tgt := 201) hx hb dL_isRoll_194 (by decide) (fun c_194 => ?_) (fun c_194 => ?_)
                · skip
                  exact absurd hoff c_194
                · skip
                  refine lv_iconst (v := 1) hx hb dL_isRoll_197 (by decide) ?_
                  refine lv_goto (tgt := 202) hx hb dL_isRoll_198 (by decide) ?_
                  exact W.widen (k := 30) (n := 180) (Nat.le_of_ble_eq_true rfl) (Nat.le_of_ble_eq_true rfl) (W.zret (v := 1) hx hb hr (rfl) (fun t ht hW => ⟨⟨1, (), rfl, rfl, g_PD ht hP hD⟩, hS.F ht⟩) hS.2.2 dL_isRoll_202)
              · skip
                exact absurd c_171 (by decide)
            · skip
              exact absurd c_89 (by decide)
      · skip
        obtain rfl : r_21 = cv j2 := hr_21.trans (congrArg (hv cv) hOj2)
        refine lv_istore (lv' := [(7, .int (cv j2)), (6, .int (cv j1)), (0, .ref (a 0)), (1, .ref rb), (2, .int (nI ri)), (3, .int (nI p)), (4, .int (nI m)), (5, .int (nI f))]) hx hb dL_isRoll_57 hl (by decide) rfl (fun ls hl => ?_)
        refine lv_aload_n hx hb dL_isRoll_59 rfl (lv_at hl 2 rfl) ?_
        refine lv_iconst (v := 0) hx hb dL_isRoll_60 (by decide) ?_
        refine lv_aload_n hx hb dL_isRoll_61 rfl (lv_at hl 3 rfl) ?_
        refine lv_iconst (v := 2) hx hb dL_isRoll_62 (by decide) ?_
        refine lv_iload_n hx hb dL_isRoll_63 rfl (lv_at hl 4 rfl) ?_
        refine lv_imul hx hb dL_isRoll_64 ?_
        refine lv_topi (fun dv edv => ?_)
        obtain rfl : dv = nI (2 * ri) := by rw [edv]; exact pk_mul 2 ri
        refine lv_iconst (v := 1) hx hb dL_isRoll_65 (by decide) ?_
        refine lv_iadd hx hb dL_isRoll_66 ?_
        refine lv_topi (fun dv edv => ?_)
        obtain rfl : dv = nI ((2 * ri) + 1) := by rw [edv]; exact nI_add (2 * ri) 1
        refine g_iald hx hb hK hP (11 + nF + 1) 0 (n := 10) (f := rv) (WDRj 1 rfl) rfl ((2 * ri) + 1) rfl (by omega) (by decide) dL_isRoll_67 ?_
        refine lv_topi (fun dv edv => ?_)
        obtain rfl : dv = nI (fk ri) := by rw [edv]; exact (hrk _ (by omega)).2
        refine lv_iload_n hx hb dL_isRoll_68 rfl (lv_at hl 5 rfl) ?_
        refine lv_iload hx hb dL_isRoll_69 (lv_at hl 6 rfl) ?_
        refine lv_iload hx hb dL_isRoll_71 (lv_at hl 7 rfl) ?_
        refine va_calli (vx_runSW (hh := [(0, 27, 28, 19)]) (As := [.ref (a 0), .int 0, .int (nI (fk ri)), .int (nI p), .int (nI m), .int (nI f)]) (rest := []) ⟨hx, hb, hml, hown, hts⟩ (kL_held l D cI cZ cO cL dt A a FA nC nR nL nF par wt sk fk hd rea sig ck cf cd cv nx pb rb cb pv rv kv L (fk ri) p m f hlt hOk (hskC ri hri).2 (by omega) (by omega) (by omega)) (vx_cwSW 6 hts gL_isRoll_L_held rfl rfl rfl (by decide +kernel) ⟨(Nat.le_of_ble_eq_true rfl), (Nat.le_of_ble_eq_true rfl)⟩) (gP.s (hg.on hS) (⟨hP, hD⟩)) rfl rfl hl.1 rfl (lv_room (Nat.le_of_ble_eq_true rfl)) dL_isRoll_73 ⟨(Nat.le_of_ble_eq_true rfl), (Nat.le_of_ble_eq_true rfl)⟩) hS (fun q _ h => h) (fun q h => h) (fun r_31 ur_31 tr_31 H locs htr_31 hvmr_31 hr_31 hB hzr_31 hkr_31 hS => ?_)
        rw [htr_31] at hB
        obtain ⟨hP, hD⟩ := hB
        refine W.widen (k := 12) (n := 72) (Nat.le_of_ble_eq_true rfl) (Nat.le_of_ble_eq_true rfl) ?_
        have hP : va_P D vwCl (WD cI cO a FA nC nR nL nF par wt (fun r => nI (sk r)) (fun r => nI (fk r)) hd rea sig ++ (WF FA ck cf cd cv nx nF ++ (LR cI pb rb cb pv rv kv))) H := hP
        have hD : va_D A (WD cI cO a FA nC nR nL nF par wt (fun r => nI (sk r)) (fun r => nI (fk r)) hd rea sig ++ (WF FA ck cf cd cv nx nF ++ (LR cI pb rb cb pv rv kv))) := hD
        obtain ⟨o_r_31, hOj3⟩ : ∃ z, hC ck cf cd nF (nI ((fk ri) * 40 + p * 4 + m)) (nI f) = z := ⟨_, rfl⟩
        rcases o_r_31 with _ | j3
        · skip
          obtain rfl : r_31 = (-99000000) := hr_31.trans (congrArg (hv cv) hOj3)
          refine lv_istore (lv' := [(8, .int (-99000000)), (7, .int (cv j2)), (6, .int (cv j1)), (0, .ref (a 0)), (1, .ref rb), (2, .int (nI ri)), (3, .int (nI p)), (4, .int (nI m)), (5, .int (nI f))]) hx hb dL_isRoll_76 hl (by decide) rfl (fun ls hl => ?_)
          refine lv_iload hx hb dL_isRoll_78 (lv_at hl 2 rfl) ?_
          refine lv_ldc (v := (-99000000)) hx hb hown w_0 dL_isRoll_80 ?_
          refine lv_icmp_eq (tgt := 103) hx hb dL_isRoll_82 (by decide) (fun c_82 => ?_) (fun c_82 => ?_)
          · skip
            exact absurd c_82 (hcv j1).ne
          · skip
            refine lv_iload hx hb dL_isRoll_85 (lv_at hl 1 rfl) ?_
            refine lv_ldc (v := (-99000000)) hx hb hown w_0 dL_isRoll_87 ?_
            refine lv_icmp_eq (tgt := 103) hx hb dL_isRoll_89 (by decide) (fun c_89 => ?_) (fun c_89 => ?_)
            · skip
              exact absurd c_89 (hcv j2).ne
            · skip
              refine lv_iload hx hb dL_isRoll_92 (lv_at hl 0 rfl) ?_
              refine lv_ldc (v := (-99000000)) hx hb hown w_0 dL_isRoll_94 ?_
              refine lv_icmp_eq (tgt := 103) hx hb dL_isRoll_96 (by decide) (fun c_96 => ?_) (fun c_96 => ?_)
              · skip
                refine lv_iconst (v := 0) hx hb dL_isRoll_103 (by decide) ?_
                refine lv_istore (lv' := [(9, .int 0), (8, .int (-99000000)), (7, .int (cv j2)), (6, .int (cv j1)), (0, .ref (a 0)), (1, .ref rb), (2, .int (nI ri)), (3, .int (nI p)), (4, .int (nI m)), (5, .int (nI f))]) hx hb dL_isRoll_104 hl (by decide) rfl (fun ls hl => ?_)
                refine lv_aload_n hx hb dL_isRoll_106 rfl (lv_at hl 4 rfl) ?_
                refine lv_iconst (v := 1) hx hb dL_isRoll_107 (by decide) ?_
                refine lv_aload_n hx hb dL_isRoll_108 rfl (lv_at hl 5 rfl) ?_
                refine lv_iconst (v := 2) hx hb dL_isRoll_109 (by decide) ?_
                refine lv_iload_n hx hb dL_isRoll_110 rfl (lv_at hl 6 rfl) ?_
                refine lv_imul hx hb dL_isRoll_111 ?_
                refine lv_topi (fun dv edv => ?_)
                obtain rfl : dv = nI (2 * ri) := by rw [edv]; exact pk_mul 2 ri
                refine g_iald hx hb hK hP (11 + nF + 1) 0 (n := 10) (f := rv) (WDRj 1 rfl) rfl (2 * ri) rfl (by omega) (by decide) dL_isRoll_112 ?_
                refine lv_topi (fun dv edv => ?_)
                obtain rfl : dv = nI (sk ri) := by rw [edv]; exact (hrk _ (by omega)).1
                refine lv_iload_n hx hb dL_isRoll_113 rfl (lv_at hl 7 rfl) ?_
                refine lv_iload hx hb dL_isRoll_114 (lv_at hl 8 rfl) ?_
                refine lv_iload hx hb dL_isRoll_116 (lv_at hl 9 rfl) ?_
                refine va_calli (vx_runSW (hh := [(0, 27, 28, 19)]) (As := [.ref (a 0), .int 1, .int (nI (sk ri)), .int (nI p), .int (nI m), .int (nI f)]) (rest := []) ⟨hx, hb, hml, hown, hts⟩ (kL_heldD l D cI cZ cO cL dt A a FA nC nR nL nF par wt sk fk hd rea sig ck cf cd cv nx pb rb cb pv rv kv L (sk ri) p m f hlt hOk (hskC ri hri).1 (by omega) (by omega) (by omega)) (vx_cwSW 6 hts gL_isRoll_L_held rfl rfl rfl (by decide +kernel) ⟨(Nat.le_of_ble_eq_true rfl), (Nat.le_of_ble_eq_true rfl)⟩) (gP.s (hg.on hS) (⟨hP, hD⟩)) rfl rfl hl.1 rfl (lv_room (Nat.le_of_ble_eq_true rfl)) dL_isRoll_118 ⟨(Nat.le_of_ble_eq_true rfl), (Nat.le_of_ble_eq_true rfl)⟩) hS (fun q _ h => h) (fun q h => h) (fun r_32 ur_32 tr_32 H locs htr_32 hvmr_32 hr_32 hB hzr_32 hkr_32 hS => ?_)
                rw [htr_32] at hB
                obtain ⟨hP, hD⟩ := hB
                refine W.widen (k := 16) (n := 96) (Nat.le_of_ble_eq_true rfl) (Nat.le_of_ble_eq_true rfl) ?_
                have hP : va_P D vwCl (WD cI cO a FA nC nR nL nF par wt (fun r => nI (sk r)) (fun r => nI (fk r)) hd rea sig ++ (WF FA ck cf cd cv nx nF ++ (LR cI pb rb cb pv rv kv))) H := hP
                have hD : va_D A (WD cI cO a FA nC nR nL nF par wt (fun r => nI (sk r)) (fun r => nI (fk r)) hd rea sig ++ (WF FA ck cf cd cv nx nF ++ (LR cI pb rb cb pv rv kv))) := hD
                obtain rfl : r_32 = nI (10 ^ cd j1) := hr_32.trans (by rw [hOj1]; rfl)
                refine lv_aload_n hx hb dL_isRoll_121 rfl (lv_at hl 4 rfl) ?_
                refine lv_iconst (v := 1) hx hb dL_isRoll_122 (by decide) ?_
                refine lv_aload_n hx hb dL_isRoll_123 rfl (lv_at hl 5 rfl) ?_
                refine lv_iconst (v := 2) hx hb dL_isRoll_124 (by decide) ?_
                refine lv_iload_n hx hb dL_isRoll_125 rfl (lv_at hl 6 rfl) ?_
                refine lv_imul hx hb dL_isRoll_126 ?_
                refine lv_topi (fun dv edv => ?_)
                obtain rfl : dv = nI (2 * ri) := by rw [edv]; exact pk_mul 2 ri
                refine g_iald hx hb hK hP (11 + nF + 1) 0 (n := 10) (f := rv) (WDRj 1 rfl) rfl (2 * ri) rfl (by omega) (by decide) dL_isRoll_127 ?_
                refine lv_topi (fun dv edv => ?_)
                obtain rfl : dv = nI (sk ri) := by rw [edv]; exact (hrk _ (by omega)).1
                refine lv_iload_n hx hb dL_isRoll_128 rfl (lv_at hl 7 rfl) ?_
                refine lv_iconst (v := 1) hx hb dL_isRoll_129 (by decide) ?_
                refine lv_isub hx hb dL_isRoll_130 ?_
                refine lv_topi (fun dv edv => ?_)
                obtain rfl : dv = nI (p - 1) := by rw [edv]; exact nI_sub1 (by omega)
                refine lv_iload hx hb dL_isRoll_131 (lv_at hl 8 rfl) ?_
                refine lv_iload hx hb dL_isRoll_133 (lv_at hl 9 rfl) ?_
                refine va_calli (vx_runSW (hh := [(0, 27, 28, 19)]) (As := [.ref (a 0), .int 1, .int (nI (sk ri)), .int (nI (p - 1)), .int (nI m), .int (nI f)]) (rest := [.int (nI (10 ^ cd j1))]) ⟨hx, hb, hml, hown, hts⟩ (kL_heldD l D cI cZ cO cL dt A a FA nC nR nL nF par wt sk fk hd rea sig ck cf cd cv nx pb rb cb pv rv kv L (sk ri) (p - 1) m f hlt hOk (hskC ri hri).1 (by omega) (by omega) (by omega)) (vx_cwSW 6 hts gL_isRoll_L_held rfl rfl rfl (by decide +kernel) ⟨(Nat.le_of_ble_eq_true rfl), (Nat.le_of_ble_eq_true rfl)⟩) (gP.s (hg.on hS) (⟨hP, hD⟩)) rfl rfl hl.1 rfl (lv_room (Nat.le_of_ble_eq_true rfl)) dL_isRoll_135 ⟨(Nat.le_of_ble_eq_true rfl), (Nat.le_of_ble_eq_true rfl)⟩) hS (fun q _ h => h) (fun q h => h) (fun r_33 ur_33 tr_33 H locs htr_33 hvmr_33 hr_33 hB hzr_33 hkr_33 hS => ?_)
                rw [htr_33] at hB
                obtain ⟨hP, hD⟩ := hB
                refine W.widen (k := 20) (n := 120) (Nat.le_of_ble_eq_true rfl) (Nat.le_of_ble_eq_true rfl) ?_
                have hP : va_P D vwCl (WD cI cO a FA nC nR nL nF par wt (fun r => nI (sk r)) (fun r => nI (fk r)) hd rea sig ++ (WF FA ck cf cd cv nx nF ++ (LR cI pb rb cb pv rv kv))) H := hP
                have hD : va_D A (WD cI cO a FA nC nR nL nF par wt (fun r => nI (sk r)) (fun r => nI (fk r)) hd rea sig ++ (WF FA ck cf cd cv nx nF ++ (LR cI pb rb cb pv rv kv))) := hD
                obtain rfl : r_33 = nI (10 ^ cd j2) := hr_33.trans (by rw [hOj2]; rfl)
                refine lv_iadd hx hb dL_isRoll_138 ?_
                refine lv_aload_n hx hb dL_isRoll_139 rfl (lv_at hl 4 rfl) ?_
                refine lv_iconst (v := 1) hx hb dL_isRoll_140 (by decide) ?_
                refine lv_aload_n hx hb dL_isRoll_141 rfl (lv_at hl 5 rfl) ?_
                refine lv_iconst (v := 2) hx hb dL_isRoll_142 (by decide) ?_
                refine lv_iload_n hx hb dL_isRoll_143 rfl (lv_at hl 6 rfl) ?_
                refine lv_imul hx hb dL_isRoll_144 ?_
                refine lv_topi (fun dv edv => ?_)
                obtain rfl : dv = nI (2 * ri) := by rw [edv]; exact pk_mul 2 ri
                refine lv_iconst (v := 1) hx hb dL_isRoll_145 (by decide) ?_
                refine lv_iadd hx hb dL_isRoll_146 ?_
                refine lv_topi (fun dv edv => ?_)
                obtain rfl : dv = nI ((2 * ri) + 1) := by rw [edv]; exact nI_add (2 * ri) 1
                refine g_iald hx hb hK hP (11 + nF + 1) 0 (n := 10) (f := rv) (WDRj 1 rfl) rfl ((2 * ri) + 1) rfl (by omega) (by decide) dL_isRoll_147 ?_
                refine lv_topi (fun dv edv => ?_)
                obtain rfl : dv = nI (fk ri) := by rw [edv]; exact (hrk _ (by omega)).2
                refine lv_iload_n hx hb dL_isRoll_148 rfl (lv_at hl 7 rfl) ?_
                refine lv_iload hx hb dL_isRoll_149 (lv_at hl 8 rfl) ?_
                refine lv_iload hx hb dL_isRoll_151 (lv_at hl 9 rfl) ?_
                refine va_calli (vx_runSW (hh := [(0, 27, 28, 19)]) (As := [.ref (a 0), .int 1, .int (nI (fk ri)), .int (nI p), .int (nI m), .int (nI f)]) (rest := [.int ((nI (10 ^ cd j1)) + (nI (10 ^ cd j2)))]) ⟨hx, hb, hml, hown, hts⟩ (kL_heldD l D cI cZ cO cL dt A a FA nC nR nL nF par wt sk fk hd rea sig ck cf cd cv nx pb rb cb pv rv kv L (fk ri) p m f hlt hOk (hskC ri hri).2 (by omega) (by omega) (by omega)) (vx_cwSW 6 hts gL_isRoll_L_held rfl rfl rfl (by decide +kernel) ⟨(Nat.le_of_ble_eq_true rfl), (Nat.le_of_ble_eq_true rfl)⟩) (gP.s (hg.on hS) (⟨hP, hD⟩)) rfl rfl hl.1 rfl (lv_room (Nat.le_of_ble_eq_true rfl)) dL_isRoll_153 ⟨(Nat.le_of_ble_eq_true rfl), (Nat.le_of_ble_eq_true rfl)⟩) hS (fun q _ h => h) (fun q h => h) (fun r_34 ur_34 tr_34 H locs htr_34 hvmr_34 hr_34 hB hzr_34 hkr_34 hS => ?_)
                rw [htr_34] at hB
                obtain ⟨hP, hD⟩ := hB
                refine W.widen (k := 24) (n := 144) (Nat.le_of_ble_eq_true rfl) (Nat.le_of_ble_eq_true rfl) ?_
                have hP : va_P D vwCl (WD cI cO a FA nC nR nL nF par wt (fun r => nI (sk r)) (fun r => nI (fk r)) hd rea sig ++ (WF FA ck cf cd cv nx nF ++ (LR cI pb rb cb pv rv kv))) H := hP
                have hD : va_D A (WD cI cO a FA nC nR nL nF par wt (fun r => nI (sk r)) (fun r => nI (fk r)) hd rea sig ++ (WF FA ck cf cd cv nx nF ++ (LR cI pb rb cb pv rv kv))) := hD
                obtain rfl : r_34 = (-99000000) := hr_34.trans (by rw [hOj3]; rfl)
                refine lv_iadd hx hb dL_isRoll_156 ?_
                refine lv_istore (lv' := [(10, .int (((nI (10 ^ cd j1)) + (nI (10 ^ cd j2))) + (-99000000))), (9, .int 0), (8, .int (-99000000)), (7, .int (cv j2)), (6, .int (cv j1)), (0, .ref (a 0)), (1, .ref rb), (2, .int (nI ri)), (3, .int (nI p)), (4, .int (nI m)), (5, .int (nI f))]) hx hb dL_isRoll_157 hl (by decide) rfl (fun ls hl => ?_)
                refine lv_aload_n hx hb dL_isRoll_159 rfl (lv_at hl 5 rfl) ?_
                refine lv_iload_n hx hb dL_isRoll_160 rfl (lv_at hl 7 rfl) ?_
                refine lv_iload_n hx hb dL_isRoll_161 rfl (lv_at hl 8 rfl) ?_
                refine lv_iload hx hb dL_isRoll_162 (lv_at hl 9 rfl) ?_
                refine lv_iload hx hb dL_isRoll_164 (lv_at hl 10 rfl) ?_
                refine va_calli (va_runV (As := [.int (nI ri), .int (nI p), .int (nI m), .int (nI f)]) (rest := []) ⟨hx, hb, hml, hown, hts⟩ (m4_isRollOff l D cI cZ cO cL dt A a FA nC nR nL nF par wt (fun r => nI (sk r)) (fun r => nI (fk r)) hd rea sig ck cf cd cv nx (LR cI pb rb cb pv rv kv) ri p m f sk fk hlt hF hC12 hck hcf hcd hcv hwt hCh hL8 hR5 (fun _ => rfl) (fun _ => rfl) hsk12 hfk12 hri hp hm hf) (cwV 4 hts gL_isRoll_X4_isRollOff rfl rfl rfl (by decide +kernel) ⟨(Nat.le_of_ble_eq_true rfl), (Nat.le_of_ble_eq_true rfl)⟩) (gP.v (hg.on hS) hP 3 rfl 0 rfl (⟨hP, hD⟩)) rfl rfl hl.1 rfl (lv_room (Nat.le_of_ble_eq_true rfl)) dL_isRoll_166 ⟨(Nat.le_of_ble_eq_true rfl), (Nat.le_of_ble_eq_true rfl)⟩) hS (fun q _ h => h) (fun q h => h) (fun r_35 ur_35 tr_35 H locs htr_35 hvmr_35 hr_35 hB hzr_35 hkr_35 hS => ?_)
                rw [htr_35] at hB
                obtain ⟨hP, hD⟩ := hB
                refine W.widen (k := 26) (n := 156) (Nat.le_of_ble_eq_true rfl) (Nat.le_of_ble_eq_true rfl) ?_
                have hP : va_P D vwCl (WD cI cO a FA nC nR nL nF par wt (fun r => nI (sk r)) (fun r => nI (fk r)) hd rea sig ++ (WF FA ck cf cd cv nx nF ++ (LR cI pb rb cb pv rv kv))) H := hP
                have hD : va_D A (WD cI cO a FA nC nR nL nF par wt (fun r => nI (sk r)) (fun r => nI (fk r)) hd rea sig ++ (WF FA ck cf cd cv nx nF ++ (LR cI pb rb cb pv rv kv))) := hD
                obtain rfl : r_35 = bI (rollOff (nI p) (hC ck cf cd nF (nI (sk ri * 40 + p * 4 + m)) (nI f)) (hC ck cf cd nF (nI (sk ri * 40 + (p - 1) * 4 + m)) (nI f)) (hC ck cf cd nF (nI (fk ri * 40 + p * 4 + m)) (nI f)) cd cv = true) := hr_35
                refine lv_iload hx hb dL_isRoll_169 (lv_at hl 1 rfl) ?_
                refine lv_if_eq (tgt := 193) hx hb dL_isRoll_171 (by decide) (fun c_171 => ?_) (fun c_171 => ?_)
                · skip
                  have hoff : bI (rollOff (nI p) (hC ck cf cd nF (nI (sk ri * 40 + p * 4 + m)) (nI f)) (hC ck cf cd nF (nI (sk ri * 40 + (p - 1) * 4 + m)) (nI f)) (hC ck cf cd nF (nI (fk ri * 40 + p * 4 + m)) (nI f)) cd cv = true) = 0 := (bI_f (ro_n3 hOj3)).symm
                  refine lv_iconst (v := 0) hx hb dL_isRoll_193 (by decide) ?_
                  refine lv_icmp_ne (tgt := 201) hx hb dL_isRoll_194 (by decide) (fun c_194 => ?_) (fun c_194 => ?_)
                  · skip
                    exact absurd hoff c_194
                  · skip
                    refine lv_iconst (v := 1) hx hb dL_isRoll_197 (by decide) ?_
                    refine lv_goto (tgt := 202) hx hb dL_isRoll_198 (by decide) ?_
                    exact W.widen (k := 30) (n := 180) (Nat.le_of_ble_eq_true rfl) (Nat.le_of_ble_eq_true rfl) (W.zret (v := 1) hx hb hr (rfl) (fun t ht hW => ⟨⟨1, (), rfl, rfl, g_PD ht hP hD⟩, hS.F ht⟩) hS.2.2 dL_isRoll_202)
                · skip
                  exact absurd c_171 (by decide)
              · skip
                exact absurd c_96 (by decide)
        · skip
          obtain rfl : r_31 = cv j3 := hr_31.trans (congrArg (hv cv) hOj3)
          refine lv_istore (lv' := [(8, .int (cv j3)), (7, .int (cv j2)), (6, .int (cv j1)), (0, .ref (a 0)), (1, .ref rb), (2, .int (nI ri)), (3, .int (nI p)), (4, .int (nI m)), (5, .int (nI f))]) hx hb dL_isRoll_76 hl (by decide) rfl (fun ls hl => ?_)
          refine lv_iload hx hb dL_isRoll_78 (lv_at hl 2 rfl) ?_
          refine lv_ldc (v := (-99000000)) hx hb hown w_0 dL_isRoll_80 ?_
          refine lv_icmp_eq (tgt := 103) hx hb dL_isRoll_82 (by decide) (fun c_82 => ?_) (fun c_82 => ?_)
          · skip
            exact absurd c_82 (hcv j1).ne
          · skip
            refine lv_iload hx hb dL_isRoll_85 (lv_at hl 1 rfl) ?_
            refine lv_ldc (v := (-99000000)) hx hb hown w_0 dL_isRoll_87 ?_
            refine lv_icmp_eq (tgt := 103) hx hb dL_isRoll_89 (by decide) (fun c_89 => ?_) (fun c_89 => ?_)
            · skip
              exact absurd c_89 (hcv j2).ne
            · skip
              refine lv_iload hx hb dL_isRoll_92 (lv_at hl 0 rfl) ?_
              refine lv_ldc (v := (-99000000)) hx hb hown w_0 dL_isRoll_94 ?_
              refine lv_icmp_eq (tgt := 103) hx hb dL_isRoll_96 (by decide) (fun c_96 => ?_) (fun c_96 => ?_)
              · skip
                exact absurd c_96 (hcv j3).ne
              · skip
                refine lv_iconst (v := 1) hx hb dL_isRoll_99 (by decide) ?_
                refine lv_goto (tgt := 104) hx hb dL_isRoll_100 (by decide) ?_
                refine lv_istore (lv' := [(9, .int 1), (8, .int (cv j3)), (7, .int (cv j2)), (6, .int (cv j1)), (0, .ref (a 0)), (1, .ref rb), (2, .int (nI ri)), (3, .int (nI p)), (4, .int (nI m)), (5, .int (nI f))]) hx hb dL_isRoll_104 hl (by decide) rfl (fun ls hl => ?_)
                refine lv_aload_n hx hb dL_isRoll_106 rfl (lv_at hl 4 rfl) ?_
                refine lv_iconst (v := 1) hx hb dL_isRoll_107 (by decide) ?_
                refine lv_aload_n hx hb dL_isRoll_108 rfl (lv_at hl 5 rfl) ?_
                refine lv_iconst (v := 2) hx hb dL_isRoll_109 (by decide) ?_
                refine lv_iload_n hx hb dL_isRoll_110 rfl (lv_at hl 6 rfl) ?_
                refine lv_imul hx hb dL_isRoll_111 ?_
                refine lv_topi (fun dv edv => ?_)
                obtain rfl : dv = nI (2 * ri) := by rw [edv]; exact pk_mul 2 ri
                refine g_iald hx hb hK hP (11 + nF + 1) 0 (n := 10) (f := rv) (WDRj 1 rfl) rfl (2 * ri) rfl (by omega) (by decide) dL_isRoll_112 ?_
                refine lv_topi (fun dv edv => ?_)
                obtain rfl : dv = nI (sk ri) := by rw [edv]; exact (hrk _ (by omega)).1
                refine lv_iload_n hx hb dL_isRoll_113 rfl (lv_at hl 7 rfl) ?_
                refine lv_iload hx hb dL_isRoll_114 (lv_at hl 8 rfl) ?_
                refine lv_iload hx hb dL_isRoll_116 (lv_at hl 9 rfl) ?_
                refine va_calli (vx_runSW (hh := [(0, 27, 28, 19)]) (As := [.ref (a 0), .int 1, .int (nI (sk ri)), .int (nI p), .int (nI m), .int (nI f)]) (rest := []) ⟨hx, hb, hml, hown, hts⟩ (kL_heldD l D cI cZ cO cL dt A a FA nC nR nL nF par wt sk fk hd rea sig ck cf cd cv nx pb rb cb pv rv kv L (sk ri) p m f hlt hOk (hskC ri hri).1 (by omega) (by omega) (by omega)) (vx_cwSW 6 hts gL_isRoll_L_held rfl rfl rfl (by decide +kernel) ⟨(Nat.le_of_ble_eq_true rfl), (Nat.le_of_ble_eq_true rfl)⟩) (gP.s (hg.on hS) (⟨hP, hD⟩)) rfl rfl hl.1 rfl (lv_room (Nat.le_of_ble_eq_true rfl)) dL_isRoll_118 ⟨(Nat.le_of_ble_eq_true rfl), (Nat.le_of_ble_eq_true rfl)⟩) hS (fun q _ h => h) (fun q h => h) (fun r_36 ur_36 tr_36 H locs htr_36 hvmr_36 hr_36 hB hzr_36 hkr_36 hS => ?_)
                rw [htr_36] at hB
                obtain ⟨hP, hD⟩ := hB
                refine W.widen (k := 16) (n := 96) (Nat.le_of_ble_eq_true rfl) (Nat.le_of_ble_eq_true rfl) ?_
                have hP : va_P D vwCl (WD cI cO a FA nC nR nL nF par wt (fun r => nI (sk r)) (fun r => nI (fk r)) hd rea sig ++ (WF FA ck cf cd cv nx nF ++ (LR cI pb rb cb pv rv kv))) H := hP
                have hD : va_D A (WD cI cO a FA nC nR nL nF par wt (fun r => nI (sk r)) (fun r => nI (fk r)) hd rea sig ++ (WF FA ck cf cd cv nx nF ++ (LR cI pb rb cb pv rv kv))) := hD
                obtain rfl : r_36 = nI (10 ^ cd j1) := hr_36.trans (by rw [hOj1]; rfl)
                refine lv_aload_n hx hb dL_isRoll_121 rfl (lv_at hl 4 rfl) ?_
                refine lv_iconst (v := 1) hx hb dL_isRoll_122 (by decide) ?_
                refine lv_aload_n hx hb dL_isRoll_123 rfl (lv_at hl 5 rfl) ?_
                refine lv_iconst (v := 2) hx hb dL_isRoll_124 (by decide) ?_
                refine lv_iload_n hx hb dL_isRoll_125 rfl (lv_at hl 6 rfl) ?_
                refine lv_imul hx hb dL_isRoll_126 ?_
                refine lv_topi (fun dv edv => ?_)
                obtain rfl : dv = nI (2 * ri) := by rw [edv]; exact pk_mul 2 ri
                refine g_iald hx hb hK hP (11 + nF + 1) 0 (n := 10) (f := rv) (WDRj 1 rfl) rfl (2 * ri) rfl (by omega) (by decide) dL_isRoll_127 ?_
                refine lv_topi (fun dv edv => ?_)
                obtain rfl : dv = nI (sk ri) := by rw [edv]; exact (hrk _ (by omega)).1
                refine lv_iload_n hx hb dL_isRoll_128 rfl (lv_at hl 7 rfl) ?_
                refine lv_iconst (v := 1) hx hb dL_isRoll_129 (by decide) ?_
                refine lv_isub hx hb dL_isRoll_130 ?_
                refine lv_topi (fun dv edv => ?_)
                obtain rfl : dv = nI (p - 1) := by rw [edv]; exact nI_sub1 (by omega)
                refine lv_iload hx hb dL_isRoll_131 (lv_at hl 8 rfl) ?_
                refine lv_iload hx hb dL_isRoll_133 (lv_at hl 9 rfl) ?_
                refine va_calli (vx_runSW (hh := [(0, 27, 28, 19)]) (As := [.ref (a 0), .int 1, .int (nI (sk ri)), .int (nI (p - 1)), .int (nI m), .int (nI f)]) (rest := [.int (nI (10 ^ cd j1))]) ⟨hx, hb, hml, hown, hts⟩ (kL_heldD l D cI cZ cO cL dt A a FA nC nR nL nF par wt sk fk hd rea sig ck cf cd cv nx pb rb cb pv rv kv L (sk ri) (p - 1) m f hlt hOk (hskC ri hri).1 (by omega) (by omega) (by omega)) (vx_cwSW 6 hts gL_isRoll_L_held rfl rfl rfl (by decide +kernel) ⟨(Nat.le_of_ble_eq_true rfl), (Nat.le_of_ble_eq_true rfl)⟩) (gP.s (hg.on hS) (⟨hP, hD⟩)) rfl rfl hl.1 rfl (lv_room (Nat.le_of_ble_eq_true rfl)) dL_isRoll_135 ⟨(Nat.le_of_ble_eq_true rfl), (Nat.le_of_ble_eq_true rfl)⟩) hS (fun q _ h => h) (fun q h => h) (fun r_37 ur_37 tr_37 H locs htr_37 hvmr_37 hr_37 hB hzr_37 hkr_37 hS => ?_)
                rw [htr_37] at hB
                obtain ⟨hP, hD⟩ := hB
                refine W.widen (k := 20) (n := 120) (Nat.le_of_ble_eq_true rfl) (Nat.le_of_ble_eq_true rfl) ?_
                have hP : va_P D vwCl (WD cI cO a FA nC nR nL nF par wt (fun r => nI (sk r)) (fun r => nI (fk r)) hd rea sig ++ (WF FA ck cf cd cv nx nF ++ (LR cI pb rb cb pv rv kv))) H := hP
                have hD : va_D A (WD cI cO a FA nC nR nL nF par wt (fun r => nI (sk r)) (fun r => nI (fk r)) hd rea sig ++ (WF FA ck cf cd cv nx nF ++ (LR cI pb rb cb pv rv kv))) := hD
                obtain rfl : r_37 = nI (10 ^ cd j2) := hr_37.trans (by rw [hOj2]; rfl)
                refine lv_iadd hx hb dL_isRoll_138 ?_
                refine lv_aload_n hx hb dL_isRoll_139 rfl (lv_at hl 4 rfl) ?_
                refine lv_iconst (v := 1) hx hb dL_isRoll_140 (by decide) ?_
                refine lv_aload_n hx hb dL_isRoll_141 rfl (lv_at hl 5 rfl) ?_
                refine lv_iconst (v := 2) hx hb dL_isRoll_142 (by decide) ?_
                refine lv_iload_n hx hb dL_isRoll_143 rfl (lv_at hl 6 rfl) ?_
                refine lv_imul hx hb dL_isRoll_144 ?_
                refine lv_topi (fun dv edv => ?_)
                obtain rfl : dv = nI (2 * ri) := by rw [edv]; exact pk_mul 2 ri
                refine lv_iconst (v := 1) hx hb dL_isRoll_145 (by decide) ?_
                refine lv_iadd hx hb dL_isRoll_146 ?_
                refine lv_topi (fun dv edv => ?_)
                obtain rfl : dv = nI ((2 * ri) + 1) := by rw [edv]; exact nI_add (2 * ri) 1
                refine g_iald hx hb hK hP (11 + nF + 1) 0 (n := 10) (f := rv) (WDRj 1 rfl) rfl ((2 * ri) + 1) rfl (by omega) (by decide) dL_isRoll_147 ?_
                refine lv_topi (fun dv edv => ?_)
                obtain rfl : dv = nI (fk ri) := by rw [edv]; exact (hrk _ (by omega)).2
                refine lv_iload_n hx hb dL_isRoll_148 rfl (lv_at hl 7 rfl) ?_
                refine lv_iload hx hb dL_isRoll_149 (lv_at hl 8 rfl) ?_
                refine lv_iload hx hb dL_isRoll_151 (lv_at hl 9 rfl) ?_
                refine va_calli (vx_runSW (hh := [(0, 27, 28, 19)]) (As := [.ref (a 0), .int 1, .int (nI (fk ri)), .int (nI p), .int (nI m), .int (nI f)]) (rest := [.int ((nI (10 ^ cd j1)) + (nI (10 ^ cd j2)))]) ⟨hx, hb, hml, hown, hts⟩ (kL_heldD l D cI cZ cO cL dt A a FA nC nR nL nF par wt sk fk hd rea sig ck cf cd cv nx pb rb cb pv rv kv L (fk ri) p m f hlt hOk (hskC ri hri).2 (by omega) (by omega) (by omega)) (vx_cwSW 6 hts gL_isRoll_L_held rfl rfl rfl (by decide +kernel) ⟨(Nat.le_of_ble_eq_true rfl), (Nat.le_of_ble_eq_true rfl)⟩) (gP.s (hg.on hS) (⟨hP, hD⟩)) rfl rfl hl.1 rfl (lv_room (Nat.le_of_ble_eq_true rfl)) dL_isRoll_153 ⟨(Nat.le_of_ble_eq_true rfl), (Nat.le_of_ble_eq_true rfl)⟩) hS (fun q _ h => h) (fun q h => h) (fun r_38 ur_38 tr_38 H locs htr_38 hvmr_38 hr_38 hB hzr_38 hkr_38 hS => ?_)
                rw [htr_38] at hB
                obtain ⟨hP, hD⟩ := hB
                refine W.widen (k := 24) (n := 144) (Nat.le_of_ble_eq_true rfl) (Nat.le_of_ble_eq_true rfl) ?_
                have hP : va_P D vwCl (WD cI cO a FA nC nR nL nF par wt (fun r => nI (sk r)) (fun r => nI (fk r)) hd rea sig ++ (WF FA ck cf cd cv nx nF ++ (LR cI pb rb cb pv rv kv))) H := hP
                have hD : va_D A (WD cI cO a FA nC nR nL nF par wt (fun r => nI (sk r)) (fun r => nI (fk r)) hd rea sig ++ (WF FA ck cf cd cv nx nF ++ (LR cI pb rb cb pv rv kv))) := hD
                obtain rfl : r_38 = nI (10 ^ cd j3) := hr_38.trans (by rw [hOj3]; rfl)
                refine lv_iadd hx hb dL_isRoll_156 ?_
                refine lv_istore (lv' := [(10, .int (((nI (10 ^ cd j1)) + (nI (10 ^ cd j2))) + (nI (10 ^ cd j3)))), (9, .int 1), (8, .int (cv j3)), (7, .int (cv j2)), (6, .int (cv j1)), (0, .ref (a 0)), (1, .ref rb), (2, .int (nI ri)), (3, .int (nI p)), (4, .int (nI m)), (5, .int (nI f))]) hx hb dL_isRoll_157 hl (by decide) rfl (fun ls hl => ?_)
                refine lv_aload_n hx hb dL_isRoll_159 rfl (lv_at hl 5 rfl) ?_
                refine lv_iload_n hx hb dL_isRoll_160 rfl (lv_at hl 7 rfl) ?_
                refine lv_iload_n hx hb dL_isRoll_161 rfl (lv_at hl 8 rfl) ?_
                refine lv_iload hx hb dL_isRoll_162 (lv_at hl 9 rfl) ?_
                refine lv_iload hx hb dL_isRoll_164 (lv_at hl 10 rfl) ?_
                refine va_calli (va_runV (As := [.int (nI ri), .int (nI p), .int (nI m), .int (nI f)]) (rest := []) ⟨hx, hb, hml, hown, hts⟩ (m4_isRollOff l D cI cZ cO cL dt A a FA nC nR nL nF par wt (fun r => nI (sk r)) (fun r => nI (fk r)) hd rea sig ck cf cd cv nx (LR cI pb rb cb pv rv kv) ri p m f sk fk hlt hF hC12 hck hcf hcd hcv hwt hCh hL8 hR5 (fun _ => rfl) (fun _ => rfl) hsk12 hfk12 hri hp hm hf) (cwV 4 hts gL_isRoll_X4_isRollOff rfl rfl rfl (by decide +kernel) ⟨(Nat.le_of_ble_eq_true rfl), (Nat.le_of_ble_eq_true rfl)⟩) (gP.v (hg.on hS) hP 3 rfl 0 rfl (⟨hP, hD⟩)) rfl rfl hl.1 rfl (lv_room (Nat.le_of_ble_eq_true rfl)) dL_isRoll_166 ⟨(Nat.le_of_ble_eq_true rfl), (Nat.le_of_ble_eq_true rfl)⟩) hS (fun q _ h => h) (fun q h => h) (fun r_39 ur_39 tr_39 H locs htr_39 hvmr_39 hr_39 hB hzr_39 hkr_39 hS => ?_)
                rw [htr_39] at hB
                obtain ⟨hP, hD⟩ := hB
                refine W.widen (k := 26) (n := 156) (Nat.le_of_ble_eq_true rfl) (Nat.le_of_ble_eq_true rfl) ?_
                have hP : va_P D vwCl (WD cI cO a FA nC nR nL nF par wt (fun r => nI (sk r)) (fun r => nI (fk r)) hd rea sig ++ (WF FA ck cf cd cv nx nF ++ (LR cI pb rb cb pv rv kv))) H := hP
                have hD : va_D A (WD cI cO a FA nC nR nL nF par wt (fun r => nI (sk r)) (fun r => nI (fk r)) hd rea sig ++ (WF FA ck cf cd cv nx nF ++ (LR cI pb rb cb pv rv kv))) := hD
                obtain rfl : r_39 = bI (rollOff (nI p) (hC ck cf cd nF (nI (sk ri * 40 + p * 4 + m)) (nI f)) (hC ck cf cd nF (nI (sk ri * 40 + (p - 1) * 4 + m)) (nI f)) (hC ck cf cd nF (nI (fk ri * 40 + p * 4 + m)) (nI f)) cd cv = true) := hr_39
                refine lv_iload hx hb dL_isRoll_169 (lv_at hl 1 rfl) ?_
                refine lv_if_eq (tgt := 193) hx hb dL_isRoll_171 (by decide) (fun c_171 => ?_) (fun c_171 => ?_)
                · skip
                  exact absurd c_171 (by decide)
                · skip
                  refine lv_iload hx hb dL_isRoll_174 (lv_at hl 4 rfl) ?_
                  refine lv_iload hx hb dL_isRoll_176 (lv_at hl 3 rfl) ?_
                  refine lv_iload hx hb dL_isRoll_178 (lv_at hl 2 rfl) ?_
                  refine lv_iadd hx hb dL_isRoll_180 ?_
                  refine lv_iload hx hb dL_isRoll_181 (lv_at hl 0 rfl) ?_
                  refine g_csi (va_runS (As := [.int (cv j1), .int ((cv j2) + (cv j3)), .int (((nI (10 ^ cd j1)) + (nI (10 ^ cd j2))) + (nI (10 ^ cd j3)))]) (rest := [.int (bI (rollOff (nI p) (hC ck cf cd nF (nI (sk ri * 40 + p * 4 + m)) (nI f)) (hC ck cf cd nF (nI (sk ri * 40 + (p - 1) * 4 + m)) (nI f)) (hC ck cf cd nF (nI (fk ri * 40 + p * 4 + m)) (nI f)) cd cv = true))]) ⟨hx, hb, hml, hown, hts⟩ (kL_isFar l D cI cZ cO cL dt A (cv j1) ((cv j2) + (cv j3)) (((nI (10 ^ cd j1)) + (nI (10 ^ cd j2))) + (nI (10 ^ cd j3))) (WD cI cO a FA nC nR nL nF par wt (fun r => nI (sk r)) (fun r => nI (fk r)) hd rea sig ++ (WF FA ck cf cd cv nx nF ++ (LR cI pb rb cb pv rv kv))) (hcv j1).small (add_small (hcv j2) (hcv j3))) (va_cwS 3 hts gL_isRoll_L_isFar rfl rfl rfl (by decide +kernel) ⟨(Nat.le_of_ble_eq_true rfl), (Nat.le_of_ble_eq_true rfl)⟩) (gP.s (hg.on hS) hP) rfl rfl hl.1 rfl (lv_room (Nat.le_of_ble_eq_true rfl)) dL_isRoll_183 ⟨(Nat.le_of_ble_eq_true rfl), (Nat.le_of_ble_eq_true rfl)⟩) (fun r_40 hr_40 => ?_)
                  obtain rfl : r_40 = bI (((nI (10 ^ cd j1)) + (nI (10 ^ cd j2))) + (nI (10 ^ cd j3)) < 2 * farI (cv j1) ((cv j2) + (cv j3))) := hr_40
                  refine lv_if_eq (tgt := 193) hx hb dL_isRoll_186 (by decide) (fun c_186 => ?_) (fun c_186 => ?_)
                  · skip
                    have c_186 := bI_z c_186
                    have hoff : bI (rollOff (nI p) (hC ck cf cd nF (nI (sk ri * 40 + p * 4 + m)) (nI f)) (hC ck cf cd nF (nI (sk ri * 40 + (p - 1) * 4 + m)) (nI f)) (hC ck cf cd nF (nI (fk ri * 40 + p * 4 + m)) (nI f)) cd cv = true) = 0 := (bI_f (ro_near hOj1 hOj2 hOj3 c_186)).symm
                    refine lv_iconst (v := 0) hx hb dL_isRoll_193 (by decide) ?_
                    refine lv_icmp_ne (tgt := 201) hx hb dL_isRoll_194 (by decide) (fun c_194 => ?_) (fun c_194 => ?_)
                    · skip
                      exact absurd hoff c_194
                    · skip
                      refine lv_iconst (v := 1) hx hb dL_isRoll_197 (by decide) ?_
                      refine lv_goto (tgt := 202) hx hb dL_isRoll_198 (by decide) ?_
                      exact W.widen (k := 30) (n := 180) (Nat.le_of_ble_eq_true rfl) (Nat.le_of_ble_eq_true rfl) (W.zret (v := 1) hx hb hr (rfl) (fun t ht hW => ⟨⟨1, (), rfl, rfl, g_PD ht hP hD⟩, hS.F ht⟩) hS.2.2 dL_isRoll_202)
                  · skip
                    have c_186 := bI_n c_186
                    have hoff : bI (rollOff (nI p) (hC ck cf cd nF (nI (sk ri * 40 + p * 4 + m)) (nI f)) (hC ck cf cd nF (nI (sk ri * 40 + (p - 1) * 4 + m)) (nI f)) (hC ck cf cd nF (nI (fk ri * 40 + p * 4 + m)) (nI f)) cd cv = true) = 1 := (bI_t (ro_far hOj1 hOj2 hOj3 (nI_lt hp0 (by omega)) c_186)).symm
                    refine lv_iconst (v := 1) hx hb dL_isRoll_189 (by decide) ?_
                    refine lv_goto (tgt := 194) hx hb dL_isRoll_190 (by decide) ?_
                    refine lv_icmp_ne (tgt := 201) hx hb dL_isRoll_194 (by decide) (fun c_194 => ?_) (fun c_194 => ?_)
                    · skip
                      exact absurd hoff c_194
                    · skip
                      refine lv_iconst (v := 1) hx hb dL_isRoll_197 (by decide) ?_
                      refine lv_goto (tgt := 202) hx hb dL_isRoll_198 (by decide) ?_
                      exact W.widen (k := 30) (n := 180) (Nat.le_of_ble_eq_true rfl) (Nat.le_of_ble_eq_true rfl) (W.zret (v := 1) hx hb hr (rfl) (fun t ht hW => ⟨⟨1, (), rfl, rfl, g_PD ht hP hD⟩, hS.F ht⟩) hS.2.2 dL_isRoll_202)
  · skip
    have hp0 : p = 0 := (nI_eq (b := 0) (by omega) (by decide)).mp c_1
    refine lv_aload_n hx hb dL_isRoll_4 rfl (lv_at hl 0 rfl) ?_
    refine lv_iload_n hx hb dL_isRoll_5 rfl (lv_at hl 2 rfl) ?_
    refine lv_iconst (v := 0) hx hb dL_isRoll_6 (by decide) ?_
    refine lv_iload hx hb dL_isRoll_7 (lv_at hl 4 rfl) ?_
    refine lv_iload hx hb dL_isRoll_9 (lv_at hl 5 rfl) ?_
    refine va_calli (va_runV (As := [.int (nI ri), .int 0, .int (nI m), .int (nI f)]) (rest := []) ⟨hx, hb, hml, hown, hts⟩ (m4_isRollOff l D cI cZ cO cL dt A a FA nC nR nL nF par wt (fun r => nI (sk r)) (fun r => nI (fk r)) hd rea sig ck cf cd cv nx (LR cI pb rb cb pv rv kv) ri 0 m f sk fk hlt hF hC12 hck hcf hcd hcv hwt hCh hL8 hR5 (fun _ => rfl) (fun _ => rfl) hsk12 hfk12 hri (by decide) hm hf) (cwV 4 hts gL_isRoll_X4_isRollOff rfl rfl rfl (by decide +kernel) ⟨(Nat.le_of_ble_eq_true rfl), (Nat.le_of_ble_eq_true rfl)⟩) (gP.v (hg.on hS) hP 3 rfl 0 rfl (⟨hP, hD⟩)) rfl rfl hl.1 rfl (lv_room (Nat.le_of_ble_eq_true rfl)) dL_isRoll_11 ⟨(Nat.le_of_ble_eq_true rfl), (Nat.le_of_ble_eq_true rfl)⟩) hS (fun q _ h => h) (fun q h => h) (fun r_41 ur_41 tr_41 H locs htr_41 hvmr_41 hr_41 hB hzr_41 hkr_41 hS => ?_)
    rw [htr_41] at hB
    obtain ⟨hP, hD⟩ := hB
    refine W.widen (k := 2) (n := 12) (Nat.le_of_ble_eq_true rfl) (Nat.le_of_ble_eq_true rfl) ?_
    have hP : va_P D vwCl (WD cI cO a FA nC nR nL nF par wt (fun r => nI (sk r)) (fun r => nI (fk r)) hd rea sig ++ (WF FA ck cf cd cv nx nF ++ (LR cI pb rb cb pv rv kv))) H := hP
    have hD : va_D A (WD cI cO a FA nC nR nL nF par wt (fun r => nI (sk r)) (fun r => nI (fk r)) hd rea sig ++ (WF FA ck cf cd cv nx nF ++ (LR cI pb rb cb pv rv kv))) := hD
    obtain rfl : r_41 = bI (rollOff (nI 0) (hC ck cf cd nF (nI (sk ri * 40 + 0 * 4 + m)) (nI f)) (hC ck cf cd nF (nI (sk ri * 40 + (0 - 1) * 4 + m)) (nI f)) (hC ck cf cd nF (nI (fk ri * 40 + 0 * 4 + m)) (nI f)) cd cv = true) := hr_41
    refine lv_if_ne (tgt := 21) hx hb dL_isRoll_14 (by decide) (fun c_14 => ?_) (fun c_14 => ?_)
    · skip
      have c_14 := bI_n c_14
      exact absurd c_14 (by rw [rollOff_0]; decide)
    · skip
      have c_14 := bI_z c_14
      refine lv_iconst (v := 1) hx hb dL_isRoll_17 (by decide) ?_
      refine lv_goto (tgt := 22) hx hb dL_isRoll_18 (by decide) ?_
      exact W.widen (k := 30) (n := 180) (Nat.le_of_ble_eq_true rfl) (Nat.le_of_ble_eq_true rfl) (W.zret (v := 1) hx hb hr (rfl) (fun t ht hW => ⟨⟨1, (), rfl, rfl, g_PD ht hP hD⟩, hS.F ht⟩) hS.2.2 dL_isRoll_22)
set_option maxHeartbeats 4000000 in
set_option maxRecDepth 100000 in
/-- all faults -/
theorem kL_areFaults (l : Launch) (D : va_G) (cI cZ cO cL : ClassId) (dt : Nat) (A : Nat → Prop) (a FA : Nat → Nat) (nC nR nL nF : Nat) (par wt : Nat → Int32) (sk fk : Nat → Nat) (hd : Nat → Option Nat) (rea sig : Nat → Int32) (ck cf cd : Nat → Nat) (cv : Nat → Int32) (nx : Nat → Option Nat) (pb rb cb : Nat) (pv rv kv : Nat → Int32) (L : List Nat) (f : Nat) (hlt : l.stackTraces = false) (hOk : sOk nC nR nL nF par wt sk fk hd ck cf cd cv nx L) (hkk : kOk nC nR nL nF kv) (hf : f < nL + 1) : Met l yL_areFaults wsL_areFaults ({ frames := 9, cells := 3300, slots := 19800, locals := 158 } : Room) (gP D cI cZ cO cL dt A [.ref (a 0), .ref cb, .int (nI f)] (fun H => va_P D vwCl (WD cI cO a FA nC nR nL nF par wt (fun r => nI (sk r)) (fun r => nI (fk r)) hd rea sig ++ (WF FA ck cf cd cv nx nF ++ (LR cI pb rb cb pv rv kv))) H ∧ va_D A (WD cI cO a FA nC nR nL nF par wt (fun r => nI (sk r)) (fun r => nI (fk r)) hd rea sig ++ (WF FA ck cf cd cv nx nF ++ (LR cI pb rb cb pv rv kv))))) (va_Qi (fun (r : Int32) (_ : Unit) => r = 1) (fun _ t => va_P D vwCl (WD cI cO a FA nC nR nL nF par wt (fun r => nI (sk r)) (fun r => nI (fk r)) hd rea sig ++ (WF FA ck cf cd cv nx nF ++ (LR cI pb rb cb pv rv kv))) t.heap ∧ va_D A (WD cI cO a FA nC nR nL nF par wt (fun r => nI (sk r)) (fun r => nI (fk r)) hd rea sig ++ (WF FA ck cf cd cv nx nF ++ (LR cI pb rb cb pv rv kv)))) A) 3300 19800 A := by
  refine Met.ofW (cc := cL_areFaults) (maxL := 6) (ret := (some .boolean)) (by decide) rfl ?_
  intro p9 e9 s m9 args below meth c9 s₁ B hml hv
  obtain ⟨rfl, hg, hP, hD⟩ := hv
  have hx := B.exec
  have hb := B.bytes
  have hr := B.returns
  have hts := atoms_spec (ws := wsL_areFaults) B.pre
  have hown : s.vm.findClass RL = some m9.cls := findClass_of_methodNamed B.named
  have hlocks := B.notSynchronized
  have hK := hg.1
  have hS : va_S A s.heap s.heap [] := va_S.rf
  obtain ⟨⟨hC12, hR5, hL8, hF⟩, ⟨hT, hwt⟩, ⟨hsk12, hfk12, hskC⟩, ⟨hCh, hH, hN, hfL⟩, hck, hcf8, hcd, hcv, hckC⟩ := id hOk
  have hcf : ∀ k, cf k < 2 ^ 31 := fun k => by have := hcf8 k; omega
  obtain ⟨hk0, hk1, hk2, hk3⟩ := id hkk
  have hFA : ∀ i j, i < nF → j < nF → FA i = FA j → i = j := fun i j hi hj he => by have := hD.1 (11 + i) (11 + j) _ _ (WDG_at hi) (WDG_at hj) he; omega
  have hl := lv_entry ([.ref (a 0), .ref cb, .int (nI f)]) (n := 6) (Nat.le_of_ble_eq_true rfl)
  rw [lg_entry_eq]
  generalize (lg_sl ([.ref (a 0), .ref cb, .int (nI f)]) ++ List.replicate (6 - (lg_sl ([.ref (a 0), .ref cb, .int (nI f)])).length) Slot.unset).toArray = ls at hl ⊢
  have hl : lv_has ls 6 [(0, .ref (a 0)), (1, .ref cb), (2, .int (nI f))] := hl
  refine lv_iconst (v := 0) hx hb dL_areFaults_0 (by decide) ?_
  refine lv_istore_n (lv' := [(3, .int 0), (0, .ref (a 0)), (1, .ref cb), (2, .int (nI f))]) hx hb dL_areFaults_1 rfl hl (by decide) rfl (fun ls hl => ?_)
  refine lv_iconst (v := 0) hx hb dL_areFaults_2 (by decide) ?_
  refine lv_istore (lv' := [(4, .int 0), (3, .int 0), (0, .ref (a 0)), (1, .ref cb), (2, .int (nI f))]) hx hb dL_areFaults_3 hl (by decide) rfl (fun ls hl => ?_)
  have lo : ∀ (n p : Nat) (x3 : Int32) (H : Heap) (locs : List Loc), 10 < p + n → p ≤ 10 → (x3 = sT (afO nC nR par wt sk fk (fun K => hC ck cf cd nF (nI K) (nI f)) cd cv) p) → va_P D vwCl (WD cI cO a FA nC nR nL nF par wt (fun r => nI (sk r)) (fun r => nI (fk r)) hd rea sig ++ (WF FA ck cf cd cv nx nF ++ (LR cI pb rb cb pv rv kv))) H → va_D A (WD cI cO a FA nC nR nL nF par wt (fun r => nI (sk r)) (fun r => nI (fk r)) hd rea sig ++ (WF FA ck cf cd cv nx nF ++ (LR cI pb rb cb pv rv kv))) → va_S A s.heap H locs → ∀ ls : Array Slot, lv_has ls 6 [(4, .int (nI p)), (3, .int x3), (2, .int (nI f)), (1, .ref cb), (0, .ref (a 0))] → W p9 l e9 (headSpec wsL_areFaults ({ frames := 9, cells := 3300, slots := 19800, locals := 158 } : Room)).room s m9 ([.ref (a 0), .ref cb, .int (nI f)] : List Value).toArray below meth c9 H locs (328 * p + 0) (1968 * p + 0) (MQ below (va_Qi (fun (r : Int32) (_ : Unit) => r = 1) (fun _ t => va_P D vwCl (WD cI cO a FA nC nR nL nF par wt (fun r => nI (sk r)) (fun r => nI (fk r)) hd rea sig ++ (WF FA ck cf cd cv nx nF ++ (LR cI pb rb cb pv rv kv))) t.heap ∧ va_D A (WD cI cO a FA nC nR nL nF par wt (fun r => nI (sk r)) (fun r => nI (fk r)) hd rea sig ++ (WF FA ck cf cd cv nx nF ++ (LR cI pb rb cb pv rv kv)))) A) ([.ref (a 0), .ref cb, .int (nI f)] : List Value).toArray s 3300 19800 A) (F0 m9 5 ls []) := by
    intro n
    induction n with
    | zero => intro p x3 H locs h1 h2; exact absurd h1 (by omega)
    | succ n ih_lo =>
      intro p x3 H locs hn_lo hk_lo e3 hP hD hS ls hl
      refine lv_iload hx hb dL_areFaults_5 (lv_at hl 0 rfl) ?_
      refine lv_bipush (v := 10) hx hb dL_areFaults_7 (by decide) ?_
      refine lv_icmp_ge (tgt := 137) hx hb dL_areFaults_9 (by decide) (fun c_9 => ?_) (fun c_9 => ?_)
      · skip
        have hkF : p = 10 := by have := (nI_leI (a := 10) (b := p) (by omega) (by omega)).mp c_9; omega
        rw [hkF] at e3
        refine W.widen (k := 3280) (n := 19680) (by omega) (by omega) ?_
        refine lv_aload_n hx hb dL_areFaults_137 rfl (lv_at hl 4 rfl) ?_
        refine lv_iload_n hx hb dL_areFaults_138 rfl (lv_at hl 2 rfl) ?_
        refine va_calli (va_runV (As := [.int (nI f)]) (rest := []) ⟨hx, hb, hml, hown, hts⟩ (m4_faults l D cI cZ cO cL dt A a FA nC nR nL nF par wt (fun r => nI (sk r)) (fun r => nI (fk r)) hd rea sig ck cf cd cv nx (LR cI pb rb cb pv rv kv) f sk fk hlt hF hC12 hck hcf hcd hcv hwt hCh hL8 hR5 (fun _ => rfl) (fun _ => rfl) hsk12 hfk12 hf) (cwV 1 hts gL_areFaults_X4_faults rfl rfl rfl (by decide +kernel) ⟨(Nat.le_of_ble_eq_true rfl), (Nat.le_of_ble_eq_true rfl)⟩) (gP.v (hg.on hS) hP 3 rfl 0 rfl (⟨hP, hD⟩)) rfl rfl hl.1 rfl (lv_room (Nat.le_of_ble_eq_true rfl)) dL_areFaults_139 ⟨(Nat.le_of_ble_eq_true rfl), (Nat.le_of_ble_eq_true rfl)⟩) hS (fun q _ h => h) (fun q h => h) (fun r_1 ur_1 tr_1 H locs htr_1 hvmr_1 hr_1 hB hzr_1 hkr_1 hS => ?_)
        rw [htr_1] at hB
        obtain ⟨hP, hD⟩ := hB
        refine W.widen (k := 3281) (n := 19686) (Nat.le_of_ble_eq_true rfl) (Nat.le_of_ble_eq_true rfl) ?_
        have hP : va_P D vwCl (WD cI cO a FA nC nR nL nF par wt (fun r => nI (sk r)) (fun r => nI (fk r)) hd rea sig ++ (WF FA ck cf cd cv nx nF ++ (LR cI pb rb cb pv rv kv))) H := hP
        have hD : va_D A (WD cI cO a FA nC nR nL nF par wt (fun r => nI (sk r)) (fun r => nI (fk r)) hd rea sig ++ (WF FA ck cf cd cv nx nF ++ (LR cI pb rb cb pv rv kv))) := hD
        obtain rfl : r_1 = sT (afO nC nR par wt sk fk (fun K => hC ck cf cd nF (nI K) (nI f)) cd cv) 10 := hr_1.trans (af_class (fun r hr => (hskC r hr).1))
        refine lv_iload_n hx hb dL_areFaults_142 rfl (lv_at hl 1 rfl) ?_
        refine lv_icmp_ne (tgt := 159) hx hb dL_areFaults_143 (by decide) (fun c_143 => ?_) (fun c_143 => ?_)
        · skip
          exact absurd e3.symm c_143
        · skip
          refine lv_aload_n hx hb dL_areFaults_146 rfl (lv_at hl 4 rfl) ?_
          refine lv_iload_n hx hb dL_areFaults_147 rfl (lv_at hl 2 rfl) ?_
          refine va_calli (va_runV (As := [.int (nI f)]) (rest := []) ⟨hx, hb, hml, hown, hts⟩ (m4_faultsByList l D cI cZ cO cL dt A a FA nC nR nL nF par wt (fun r => nI (sk r)) (fun r => nI (fk r)) hd rea sig ck cf cd cv nx (LR cI pb rb cb pv rv kv) f sk fk hlt hF hC12 hck hcf hcd hcv hwt hCh hL8 hR5 (fun _ => rfl) (fun _ => rfl) hsk12 hfk12 hckC hFA hf) (cwV 1 hts gL_areFaults_X4_faultsByList rfl rfl rfl (by decide +kernel) ⟨(Nat.le_of_ble_eq_true rfl), (Nat.le_of_ble_eq_true rfl)⟩) (gP.v (hg.on hS) hP 3 rfl 0 rfl (⟨hP, hD⟩)) rfl rfl hl.1 rfl (lv_room (Nat.le_of_ble_eq_true rfl)) dL_areFaults_148 ⟨(Nat.le_of_ble_eq_true rfl), (Nat.le_of_ble_eq_true rfl)⟩) hS (fun q _ h => h) (fun q h => h) (fun r_2 ur_2 tr_2 H locs htr_2 hvmr_2 hr_2 hB hzr_2 hkr_2 hS => ?_)
          rw [htr_2] at hB
          obtain ⟨hP, hD⟩ := hB
          refine W.widen (k := 3282) (n := 19692) (Nat.le_of_ble_eq_true rfl) (Nat.le_of_ble_eq_true rfl) ?_
          have hP : va_P D vwCl (WD cI cO a FA nC nR nL nF par wt (fun r => nI (sk r)) (fun r => nI (fk r)) hd rea sig ++ (WF FA ck cf cd cv nx nF ++ (LR cI pb rb cb pv rv kv))) H := hP
          have hD : va_D A (WD cI cO a FA nC nR nL nF par wt (fun r => nI (sk r)) (fun r => nI (fk r)) hd rea sig ++ (WF FA ck cf cd cv nx nF ++ (LR cI pb rb cb pv rv kv))) := hD
          obtain rfl : r_2 = sT (afO nC nR par wt sk fk (fun K => hC ck cf cd nF (nI K) (nI f)) cd cv) 10 := hr_2.trans (af_list (fun r hr => (hskC r hr).1) hC12 hck hckC)
          refine lv_iload_n hx hb dL_areFaults_151 rfl (lv_at hl 1 rfl) ?_
          refine lv_icmp_ne (tgt := 159) hx hb dL_areFaults_152 (by decide) (fun c_152 => ?_) (fun c_152 => ?_)
          · skip
            exact absurd e3.symm c_152
          · skip
            refine lv_iconst (v := 1) hx hb dL_areFaults_155 (by decide) ?_
            refine lv_goto (tgt := 160) hx hb dL_areFaults_156 (by decide) ?_
            exact W.widen (k := 3300) (n := 19800) (Nat.le_of_ble_eq_true rfl) (Nat.le_of_ble_eq_true rfl) (W.zret (v := 1) hx hb hr (rfl) (fun t ht hW => ⟨⟨1, (), rfl, rfl, g_PD ht hP hD⟩, hS.F ht⟩) hS.2.2 dL_areFaults_160)
      · skip
        have hkF9 : p < 10 := by have := mt (nI_leI (a := 10) (b := p) (by omega) (by omega)).mpr c_9; omega
        refine lv_iconst (v := 0) hx hb dL_areFaults_12 (by decide) ?_
        refine lv_istore (lv' := [(5, .int 0), (4, .int (nI p)), (3, .int x3), (2, .int (nI f)), (1, .ref cb), (0, .ref (a 0))]) hx hb dL_areFaults_13 hl (by decide) rfl (fun ls hl => ?_)
        have l1 : ∀ (n k : Nat) (y3 : Int32) (H : Heap) (locs : List Loc), (4 * nC) < k + n → k ≤ (4 * nC) → (y3 = sT (afO nC nR par wt sk fk (fun K => hC ck cf cd nF (nI K) (nI f)) cd cv) p + sT (fun k => bI (sumOff nC par wt (fun j => (fun K => hC ck cf cd nF (nI K) (nI f)) (j * 40 + p * 4 + k % 4)) cd cv (nI (k / 4)) ((fun K => hC ck cf cd nF (nI K) (nI f)) (k / 4 * 40 + p * 4 + k % 4)) = true) + (if k % 4 = 0 then bI (memOff (fun q => (fun K => hC ck cf cd nF (nI K) (nI f)) (k / 4 * 40 + p * 4 + q)) cd cv = true) else 0)) k) → va_P D vwCl (WD cI cO a FA nC nR nL nF par wt (fun r => nI (sk r)) (fun r => nI (fk r)) hd rea sig ++ (WF FA ck cf cd cv nx nF ++ (LR cI pb rb cb pv rv kv))) H → va_D A (WD cI cO a FA nC nR nL nF par wt (fun r => nI (sk r)) (fun r => nI (fk r)) hd rea sig ++ (WF FA ck cf cd cv nx nF ++ (LR cI pb rb cb pv rv kv))) → va_S A s.heap H locs → ∀ ls : Array Slot, lv_has ls 6 [(5, .int (nI k)), (4, .int (nI p)), (3, .int y3), (2, .int (nI f)), (1, .ref cb), (0, .ref (a 0))] → W p9 l e9 (headSpec wsL_areFaults ({ frames := 9, cells := 3300, slots := 19800, locals := 158 } : Room)).room s m9 ([.ref (a 0), .ref cb, .int (nI f)] : List Value).toArray below meth c9 H locs (328 * p + 6 * k + 0) (1968 * p + 36 * k + 0) (MQ below (va_Qi (fun (r : Int32) (_ : Unit) => r = 1) (fun _ t => va_P D vwCl (WD cI cO a FA nC nR nL nF par wt (fun r => nI (sk r)) (fun r => nI (fk r)) hd rea sig ++ (WF FA ck cf cd cv nx nF ++ (LR cI pb rb cb pv rv kv))) t.heap ∧ va_D A (WD cI cO a FA nC nR nL nF par wt (fun r => nI (sk r)) (fun r => nI (fk r)) hd rea sig ++ (WF FA ck cf cd cv nx nF ++ (LR cI pb rb cb pv rv kv)))) A) ([.ref (a 0), .ref cb, .int (nI f)] : List Value).toArray s 3300 19800 A) (F0 m9 15 ls []) := by
          intro n
          induction n with
          | zero => intro k y3 H locs h1 h2; exact absurd h1 (by omega)
          | succ n ih_l1 =>
            intro k y3 H locs hn_l1 hk_l1 ey hP hD hS ls hl
            refine lv_iload hx hb dL_areFaults_15 (lv_at hl 0 rfl) ?_
            refine lv_iconst (v := 4) hx hb dL_areFaults_17 (by decide) ?_
            refine lv_aload_n hx hb dL_areFaults_18 rfl (lv_at hl 4 rfl) ?_
            refine lv_iconst (v := 0) hx hb dL_areFaults_19 (by decide) ?_
            refine g_iald hx hb hK hP (11 + nF + 2) 0 (n := 4) (f := kv) (WDRj 2 rfl) rfl 0 rfl (by omega) (by decide) dL_areFaults_20 ?_
            refine lv_topi (fun dv edv => ?_)
            obtain rfl : dv = nI nC := by rw [edv]; exact hk0
            refine lv_imul hx hb dL_areFaults_21 ?_
            refine lv_topi (fun dv edv => ?_)
            obtain rfl : dv = nI (4 * nC) := by rw [edv]; exact pk_mul 4 nC
            refine lv_icmp_ge (tgt := 86) hx hb dL_areFaults_22 (by decide) (fun c_22 => ?_) (fun c_22 => ?_)
            · skip
              have hkF : k = (4 * nC) := by have := (nI_leI (a := (4 * nC)) (b := k) (by omega) (by omega)).mp c_22; omega
              rw [hkF] at ey
              refine W.widen (k := 328 * p + 288) (n := 1968 * p + 1728) (by omega) (by omega) ?_
              refine lv_iconst (v := 0) hx hb dL_areFaults_86 (by decide) ?_
              refine lv_istore (lv' := [(5, .int 0), (4, .int (nI p)), (3, .int y3), (2, .int (nI f)), (1, .ref cb), (0, .ref (a 0))]) hx hb dL_areFaults_87 hl (by decide) rfl (fun ls hl => ?_)
              have l2 : ∀ (n k : Nat) (z3 : Int32) (H : Heap) (locs : List Loc), (4 * nR) < k + n → k ≤ (4 * nR) → (z3 = (sT (afO nC nR par wt sk fk (fun K => hC ck cf cd nF (nI K) (nI f)) cd cv) p + sT (fun k => bI (sumOff nC par wt (fun j => (fun K => hC ck cf cd nF (nI K) (nI f)) (j * 40 + p * 4 + k % 4)) cd cv (nI (k / 4)) ((fun K => hC ck cf cd nF (nI K) (nI f)) (k / 4 * 40 + p * 4 + k % 4)) = true) + (if k % 4 = 0 then bI (memOff (fun q => (fun K => hC ck cf cd nF (nI K) (nI f)) (k / 4 * 40 + p * 4 + q)) cd cv = true) else 0)) (4 * nC)) + sT (fun k => bI (rollOff (nI p) ((fun K => hC ck cf cd nF (nI K) (nI f)) (sk (k / 4) * 40 + p * 4 + k % 4)) ((fun K => hC ck cf cd nF (nI K) (nI f)) (sk (k / 4) * 40 + (p - 1) * 4 + k % 4)) ((fun K => hC ck cf cd nF (nI K) (nI f)) (fk (k / 4) * 40 + p * 4 + k % 4)) cd cv = true)) k) → va_P D vwCl (WD cI cO a FA nC nR nL nF par wt (fun r => nI (sk r)) (fun r => nI (fk r)) hd rea sig ++ (WF FA ck cf cd cv nx nF ++ (LR cI pb rb cb pv rv kv))) H → va_D A (WD cI cO a FA nC nR nL nF par wt (fun r => nI (sk r)) (fun r => nI (fk r)) hd rea sig ++ (WF FA ck cf cd cv nx nF ++ (LR cI pb rb cb pv rv kv))) → va_S A s.heap H locs → ∀ ls : Array Slot, lv_has ls 6 [(5, .int (nI k)), (4, .int (nI p)), (3, .int z3), (2, .int (nI f)), (1, .ref cb), (0, .ref (a 0))] → W p9 l e9 (headSpec wsL_areFaults ({ frames := 9, cells := 3300, slots := 19800, locals := 158 } : Room)).room s m9 ([.ref (a 0), .ref cb, .int (nI f)] : List Value).toArray below meth c9 H locs (328 * p + 2 * k + 288) (1968 * p + 12 * k + 1728) (MQ below (va_Qi (fun (r : Int32) (_ : Unit) => r = 1) (fun _ t => va_P D vwCl (WD cI cO a FA nC nR nL nF par wt (fun r => nI (sk r)) (fun r => nI (fk r)) hd rea sig ++ (WF FA ck cf cd cv nx nF ++ (LR cI pb rb cb pv rv kv))) t.heap ∧ va_D A (WD cI cO a FA nC nR nL nF par wt (fun r => nI (sk r)) (fun r => nI (fk r)) hd rea sig ++ (WF FA ck cf cd cv nx nF ++ (LR cI pb rb cb pv rv kv)))) A) ([.ref (a 0), .ref cb, .int (nI f)] : List Value).toArray s 3300 19800 A) (F0 m9 89 ls []) := by
                intro n
                induction n with
                | zero => intro k z3 H locs h1 h2; exact absurd h1 (by omega)
                | succ n ih_l2 =>
                  intro k z3 H locs hn_l2 hk_l2 ey hP hD hS ls hl
                  refine lv_iload hx hb dL_areFaults_89 (lv_at hl 0 rfl) ?_
                  refine lv_iconst (v := 4) hx hb dL_areFaults_91 (by decide) ?_
                  refine lv_aload_n hx hb dL_areFaults_92 rfl (lv_at hl 4 rfl) ?_
                  refine lv_iconst (v := 1) hx hb dL_areFaults_93 (by decide) ?_
                  refine g_iald hx hb hK hP (11 + nF + 2) 0 (n := 4) (f := kv) (WDRj 2 rfl) rfl 1 rfl (by omega) (by decide) dL_areFaults_94 ?_
                  refine lv_topi (fun dv edv => ?_)
                  obtain rfl : dv = nI nR := by rw [edv]; exact hk1
                  refine lv_imul hx hb dL_areFaults_95 ?_
                  refine lv_topi (fun dv edv => ?_)
                  obtain rfl : dv = nI (4 * nR) := by rw [edv]; exact pk_mul 4 nR
                  refine lv_icmp_ge (tgt := 131) hx hb dL_areFaults_96 (by decide) (fun c_96 => ?_) (fun c_96 => ?_)
                  · skip
                    have hkF : k = (4 * nR) := by have := (nI_leI (a := (4 * nR)) (b := k) (by omega) (by omega)).mp c_96; omega
                    rw [hkF] at ey
                    refine W.widen (k := 328 * p + 328) (n := 1968 * p + 1968) (by omega) (by omega) ?_
                    refine lv_iinc (v := nI (p + 1)) (lv' := [(4, .int (nI (p + 1))), (5, .int (nI k)), (3, .int z3), (2, .int (nI f)), (1, .ref cb), (0, .ref (a 0))]) hx hb dL_areFaults_131 hl (k := 1) rfl (nI_1 p) (by decide) rfl (fun ls hl => ?_)
                    refine lv_goto (tgt := 5) hx hb dL_areFaults_134 (by decide) ?_
                    refine W.widen (k := 328 * (p + 1) + 0) (n := 1968 * (p + 1) + 0) (by omega) (by omega) ?_
                    exact ih_lo (p + 1) z3 _ _ (by omega) (by omega) (by rw [ey]; show sT (afO nC nR par wt sk fk (fun K => hC ck cf cd nF (nI K) (nI f)) cd cv) p + _ + _ = sT (afO nC nR par wt sk fk (fun K => hC ck cf cd nF (nI K) (nI f)) cd cv) p + (afO nC nR par wt sk fk (fun K => hC ck cf cd nF (nI K) (nI f)) cd cv) p; exact Int32.add_assoc _ _ _) hP hD hS _ (lv_sub hl [0, 2, 3, 4, 5] rfl)
                  · skip
                    have hkF96 : k < (4 * nR) := by have := mt (nI_leI (a := (4 * nR)) (b := k) (by omega) (by omega)).mpr c_96; omega
                    refine lv_iload_n hx hb dL_areFaults_99 rfl (lv_at hl 2 rfl) ?_
                    refine lv_aload_n hx hb dL_areFaults_100 rfl (lv_at hl 5 rfl) ?_
                    refine lv_iload hx hb dL_areFaults_101 (lv_at hl 0 rfl) ?_
                    refine lv_iconst (v := 4) hx hb dL_areFaults_103 (by decide) ?_
                    refine lv_idiv hx hb dL_areFaults_104 (by decide) ?_
                    refine lv_topi (fun dv edv => ?_)
                    obtain rfl : dv = nI (k / 4) := by rw [edv]; exact pk_div (a := k) (d := 4) (by omega) (by omega) (by omega)
                    refine lv_iload hx hb dL_areFaults_105 (lv_at hl 1 rfl) ?_
                    refine lv_iload hx hb dL_areFaults_107 (lv_at hl 0 rfl) ?_
                    refine lv_iconst (v := 4) hx hb dL_areFaults_109 (by decide) ?_
                    refine lv_irem hx hb dL_areFaults_110 (by decide) ?_
                    refine lv_topi (fun dv edv => ?_)
                    obtain rfl : dv = nI (k % 4) := by rw [edv]; exact pk_rem (a := k) (d := 4) (by omega) (by omega) (by omega)
                    refine lv_iload_n hx hb dL_areFaults_111 rfl (lv_at hl 3 rfl) ?_
                    refine va_calli (va_runV (As := [.int (nI (k / 4)), .int (nI p), .int (nI (k % 4)), .int (nI f)]) (rest := [.int z3]) ⟨hx, hb, hml, hown, hts⟩ (m4_isRollOff l D cI cZ cO cL dt A a FA nC nR nL nF par wt (fun r => nI (sk r)) (fun r => nI (fk r)) hd rea sig ck cf cd cv nx (LR cI pb rb cb pv rv kv) (k / 4) p (k % 4) f sk fk hlt hF hC12 hck hcf hcd hcv hwt hCh hL8 hR5 (fun _ => rfl) (fun _ => rfl) hsk12 hfk12 (by omega) (by omega) (by omega) hf) (cwV 4 hts gL_areFaults_X4_isRollOff rfl rfl rfl (by decide +kernel) ⟨(Nat.le_of_ble_eq_true rfl), (Nat.le_of_ble_eq_true rfl)⟩) (gP.v (hg.on hS) hP 3 rfl 0 rfl (⟨hP, hD⟩)) rfl rfl hl.1 rfl (lv_room (Nat.le_of_ble_eq_true rfl)) dL_areFaults_112 ⟨by show 328 * p + 2 * k + 288 + 2 ≤ 3300; omega, by show 1968 * p + 12 * k + 1728 + 12 ≤ 19800; omega⟩) hS (fun q _ h => h) (fun q h => h) (fun r_3 ur_3 tr_3 H locs htr_3 hvmr_3 hr_3 hB hzr_3 hkr_3 hS => ?_)
                    rw [htr_3] at hB
                    obtain ⟨hP, hD⟩ := hB
                    refine W.widen (k := 328 * p + 2 * k + 290) (n := 1968 * p + 12 * k + 1740) (by omega) (by omega) ?_
                    have hP : va_P D vwCl (WD cI cO a FA nC nR nL nF par wt (fun r => nI (sk r)) (fun r => nI (fk r)) hd rea sig ++ (WF FA ck cf cd cv nx nF ++ (LR cI pb rb cb pv rv kv))) H := hP
                    have hD : va_D A (WD cI cO a FA nC nR nL nF par wt (fun r => nI (sk r)) (fun r => nI (fk r)) hd rea sig ++ (WF FA ck cf cd cv nx nF ++ (LR cI pb rb cb pv rv kv))) := hD
                    obtain rfl : r_3 = bI (rollOff (nI p) (hC ck cf cd nF (nI (sk (k / 4) * 40 + p * 4 + k % 4)) (nI f)) (hC ck cf cd nF (nI (sk (k / 4) * 40 + (p - 1) * 4 + k % 4)) (nI f)) (hC ck cf cd nF (nI (fk (k / 4) * 40 + p * 4 + k % 4)) (nI f)) cd cv = true) := hr_3
                    refine lv_if_eq (tgt := 122) hx hb dL_areFaults_115 (by decide) (fun c_115 => ?_) (fun c_115 => ?_)
                    · skip
                      have c_115 := bI_z c_115
                      refine lv_iconst (v := 0) hx hb dL_areFaults_122 (by decide) ?_
                      refine lv_iadd hx hb dL_areFaults_123 ?_
                      refine lv_istore_n (lv' := [(3, .int (z3 + 0)), (5, .int (nI k)), (4, .int (nI p)), (2, .int (nI f)), (1, .ref cb), (0, .ref (a 0))]) hx hb dL_areFaults_124 rfl hl (by decide) rfl (fun ls hl => ?_)
                      refine lv_iinc (v := nI (k + 1)) (lv' := [(5, .int (nI (k + 1))), (3, .int (z3 + 0)), (4, .int (nI p)), (2, .int (nI f)), (1, .ref cb), (0, .ref (a 0))]) hx hb dL_areFaults_125 hl (k := 1) rfl (nI_1 k) (by decide) rfl (fun ls hl => ?_)
                      refine lv_goto (tgt := 89) hx hb dL_areFaults_128 (by decide) ?_
                      refine W.widen (k := 328 * p + 2 * (k + 1) + 288) (n := 1968 * p + 12 * (k + 1) + 1728) (by omega) (by omega) ?_
                      exact ih_l2 (k + 1) (z3 + 0) _ _ (by omega) (by omega) (by show _ = (sT (afO nC nR par wt sk fk (fun K => hC ck cf cd nF (nI K) (nI f)) cd cv) p + sT (fun k => bI (sumOff nC par wt (fun j => (fun K => hC ck cf cd nF (nI K) (nI f)) (j * 40 + p * 4 + k % 4)) cd cv (nI (k / 4)) ((fun K => hC ck cf cd nF (nI K) (nI f)) (k / 4 * 40 + p * 4 + k % 4)) = true) + (if k % 4 = 0 then bI (memOff (fun q => (fun K => hC ck cf cd nF (nI K) (nI f)) (k / 4 * 40 + p * 4 + q)) cd cv = true) else 0)) (4 * nC)) + (sT (fun k => bI (rollOff (nI p) ((fun K => hC ck cf cd nF (nI K) (nI f)) (sk (k / 4) * 40 + p * 4 + k % 4)) ((fun K => hC ck cf cd nF (nI K) (nI f)) (sk (k / 4) * 40 + (p - 1) * 4 + k % 4)) ((fun K => hC ck cf cd nF (nI K) (nI f)) (fk (k / 4) * 40 + p * 4 + k % 4)) cd cv = true)) k + _); exact af_one ey (bI_f c_115)) hP hD hS _ (lv_sub hl [0, 2, 1, 3, 4, 5] rfl)
                    · skip
                      have c_115 := bI_n c_115
                      refine lv_iconst (v := 1) hx hb dL_areFaults_118 (by decide) ?_
                      refine lv_goto (tgt := 123) hx hb dL_areFaults_119 (by decide) ?_
                      refine lv_iadd hx hb dL_areFaults_123 ?_
                      refine lv_istore_n (lv' := [(3, .int (z3 + 1)), (5, .int (nI k)), (4, .int (nI p)), (2, .int (nI f)), (1, .ref cb), (0, .ref (a 0))]) hx hb dL_areFaults_124 rfl hl (by decide) rfl (fun ls hl => ?_)
                      refine lv_iinc (v := nI (k + 1)) (lv' := [(5, .int (nI (k + 1))), (3, .int (z3 + 1)), (4, .int (nI p)), (2, .int (nI f)), (1, .ref cb), (0, .ref (a 0))]) hx hb dL_areFaults_125 hl (k := 1) rfl (nI_1 k) (by decide) rfl (fun ls hl => ?_)
                      refine lv_goto (tgt := 89) hx hb dL_areFaults_128 (by decide) ?_
                      refine W.widen (k := 328 * p + 2 * (k + 1) + 288) (n := 1968 * p + 12 * (k + 1) + 1728) (by omega) (by omega) ?_
                      exact ih_l2 (k + 1) (z3 + 1) _ _ (by omega) (by omega) (by show _ = (sT (afO nC nR par wt sk fk (fun K => hC ck cf cd nF (nI K) (nI f)) cd cv) p + sT (fun k => bI (sumOff nC par wt (fun j => (fun K => hC ck cf cd nF (nI K) (nI f)) (j * 40 + p * 4 + k % 4)) cd cv (nI (k / 4)) ((fun K => hC ck cf cd nF (nI K) (nI f)) (k / 4 * 40 + p * 4 + k % 4)) = true) + (if k % 4 = 0 then bI (memOff (fun q => (fun K => hC ck cf cd nF (nI K) (nI f)) (k / 4 * 40 + p * 4 + q)) cd cv = true) else 0)) (4 * nC)) + (sT (fun k => bI (rollOff (nI p) ((fun K => hC ck cf cd nF (nI K) (nI f)) (sk (k / 4) * 40 + p * 4 + k % 4)) ((fun K => hC ck cf cd nF (nI K) (nI f)) (sk (k / 4) * 40 + (p - 1) * 4 + k % 4)) ((fun K => hC ck cf cd nF (nI K) (nI f)) (fk (k / 4) * 40 + p * 4 + k % 4)) cd cv = true)) k + _); exact af_one ey (bI_t c_115)) hP hD hS _ (lv_sub hl [0, 2, 1, 3, 4, 5] rfl)
              exact l2 ((4 * nR) + 1) 0 y3 _ _ (by omega) (by omega) (by rw [ey]; exact (Int32.add_zero _).symm) hP hD hS _ (lv_sub hl [0, 1, 2, 3, 4, 5] rfl)
            · skip
              have hkF22 : k < (4 * nC) := by have := mt (nI_leI (a := (4 * nC)) (b := k) (by omega) (by omega)).mpr c_22; omega
              refine lv_iload_n hx hb dL_areFaults_25 rfl (lv_at hl 2 rfl) ?_
              refine lv_aload_n hx hb dL_areFaults_26 rfl (lv_at hl 5 rfl) ?_
              refine lv_iload hx hb dL_areFaults_27 (lv_at hl 0 rfl) ?_
              refine lv_iconst (v := 4) hx hb dL_areFaults_29 (by decide) ?_
              refine lv_idiv hx hb dL_areFaults_30 (by decide) ?_
              refine lv_topi (fun dv edv => ?_)
              obtain rfl : dv = nI (k / 4) := by rw [edv]; exact pk_div (a := k) (d := 4) (by omega) (by omega) (by omega)
              refine lv_iload hx hb dL_areFaults_31 (lv_at hl 1 rfl) ?_
              refine lv_iload hx hb dL_areFaults_33 (lv_at hl 0 rfl) ?_
              refine lv_iconst (v := 4) hx hb dL_areFaults_35 (by decide) ?_
              refine lv_irem hx hb dL_areFaults_36 (by decide) ?_
              refine lv_topi (fun dv edv => ?_)
              obtain rfl : dv = nI (k % 4) := by rw [edv]; exact pk_rem (a := k) (d := 4) (by omega) (by omega) (by omega)
              refine lv_iload_n hx hb dL_areFaults_37 rfl (lv_at hl 3 rfl) ?_
              refine va_calli (va_runV (As := [.int (nI (k / 4)), .int (nI p), .int (nI (k % 4)), .int (nI f)]) (rest := [.int y3]) ⟨hx, hb, hml, hown, hts⟩ (m4_isSumOff l D cI cZ cO cL dt A a FA nC nR nL nF par wt (fun r => nI (sk r)) (fun r => nI (fk r)) hd rea sig ck cf cd cv nx (LR cI pb rb cb pv rv kv) (k / 4) p (k % 4) f hlt hF hC12 hck hcf hcd hcv hwt hCh hL8 (by omega) (by omega) (by omega) hf) (cwV 4 hts gL_areFaults_X4_isSumOff rfl rfl rfl (by decide +kernel) ⟨(Nat.le_of_ble_eq_true rfl), (Nat.le_of_ble_eq_true rfl)⟩) (gP.v (hg.on hS) hP 3 rfl 0 rfl (⟨hP, hD⟩)) rfl rfl hl.1 rfl (lv_room (Nat.le_of_ble_eq_true rfl)) dL_areFaults_38 ⟨by show 328 * p + 6 * k + 0 + 3 ≤ 3300; omega, by show 1968 * p + 36 * k + 0 + 18 ≤ 19800; omega⟩) hS (fun q _ h => h) (fun q h => h) (fun r_4 ur_4 tr_4 H locs htr_4 hvmr_4 hr_4 hB hzr_4 hkr_4 hS => ?_)
              rw [htr_4] at hB
              obtain ⟨hP, hD⟩ := hB
              refine W.widen (k := 328 * p + 6 * k + 3) (n := 1968 * p + 36 * k + 18) (by omega) (by omega) ?_
              have hP : va_P D vwCl (WD cI cO a FA nC nR nL nF par wt (fun r => nI (sk r)) (fun r => nI (fk r)) hd rea sig ++ (WF FA ck cf cd cv nx nF ++ (LR cI pb rb cb pv rv kv))) H := hP
              have hD : va_D A (WD cI cO a FA nC nR nL nF par wt (fun r => nI (sk r)) (fun r => nI (fk r)) hd rea sig ++ (WF FA ck cf cd cv nx nF ++ (LR cI pb rb cb pv rv kv))) := hD
              obtain rfl : r_4 = bI (sumOff nC par wt (fun j => hC ck cf cd nF (nI (j * 40 + p * 4 + k % 4)) (nI f)) cd cv (nI (k / 4)) (hC ck cf cd nF (nI (k / 4 * 40 + p * 4 + k % 4)) (nI f)) = true) := hr_4
              refine lv_if_eq (tgt := 48) hx hb dL_areFaults_41 (by decide) (fun c_41 => ?_) (fun c_41 => ?_)
              · skip
                have c_41 := bI_z c_41
                refine lv_iconst (v := 0) hx hb dL_areFaults_48 (by decide) ?_
                refine lv_iadd hx hb dL_areFaults_49 ?_
                refine lv_istore_n (lv' := [(3, .int (y3 + 0)), (5, .int (nI k)), (4, .int (nI p)), (2, .int (nI f)), (1, .ref cb), (0, .ref (a 0))]) hx hb dL_areFaults_50 rfl hl (by decide) rfl (fun ls hl => ?_)
                refine lv_iload_n hx hb dL_areFaults_51 rfl (lv_at hl 0 rfl) ?_
                refine lv_iload hx hb dL_areFaults_52 (lv_at hl 1 rfl) ?_
                refine lv_iconst (v := 4) hx hb dL_areFaults_54 (by decide) ?_
                refine lv_irem hx hb dL_areFaults_55 (by decide) ?_
                refine lv_topi (fun dv edv => ?_)
                obtain rfl : dv = nI (k % 4) := by rw [edv]; exact pk_rem (a := k) (d := 4) (by omega) (by omega) (by omega)
                refine lv_if_ne (tgt := 77) hx hb dL_areFaults_56 (by decide) (fun c_56 => ?_) (fun c_56 => ?_)
                · skip
                  have hb0 : (0 : Int32) = (if k % 4 = 0 then bI (memOff (fun q => hC ck cf cd nF (nI (k / 4 * 40 + p * 4 + q)) (nI f)) cd cv = true) else 0) := (if_neg (fun z => c_56 (by rw [z]; rfl))).symm
                  refine lv_iconst (v := 0) hx hb dL_areFaults_77 (by decide) ?_
                  refine lv_iadd hx hb dL_areFaults_78 ?_
                  refine lv_istore_n (lv' := [(3, .int ((y3 + 0) + 0)), (5, .int (nI k)), (4, .int (nI p)), (2, .int (nI f)), (1, .ref cb), (0, .ref (a 0))]) hx hb dL_areFaults_79 rfl hl (by decide) rfl (fun ls hl => ?_)
                  refine lv_iinc (v := nI (k + 1)) (lv' := [(5, .int (nI (k + 1))), (3, .int ((y3 + 0) + 0)), (4, .int (nI p)), (2, .int (nI f)), (1, .ref cb), (0, .ref (a 0))]) hx hb dL_areFaults_80 hl (k := 1) rfl (nI_1 k) (by decide) rfl (fun ls hl => ?_)
                  refine lv_goto (tgt := 15) hx hb dL_areFaults_83 (by decide) ?_
                  refine W.widen (k := 328 * p + 6 * (k + 1) + 0) (n := 1968 * p + 36 * (k + 1) + 0) (by omega) (by omega) ?_
                  exact ih_l1 (k + 1) ((y3 + 0) + 0) _ _ (by omega) (by omega) (by show _ = sT (afO nC nR par wt sk fk (fun K => hC ck cf cd nF (nI K) (nI f)) cd cv) p + (sT (fun k => bI (sumOff nC par wt (fun j => (fun K => hC ck cf cd nF (nI K) (nI f)) (j * 40 + p * 4 + k % 4)) cd cv (nI (k / 4)) ((fun K => hC ck cf cd nF (nI K) (nI f)) (k / 4 * 40 + p * 4 + k % 4)) = true) + (if k % 4 = 0 then bI (memOff (fun q => (fun K => hC ck cf cd nF (nI K) (nI f)) (k / 4 * 40 + p * 4 + q)) cd cv = true) else 0)) k + _); exact af_step ey (bI_f c_41) hb0) hP hD hS _ (lv_sub hl [0, 2, 1, 3, 4, 5] rfl)
                · skip
                  have hk4 : k % 4 = 0 := (nI_eq (b := 0) (by omega) (by decide)).mp c_56
                  refine lv_aload_n hx hb dL_areFaults_59 rfl (lv_at hl 5 rfl) ?_
                  refine lv_iload hx hb dL_areFaults_60 (lv_at hl 1 rfl) ?_
                  refine lv_iconst (v := 4) hx hb dL_areFaults_62 (by decide) ?_
                  refine lv_idiv hx hb dL_areFaults_63 (by decide) ?_
                  refine lv_topi (fun dv edv => ?_)
                  obtain rfl : dv = nI (k / 4) := by rw [edv]; exact pk_div (a := k) (d := 4) (by omega) (by omega) (by omega)
                  refine lv_iload hx hb dL_areFaults_64 (lv_at hl 2 rfl) ?_
                  refine lv_iload_n hx hb dL_areFaults_66 rfl (lv_at hl 3 rfl) ?_
                  refine va_calli (va_runV (As := [.int (nI (k / 4)), .int (nI p), .int (nI f)]) (rest := [.int (y3 + 0)]) ⟨hx, hb, hml, hown, hts⟩ (m4_areMembersOff l D cI cZ cO cL dt A a FA nC nR nL nF par wt (fun r => nI (sk r)) (fun r => nI (fk r)) hd rea sig ck cf cd cv nx (LR cI pb rb cb pv rv kv) (k / 4) p f hlt hF hC12 hck hcf hcd hcv hwt hCh hL8 (by omega) (by omega) hf) (cwV 3 hts gL_areFaults_X4_areMembersOff rfl rfl rfl (by decide +kernel) ⟨(Nat.le_of_ble_eq_true rfl), (Nat.le_of_ble_eq_true rfl)⟩) (gP.v (hg.on hS) hP 3 rfl 0 rfl (⟨hP, hD⟩)) rfl rfl hl.1 rfl (lv_room (Nat.le_of_ble_eq_true rfl)) dL_areFaults_67 ⟨by show 328 * p + 6 * k + 3 + 3 ≤ 3300; omega, by show 1968 * p + 36 * k + 18 + 18 ≤ 19800; omega⟩) hS (fun q _ h => h) (fun q h => h) (fun r_5 ur_5 tr_5 H locs htr_5 hvmr_5 hr_5 hB hzr_5 hkr_5 hS => ?_)
                  rw [htr_5] at hB
                  obtain ⟨hP, hD⟩ := hB
                  refine W.widen (k := 328 * p + 6 * k + 6) (n := 1968 * p + 36 * k + 36) (by omega) (by omega) ?_
                  have hP : va_P D vwCl (WD cI cO a FA nC nR nL nF par wt (fun r => nI (sk r)) (fun r => nI (fk r)) hd rea sig ++ (WF FA ck cf cd cv nx nF ++ (LR cI pb rb cb pv rv kv))) H := hP
                  have hD : va_D A (WD cI cO a FA nC nR nL nF par wt (fun r => nI (sk r)) (fun r => nI (fk r)) hd rea sig ++ (WF FA ck cf cd cv nx nF ++ (LR cI pb rb cb pv rv kv))) := hD
                  obtain rfl : r_5 = bI (memOff (fun q => hC ck cf cd nF (nI (k / 4 * 40 + p * 4 + q)) (nI f)) cd cv = true) := hr_5
                  refine lv_if_eq (tgt := 77) hx hb dL_areFaults_70 (by decide) (fun c_70 => ?_) (fun c_70 => ?_)
                  · skip
                    have c_70 := bI_z c_70
                    have hb0 : (0 : Int32) = (if k % 4 = 0 then bI (memOff (fun q => hC ck cf cd nF (nI (k / 4 * 40 + p * 4 + q)) (nI f)) cd cv = true) else 0) := (bI_f c_70).trans (if_pos hk4).symm
                    refine lv_iconst (v := 0) hx hb dL_areFaults_77 (by decide) ?_
                    refine lv_iadd hx hb dL_areFaults_78 ?_
                    refine lv_istore_n (lv' := [(3, .int ((y3 + 0) + 0)), (5, .int (nI k)), (4, .int (nI p)), (2, .int (nI f)), (1, .ref cb), (0, .ref (a 0))]) hx hb dL_areFaults_79 rfl hl (by decide) rfl (fun ls hl => ?_)
                    refine lv_iinc (v := nI (k + 1)) (lv' := [(5, .int (nI (k + 1))), (3, .int ((y3 + 0) + 0)), (4, .int (nI p)), (2, .int (nI f)), (1, .ref cb), (0, .ref (a 0))]) hx hb dL_areFaults_80 hl (k := 1) rfl (nI_1 k) (by decide) rfl (fun ls hl => ?_)
                    refine lv_goto (tgt := 15) hx hb dL_areFaults_83 (by decide) ?_
                    refine W.widen (k := 328 * p + 6 * (k + 1) + 0) (n := 1968 * p + 36 * (k + 1) + 0) (by omega) (by omega) ?_
                    exact ih_l1 (k + 1) ((y3 + 0) + 0) _ _ (by omega) (by omega) (by show _ = sT (afO nC nR par wt sk fk (fun K => hC ck cf cd nF (nI K) (nI f)) cd cv) p + (sT (fun k => bI (sumOff nC par wt (fun j => (fun K => hC ck cf cd nF (nI K) (nI f)) (j * 40 + p * 4 + k % 4)) cd cv (nI (k / 4)) ((fun K => hC ck cf cd nF (nI K) (nI f)) (k / 4 * 40 + p * 4 + k % 4)) = true) + (if k % 4 = 0 then bI (memOff (fun q => (fun K => hC ck cf cd nF (nI K) (nI f)) (k / 4 * 40 + p * 4 + q)) cd cv = true) else 0)) k + _); exact af_step ey (bI_f c_41) hb0) hP hD hS _ (lv_sub hl [0, 2, 1, 3, 4, 5] rfl)
                  · skip
                    have c_70 := bI_n c_70
                    refine lv_iconst (v := 1) hx hb dL_areFaults_73 (by decide) ?_
                    refine lv_goto (tgt := 78) hx hb dL_areFaults_74 (by decide) ?_
                    refine lv_iadd hx hb dL_areFaults_78 ?_
                    refine lv_istore_n (lv' := [(3, .int ((y3 + 0) + 1)), (5, .int (nI k)), (4, .int (nI p)), (2, .int (nI f)), (1, .ref cb), (0, .ref (a 0))]) hx hb dL_areFaults_79 rfl hl (by decide) rfl (fun ls hl => ?_)
                    refine lv_iinc (v := nI (k + 1)) (lv' := [(5, .int (nI (k + 1))), (3, .int ((y3 + 0) + 1)), (4, .int (nI p)), (2, .int (nI f)), (1, .ref cb), (0, .ref (a 0))]) hx hb dL_areFaults_80 hl (k := 1) rfl (nI_1 k) (by decide) rfl (fun ls hl => ?_)
                    refine lv_goto (tgt := 15) hx hb dL_areFaults_83 (by decide) ?_
                    refine W.widen (k := 328 * p + 6 * (k + 1) + 0) (n := 1968 * p + 36 * (k + 1) + 0) (by omega) (by omega) ?_
                    exact ih_l1 (k + 1) ((y3 + 0) + 1) _ _ (by omega) (by omega) (by show _ = sT (afO nC nR par wt sk fk (fun K => hC ck cf cd nF (nI K) (nI f)) cd cv) p + (sT (fun k => bI (sumOff nC par wt (fun j => (fun K => hC ck cf cd nF (nI K) (nI f)) (j * 40 + p * 4 + k % 4)) cd cv (nI (k / 4)) ((fun K => hC ck cf cd nF (nI K) (nI f)) (k / 4 * 40 + p * 4 + k % 4)) = true) + (if k % 4 = 0 then bI (memOff (fun q => (fun K => hC ck cf cd nF (nI K) (nI f)) (k / 4 * 40 + p * 4 + q)) cd cv = true) else 0)) k + _); exact af_step ey (bI_f c_41) ((bI_t c_70).trans (if_pos hk4).symm)) hP hD hS _ (lv_sub hl [0, 2, 1, 3, 4, 5] rfl)
              · skip
                have c_41 := bI_n c_41
                refine lv_iconst (v := 1) hx hb dL_areFaults_44 (by decide) ?_
                refine lv_goto (tgt := 49) hx hb dL_areFaults_45 (by decide) ?_
                refine lv_iadd hx hb dL_areFaults_49 ?_
                refine lv_istore_n (lv' := [(3, .int (y3 + 1)), (5, .int (nI k)), (4, .int (nI p)), (2, .int (nI f)), (1, .ref cb), (0, .ref (a 0))]) hx hb dL_areFaults_50 rfl hl (by decide) rfl (fun ls hl => ?_)
                refine lv_iload_n hx hb dL_areFaults_51 rfl (lv_at hl 0 rfl) ?_
                refine lv_iload hx hb dL_areFaults_52 (lv_at hl 1 rfl) ?_
                refine lv_iconst (v := 4) hx hb dL_areFaults_54 (by decide) ?_
                refine lv_irem hx hb dL_areFaults_55 (by decide) ?_
                refine lv_topi (fun dv edv => ?_)
                obtain rfl : dv = nI (k % 4) := by rw [edv]; exact pk_rem (a := k) (d := 4) (by omega) (by omega) (by omega)
                refine lv_if_ne (tgt := 77) hx hb dL_areFaults_56 (by decide) (fun c_56 => ?_) (fun c_56 => ?_)
                · skip
                  have hb0 : (0 : Int32) = (if k % 4 = 0 then bI (memOff (fun q => hC ck cf cd nF (nI (k / 4 * 40 + p * 4 + q)) (nI f)) cd cv = true) else 0) := (if_neg (fun z => c_56 (by rw [z]; rfl))).symm
                  refine lv_iconst (v := 0) hx hb dL_areFaults_77 (by decide) ?_
                  refine lv_iadd hx hb dL_areFaults_78 ?_
                  refine lv_istore_n (lv' := [(3, .int ((y3 + 1) + 0)), (5, .int (nI k)), (4, .int (nI p)), (2, .int (nI f)), (1, .ref cb), (0, .ref (a 0))]) hx hb dL_areFaults_79 rfl hl (by decide) rfl (fun ls hl => ?_)
                  refine lv_iinc (v := nI (k + 1)) (lv' := [(5, .int (nI (k + 1))), (3, .int ((y3 + 1) + 0)), (4, .int (nI p)), (2, .int (nI f)), (1, .ref cb), (0, .ref (a 0))]) hx hb dL_areFaults_80 hl (k := 1) rfl (nI_1 k) (by decide) rfl (fun ls hl => ?_)
                  refine lv_goto (tgt := 15) hx hb dL_areFaults_83 (by decide) ?_
                  refine W.widen (k := 328 * p + 6 * (k + 1) + 0) (n := 1968 * p + 36 * (k + 1) + 0) (by omega) (by omega) ?_
                  exact ih_l1 (k + 1) ((y3 + 1) + 0) _ _ (by omega) (by omega) (by show _ = sT (afO nC nR par wt sk fk (fun K => hC ck cf cd nF (nI K) (nI f)) cd cv) p + (sT (fun k => bI (sumOff nC par wt (fun j => (fun K => hC ck cf cd nF (nI K) (nI f)) (j * 40 + p * 4 + k % 4)) cd cv (nI (k / 4)) ((fun K => hC ck cf cd nF (nI K) (nI f)) (k / 4 * 40 + p * 4 + k % 4)) = true) + (if k % 4 = 0 then bI (memOff (fun q => (fun K => hC ck cf cd nF (nI K) (nI f)) (k / 4 * 40 + p * 4 + q)) cd cv = true) else 0)) k + _); exact af_step ey (bI_t c_41) hb0) hP hD hS _ (lv_sub hl [0, 2, 1, 3, 4, 5] rfl)
                · skip
                  have hk4 : k % 4 = 0 := (nI_eq (b := 0) (by omega) (by decide)).mp c_56
                  refine lv_aload_n hx hb dL_areFaults_59 rfl (lv_at hl 5 rfl) ?_
                  refine lv_iload hx hb dL_areFaults_60 (lv_at hl 1 rfl) ?_
                  refine lv_iconst (v := 4) hx hb dL_areFaults_62 (by decide) ?_
                  refine lv_idiv hx hb dL_areFaults_63 (by decide) ?_
                  refine lv_topi (fun dv edv => ?_)
                  obtain rfl : dv = nI (k / 4) := by rw [edv]; exact pk_div (a := k) (d := 4) (by omega) (by omega) (by omega)
                  refine lv_iload hx hb dL_areFaults_64 (lv_at hl 2 rfl) ?_
                  refine lv_iload_n hx hb dL_areFaults_66 rfl (lv_at hl 3 rfl) ?_
                  refine va_calli (va_runV (As := [.int (nI (k / 4)), .int (nI p), .int (nI f)]) (rest := [.int (y3 + 1)]) ⟨hx, hb, hml, hown, hts⟩ (m4_areMembersOff l D cI cZ cO cL dt A a FA nC nR nL nF par wt (fun r => nI (sk r)) (fun r => nI (fk r)) hd rea sig ck cf cd cv nx (LR cI pb rb cb pv rv kv) (k / 4) p f hlt hF hC12 hck hcf hcd hcv hwt hCh hL8 (by omega) (by omega) hf) (cwV 3 hts gL_areFaults_X4_areMembersOff rfl rfl rfl (by decide +kernel) ⟨(Nat.le_of_ble_eq_true rfl), (Nat.le_of_ble_eq_true rfl)⟩) (gP.v (hg.on hS) hP 3 rfl 0 rfl (⟨hP, hD⟩)) rfl rfl hl.1 rfl (lv_room (Nat.le_of_ble_eq_true rfl)) dL_areFaults_67 ⟨by show 328 * p + 6 * k + 3 + 3 ≤ 3300; omega, by show 1968 * p + 36 * k + 18 + 18 ≤ 19800; omega⟩) hS (fun q _ h => h) (fun q h => h) (fun r_6 ur_6 tr_6 H locs htr_6 hvmr_6 hr_6 hB hzr_6 hkr_6 hS => ?_)
                  rw [htr_6] at hB
                  obtain ⟨hP, hD⟩ := hB
                  refine W.widen (k := 328 * p + 6 * k + 6) (n := 1968 * p + 36 * k + 36) (by omega) (by omega) ?_
                  have hP : va_P D vwCl (WD cI cO a FA nC nR nL nF par wt (fun r => nI (sk r)) (fun r => nI (fk r)) hd rea sig ++ (WF FA ck cf cd cv nx nF ++ (LR cI pb rb cb pv rv kv))) H := hP
                  have hD : va_D A (WD cI cO a FA nC nR nL nF par wt (fun r => nI (sk r)) (fun r => nI (fk r)) hd rea sig ++ (WF FA ck cf cd cv nx nF ++ (LR cI pb rb cb pv rv kv))) := hD
                  obtain rfl : r_6 = bI (memOff (fun q => hC ck cf cd nF (nI (k / 4 * 40 + p * 4 + q)) (nI f)) cd cv = true) := hr_6
                  refine lv_if_eq (tgt := 77) hx hb dL_areFaults_70 (by decide) (fun c_70 => ?_) (fun c_70 => ?_)
                  · skip
                    have c_70 := bI_z c_70
                    have hb0 : (0 : Int32) = (if k % 4 = 0 then bI (memOff (fun q => hC ck cf cd nF (nI (k / 4 * 40 + p * 4 + q)) (nI f)) cd cv = true) else 0) := (bI_f c_70).trans (if_pos hk4).symm
                    refine lv_iconst (v := 0) hx hb dL_areFaults_77 (by decide) ?_
                    refine lv_iadd hx hb dL_areFaults_78 ?_
                    refine lv_istore_n (lv' := [(3, .int ((y3 + 1) + 0)), (5, .int (nI k)), (4, .int (nI p)), (2, .int (nI f)), (1, .ref cb), (0, .ref (a 0))]) hx hb dL_areFaults_79 rfl hl (by decide) rfl (fun ls hl => ?_)
                    refine lv_iinc (v := nI (k + 1)) (lv' := [(5, .int (nI (k + 1))), (3, .int ((y3 + 1) + 0)), (4, .int (nI p)), (2, .int (nI f)), (1, .ref cb), (0, .ref (a 0))]) hx hb dL_areFaults_80 hl (k := 1) rfl (nI_1 k) (by decide) rfl (fun ls hl => ?_)
                    refine lv_goto (tgt := 15) hx hb dL_areFaults_83 (by decide) ?_
                    refine W.widen (k := 328 * p + 6 * (k + 1) + 0) (n := 1968 * p + 36 * (k + 1) + 0) (by omega) (by omega) ?_
                    exact ih_l1 (k + 1) ((y3 + 1) + 0) _ _ (by omega) (by omega) (by show _ = sT (afO nC nR par wt sk fk (fun K => hC ck cf cd nF (nI K) (nI f)) cd cv) p + (sT (fun k => bI (sumOff nC par wt (fun j => (fun K => hC ck cf cd nF (nI K) (nI f)) (j * 40 + p * 4 + k % 4)) cd cv (nI (k / 4)) ((fun K => hC ck cf cd nF (nI K) (nI f)) (k / 4 * 40 + p * 4 + k % 4)) = true) + (if k % 4 = 0 then bI (memOff (fun q => (fun K => hC ck cf cd nF (nI K) (nI f)) (k / 4 * 40 + p * 4 + q)) cd cv = true) else 0)) k + _); exact af_step ey (bI_t c_41) hb0) hP hD hS _ (lv_sub hl [0, 2, 1, 3, 4, 5] rfl)
                  · skip
                    have c_70 := bI_n c_70
                    refine lv_iconst (v := 1) hx hb dL_areFaults_73 (by decide) ?_
                    refine lv_goto (tgt := 78) hx hb dL_areFaults_74 (by decide) ?_
                    refine lv_iadd hx hb dL_areFaults_78 ?_
                    refine lv_istore_n (lv' := [(3, .int ((y3 + 1) + 1)), (5, .int (nI k)), (4, .int (nI p)), (2, .int (nI f)), (1, .ref cb), (0, .ref (a 0))]) hx hb dL_areFaults_79 rfl hl (by decide) rfl (fun ls hl => ?_)
                    refine lv_iinc (v := nI (k + 1)) (lv' := [(5, .int (nI (k + 1))), (3, .int ((y3 + 1) + 1)), (4, .int (nI p)), (2, .int (nI f)), (1, .ref cb), (0, .ref (a 0))]) hx hb dL_areFaults_80 hl (k := 1) rfl (nI_1 k) (by decide) rfl (fun ls hl => ?_)
                    refine lv_goto (tgt := 15) hx hb dL_areFaults_83 (by decide) ?_
                    refine W.widen (k := 328 * p + 6 * (k + 1) + 0) (n := 1968 * p + 36 * (k + 1) + 0) (by omega) (by omega) ?_
                    exact ih_l1 (k + 1) ((y3 + 1) + 1) _ _ (by omega) (by omega) (by show _ = sT (afO nC nR par wt sk fk (fun K => hC ck cf cd nF (nI K) (nI f)) cd cv) p + (sT (fun k => bI (sumOff nC par wt (fun j => (fun K => hC ck cf cd nF (nI K) (nI f)) (j * 40 + p * 4 + k % 4)) cd cv (nI (k / 4)) ((fun K => hC ck cf cd nF (nI K) (nI f)) (k / 4 * 40 + p * 4 + k % 4)) = true) + (if k % 4 = 0 then bI (memOff (fun q => (fun K => hC ck cf cd nF (nI K) (nI f)) (k / 4 * 40 + p * 4 + q)) cd cv = true) else 0)) k + _); exact af_step ey (bI_t c_41) ((bI_t c_70).trans (if_pos hk4).symm)) hP hD hS _ (lv_sub hl [0, 2, 1, 3, 4, 5] rfl)
        exact l1 ((4 * nC) + 1) 0 x3 _ _ (by omega) (by omega) (by rw [e3]; exact (Int32.add_zero _).symm) hP hD hS _ (lv_sub hl [0, 1, 2, 3, 4, 5] rfl)
  exact lo (10 + 1) 0 0 _ _ (by omega) (by omega) rfl hP hD hS _ (lv_sub hl [0, 1, 4, 3, 2] rfl)
