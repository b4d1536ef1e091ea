set_option maxHeartbeats 4000000 in
set_option maxRecDepth 100000 in
/-- a fact is told -/
theorem kL_tells (l : Launch) (D : va_G) (cI cZ cO cL : ClassId) (dt : Nat) (A : Nat → Prop) (a FA : Nat → Nat) (nC nR nL nF : Nat) (par wt : Nat → Int32) (sk fk : Nat → Nat) (hd : Nat → Option Nat) (rea sig : Nat → Int32) (ck cf cd : Nat → Nat) (cv : Nat → Int32) (nx : Nat → Option Nat) (pb rb cb : Nat) (pv rv kv : Nat → Int32) (L : List Nat) (x y : Nat) (hlt : l.stackTraces = false) (hOk : sOk nC nR nL nF par wt sk fk hd ck cf cd cv nx L) (hpk : pOk nC par wt pv) (hrk : rOk2 nR sk fk rv) (hkk : kOk nC nR nL nF kv) (hxb : x < 1073741824) (hyb : y < 1073741824) (hC0 : 0 < nC) : Met l yL_tells wsL_tells ({ frames := 11, cells := 30, slots := 180, locals := 209 } : Room) (gP D cI cZ cO cL dt A [.ref (a 0), .int (nI x), .int (nI y), .ref cb] (fun H => va_P D vwCl (WD cI cO a FA nC nR nL nF par wt (fun r => nI (sk r)) (fun r => nI (fk r)) hd rea sig ++ (WF FA ck cf cd cv nx nF ++ (LR cI pb rb cb pv rv kv))) H ∧ va_D A (WD cI cO a FA nC nR nL nF par wt (fun r => nI (sk r)) (fun r => nI (fk r)) hd rea sig ++ (WF FA ck cf cd cv nx nF ++ (LR cI pb rb cb pv rv kv))))) (va_Qi (fun (r : Int32) (_ : Unit) => r = 1) (fun _ t => lI D cI cO A a pb rb cb 1 t.heap) A) 30 180 A := by
  refine Met.ofW (cc := cL_tells) (maxL := 17) (ret := (some .boolean)) (by decide) rfl ?_
  intro p9 e9 s m9 args below meth c9 s₁ B hml hv
  obtain ⟨rfl, hg, hP, hD⟩ := hv
  have hx := B.exec
  have hb := B.bytes
  have hr := B.returns
  have hts := atoms_spec (ws := wsL_tells) B.pre
  have hown : s.vm.findClass RL = some m9.cls := findClass_of_methodNamed B.named
  have hlocks := B.notSynchronized
  have hK := hg.1
  have hS : va_S A s.heap s.heap [] := va_S.rf
  obtain ⟨⟨hC12, hR5, hL8, hF⟩, ⟨hT, hwt⟩, ⟨hsk12, hfk12, hskC⟩, ⟨hCh, hH, hN, hfL⟩, hck, hcf8, hcd, hcv, hckC⟩ := id hOk
  have hcf : ∀ k, cf k < 2 ^ 31 := fun k => by have := hcf8 k; omega
  obtain ⟨hk0, hk1, hk2, hk3⟩ := id hkk
  have w_0 := hts (.constant RL 81 (2000001)) (by decide +kernel)
  have w_1 := hts (.constant RL 82 (1000000)) (by decide +kernel)
  have hl := lv_entry ([.ref (a 0), .int (nI x), .int (nI y), .ref cb]) (n := 17) (Nat.le_of_ble_eq_true rfl)
  rw [lg_entry_eq]
  generalize (lg_sl ([.ref (a 0), .int (nI x), .int (nI y), .ref cb]) ++ List.replicate (17 - (lg_sl ([.ref (a 0), .int (nI x), .int (nI y), .ref cb])).length) Slot.unset).toArray = ls at hl ⊢
  have hl : lv_has ls 17 [(0, .ref (a 0)), (1, .int (nI x)), (2, .int (nI y)), (3, .ref cb)] := hl
  refine lv_aload_n hx hb dL_tells_0 rfl (lv_at hl 3 rfl) ?_
  refine lv_iconst (v := 3) hx hb dL_tells_1 (by decide) ?_
  refine g_iald hx hb hK hP (11 + nF + 2) 0 (n := 4) (f := kv) (WDRj 2 rfl) rfl 3 rfl (by omega) (by decide) dL_tells_2 ?_
  refine lv_topi (fun dv edv => ?_)
  obtain rfl : dv = nI nF := by rw [edv]; exact hk3
  refine lv_bipush (v := 80) hx hb dL_tells_3 (by decide) ?_
  refine lv_icmp_ne (tgt := 10) hx hb dL_tells_5 (by decide) (fun c_5 => ?_) (fun c_5 => ?_)
  · skip
    have h80 : nF < 80 := by have : ¬ nF = 80 := fun z => c_5 (by rw [z]; rfl); omega
    refine lv_iload_n hx hb dL_tells_10 rfl (lv_at hl 1 rfl) ?_
    refine lv_aload_n hx hb dL_tells_11 rfl (lv_at hl 3 rfl) ?_
    refine lv_iconst (v := 0) hx hb dL_tells_12 (by decide) ?_
    refine g_iald hx hb hK hP (11 + nF + 2) 0 (n := 4) (f := kv) (WDRj 2 rfl) rfl 0 rfl (by omega) (by decide) dL_tells_13 ?_
    refine lv_topi (fun dv edv => ?_)
    obtain rfl : dv = nI nC := by rw [edv]; exact hk0
    refine lv_irem hx hb dL_tells_14 (nI_ne0 (by omega) (by omega)) ?_
    refine lv_topi (fun dv edv => ?_)
    obtain ⟨c1, hc1, ec1, rfl⟩ : ∃ z : Nat, z < nC ∧ z = x % nC ∧ dv = nI z := ⟨x % nC, Nat.mod_lt _ (by omega), rfl, by rw [edv]; exact pk_rem (a := x) (d := nC) (by omega) (by omega) (by omega)⟩
    refine lv_istore (lv' := [(4, .int (nI c1)), (0, .ref (a 0)), (1, .int (nI x)), (2, .int (nI y)), (3, .ref cb)]) hx hb dL_tells_15 hl (by decide) rfl (fun ls hl => ?_)
    refine lv_iload_n hx hb dL_tells_17 rfl (lv_at hl 2 rfl) ?_
    refine lv_bipush (v := 12) hx hb dL_tells_18 (by decide) ?_
    refine lv_idiv hx hb dL_tells_20 (by decide) ?_
    refine lv_topi (fun dv edv => ?_)
    obtain rfl : dv = nI (x / 12) := by rw [edv]; exact pk_div (a := x) (d := 12) (by omega) (by omega) (by omega)
    refine lv_iconst (v := 4) hx hb dL_tells_21 (by decide) ?_
    refine lv_irem hx hb dL_tells_22 (by decide) ?_
    refine lv_topi (fun dv edv => ?_)
    obtain ⟨p1, hp1, ep1, rfl⟩ : ∃ z : Nat, z < 4 ∧ z = (x / 12) % 4 ∧ dv = nI z := ⟨(x / 12) % 4, Nat.mod_lt _ (by omega), rfl, by rw [edv]; exact pk_rem (a := (x / 12)) (d := 4) (by omega) (by omega) (by omega)⟩
    refine lv_istore (lv' := [(5, .int (nI p1)), (4, .int (nI c1)), (0, .ref (a 0)), (1, .int (nI x)), (2, .int (nI y)), (3, .ref cb)]) hx hb dL_tells_23 hl (by decide) rfl (fun ls hl => ?_)
    refine lv_iload_n hx hb dL_tells_25 rfl (lv_at hl 3 rfl) ?_
    refine lv_bipush (v := 48) hx hb dL_tells_26 (by decide) ?_
    refine lv_idiv hx hb dL_tells_28 (by decide) ?_
    refine lv_topi (fun dv edv => ?_)
    obtain rfl : dv = nI (x / 48) := by rw [edv]; exact pk_div (a := x) (d := 48) (by omega) (by omega) (by omega)
    refine lv_iconst (v := 4) hx hb dL_tells_29 (by decide) ?_
    refine lv_irem hx hb dL_tells_30 (by decide) ?_
    refine lv_topi (fun dv edv => ?_)
    obtain ⟨m1, hm1, em1, rfl⟩ : ∃ z : Nat, z < 4 ∧ z = (x / 48) % 4 ∧ dv = nI z := ⟨(x / 48) % 4, Nat.mod_lt _ (by omega), rfl, by rw [edv]; exact pk_rem (a := (x / 48)) (d := 4) (by omega) (by omega) (by omega)⟩
    refine lv_istore (lv' := [(6, .int (nI m1)), (5, .int (nI p1)), (4, .int (nI c1)), (0, .ref (a 0)), (1, .int (nI x)), (2, .int (nI y)), (3, .ref cb)]) hx hb dL_tells_31 hl (by decide) rfl (fun ls hl => ?_)
    have jn_33 : ∀ (vi : Int32), ((-1000000) ≤ vi ∧ vi ≤ (1000000)) → ∀ ls : Array Slot, lv_has ls 17 [(6, .int (nI m1)), (5, .int (nI p1)), (4, .int (nI c1)), (0, .ref (a 0)), (1, .int (nI x)), (2, .int (nI y)), (3, .ref cb)] → W p9 l e9 (headSpec wsL_tells ({ frames := 11, cells := 30, slots := 180, locals := 209 } : Room)).room s m9 ([.ref (a 0), .int (nI x), .int (nI y), .ref cb] : List Value).toArray below meth c9 s.heap [] (0) (0) (MQ below (va_Qi (fun (r : Int32) (_ : Unit) => r = 1) (fun _ t => lI D cI cO A a pb rb cb 1 t.heap) A) ([.ref (a 0), .int (nI x), .int (nI y), .ref cb] : List Value).toArray s 30 180 A) (F0 m9 60 ls [.int vi]) := by
      intro vi hjn ls hl
      have hvi := hjn
      refine lv_istore (lv' := [(7, .int vi), (6, .int (nI m1)), (5, .int (nI p1)), (4, .int (nI c1)), (0, .ref (a 0)), (1, .int (nI x)), (2, .int (nI y)), (3, .ref cb)]) hx hb dL_tells_60 hl (by decide) rfl (fun ls hl => ?_)
      have jn_62 : ∀ (di : Int32), (∃ d : Nat, di = nI d ∧ d ≤ 4) → ∀ ls : Array Slot, lv_has ls 17 [(7, .int vi), (6, .int (nI m1)), (5, .int (nI p1)), (4, .int (nI c1)), (0, .ref (a 0)), (1, .int (nI x)), (2, .int (nI y)), (3, .ref cb)] → W p9 l e9 (headSpec wsL_tells ({ frames := 11, cells := 30, slots := 180, locals := 209 } : Room)).room s m9 ([.ref (a 0), .int (nI x), .int (nI y), .ref cb] : List Value).toArray below meth c9 s.heap [] (0) (0) (MQ below (va_Qi (fun (r : Int32) (_ : Unit) => r = 1) (fun _ t => lI D cI cO A a pb rb cb 1 t.heap) A) ([.ref (a 0), .int (nI x), .int (nI y), .ref cb] : List Value).toArray s 30 180 A) (F0 m9 81 ls [.int di]) := by
        intro di hjn ls hl
        obtain ⟨d, rfl, hd4⟩ := hjn
        refine lv_istore (lv' := [(8, .int (nI d)), (7, .int vi), (6, .int (nI m1)), (5, .int (nI p1)), (4, .int (nI c1)), (0, .ref (a 0)), (1, .int (nI x)), (2, .int (nI y)), (3, .ref cb)]) hx hb dL_tells_81 hl (by decide) rfl (fun ls hl => ?_)
        refine lv_aload_n hx hb dL_tells_83 rfl (lv_at hl 8 rfl) ?_
        refine lv_iconst (v := 2) hx hb dL_tells_84 (by decide) ?_
        refine g_iald hx hb hK hP (11 + nF + 2) 0 (n := 4) (f := kv) (WDRj 2 rfl) rfl 2 rfl (by omega) (by decide) dL_tells_85 ?_
        refine lv_topi (fun dv edv => ?_)
        obtain rfl : dv = nI (nL + 1) := by rw [edv]; exact hk2
        refine lv_iconst (v := 1) hx hb dL_tells_86 (by decide) ?_
        refine lv_isub hx hb dL_tells_87 ?_
        refine lv_topi (fun dv edv => ?_)
        obtain rfl : dv = nI nL := by rw [edv]; exact nI_pred nL
        refine lv_istore (lv' := [(9, .int (nI nL)), (8, .int (nI d)), (7, .int vi), (6, .int (nI m1)), (5, .int (nI p1)), (4, .int (nI c1)), (0, .ref (a 0)), (1, .int (nI x)), (2, .int (nI y)), (3, .ref cb)]) hx hb dL_tells_88 hl (by decide) rfl (fun ls hl => ?_)
        have jn_90 : ∀ (dd : Int32), (dd = nI (10 ^ d)) → ∀ ls : Array Slot, lv_has ls 17 [(9, .int (nI nL)), (8, .int (nI d)), (7, .int vi), (6, .int (nI m1)), (5, .int (nI p1)), (4, .int (nI c1)), (0, .ref (a 0)), (1, .int (nI x)), (2, .int (nI y)), (3, .ref cb)] → W p9 l e9 (headSpec wsL_tells ({ frames := 11, cells := 30, slots := 180, locals := 209 } : Room)).room s m9 ([.ref (a 0), .int (nI x), .int (nI y), .ref cb] : List Value).toArray below meth c9 s.heap [] (0) (0) (MQ below (va_Qi (fun (r : Int32) (_ : Unit) => r = 1) (fun _ t => lI D cI cO A a pb rb cb 1 t.heap) A) ([.ref (a 0), .int (nI x), .int (nI y), .ref cb] : List Value).toArray s 30 180 A) (F0 m9 136 ls [.int dd]) := by
          intro dd hjn ls hl
          subst hjn
          refine lv_istore (lv' := [(10, .int (nI (10 ^ d))), (9, .int (nI nL)), (8, .int (nI d)), (7, .int vi), (6, .int (nI m1)), (5, .int (nI p1)), (4, .int (nI c1)), (0, .ref (a 0)), (1, .int (nI x)), (2, .int (nI y)), (3, .ref cb)]) hx hb dL_tells_136 hl (by decide) rfl (fun ls hl => ?_)
          refine lv_aload_n hx hb dL_tells_138 rfl (lv_at hl 7 rfl) ?_
          refine lv_iconst (v := 0) hx hb dL_tells_139 (by decide) ?_
          refine lv_iload hx hb dL_tells_140 (lv_at hl 6 rfl) ?_
          refine lv_iload hx hb dL_tells_142 (lv_at hl 5 rfl) ?_
          refine lv_iload hx hb dL_tells_144 (lv_at hl 4 rfl) ?_
          refine lv_iload hx hb dL_tells_146 (lv_at hl 1 rfl) ?_
          refine va_calli (vx_runSW (hh := [(0, 27, 28, 19)]) (As := [.ref (a 0), .int 0, .int (nI c1), .int (nI p1), .int (nI m1), .int (nI nL)]) (rest := []) ⟨hx, hb, hml, hown, hts⟩ (kL_held l D cI cZ cO cL dt A a FA nC nR nL nF par wt sk fk hd rea sig ck cf cd cv nx pb rb cb pv rv kv L c1 p1 m1 nL hlt hOk (by omega) (by omega) (by omega) (by omega)) (vx_cwSW 6 hts gL_tells_L_held rfl rfl rfl (by decide +kernel) ⟨(Nat.le_of_ble_eq_true rfl), (Nat.le_of_ble_eq_true rfl)⟩) (gP.s (hg.on hS) (⟨hP, hD⟩)) rfl rfl hl.1 rfl (lv_room (Nat.le_of_ble_eq_true rfl)) dL_tells_148 ⟨(Nat.le_of_ble_eq_true rfl), (Nat.le_of_ble_eq_true rfl)⟩) hS (fun q _ h => h) (fun q h => h) (fun r_1 ur_1 tr_1 H locs htr_1 hvmr_1 hr_1 hB hzr_1 hkr_1 hS => ?_)
          rw [htr_1] at hB
          obtain ⟨hP, hD⟩ := hB
          refine W.widen (k := 4) (n := 24) (Nat.le_of_ble_eq_true rfl) (Nat.le_of_ble_eq_true rfl) ?_
          have hP : va_P D vwCl (WD cI cO a FA nC nR nL nF par wt (fun r => nI (sk r)) (fun r => nI (fk r)) hd rea sig ++ (WF FA ck cf cd cv nx nF ++ (LR cI pb rb cb pv rv kv))) H := hP
          have hD : va_D A (WD cI cO a FA nC nR nL nF par wt (fun r => nI (sk r)) (fun r => nI (fk r)) hd rea sig ++ (WF FA ck cf cd cv nx nF ++ (LR cI pb rb cb pv rv kv))) := hD
          obtain rfl : r_1 = hv cv (hC ck cf cd nF (nI (c1 * 40 + p1 * 4 + m1)) (nI nL)) := hr_1
          refine lv_istore (lv' := [(11, .int (hv cv (hC ck cf cd nF (nI (c1 * 40 + p1 * 4 + m1)) (nI nL)))), (10, .int (nI (10 ^ d))), (9, .int (nI nL)), (8, .int (nI d)), (7, .int vi), (6, .int (nI m1)), (5, .int (nI p1)), (4, .int (nI c1)), (0, .ref (a 0)), (1, .int (nI x)), (2, .int (nI y)), (3, .ref cb)]) hx hb dL_tells_151 hl (by decide) rfl (fun ls hl => ?_)
          refine lv_iload hx hb dL_tells_153 (lv_at hl 2 rfl) ?_
          refine lv_if_ne (tgt := 162) hx hb dL_tells_155 (by decide) (fun c_155 => ?_) (fun c_155 => ?_)
          · skip
            have hz : 0 < nL := Nat.pos_of_ne_zero (fun z => c_155 (by rw [z]; rfl))
            refine lv_aload_n hx hb dL_tells_162 rfl (lv_at hl 8 rfl) ?_
            refine lv_iconst (v := 0) hx hb dL_tells_163 (by decide) ?_
            refine lv_iload hx hb dL_tells_164 (lv_at hl 7 rfl) ?_
            refine lv_iload hx hb dL_tells_166 (lv_at hl 6 rfl) ?_
            refine lv_iload hx hb dL_tells_168 (lv_at hl 5 rfl) ?_
            refine lv_iload hx hb dL_tells_170 (lv_at hl 2 rfl) ?_
            refine lv_iconst (v := 1) hx hb dL_tells_172 (by decide) ?_
            refine lv_isub hx hb dL_tells_173 ?_
            refine lv_topi (fun dv edv => ?_)
            obtain rfl : dv = nI (nL - 1) := by rw [edv]; exact nI_sub1 (by omega)
            refine va_calli (vx_runSW (hh := [(0, 27, 28, 19)]) (As := [.ref (a 0), .int 0, .int (nI c1), .int (nI p1), .int (nI m1), .int (nI (nL - 1))]) (rest := []) ⟨hx, hb, hml, hown, hts⟩ (kL_held l D cI cZ cO cL dt A a FA nC nR nL nF par wt sk fk hd rea sig ck cf cd cv nx pb rb cb pv rv kv L c1 p1 m1 (nL - 1) hlt hOk (by omega) (by omega) (by omega) (by omega)) (vx_cwSW 6 hts gL_tells_L_held rfl rfl rfl (by decide +kernel) ⟨(Nat.le_of_ble_eq_true rfl), (Nat.le_of_ble_eq_true rfl)⟩) (gP.s (hg.on hS) (⟨hP, hD⟩)) rfl rfl hl.1 rfl (lv_room (Nat.le_of_ble_eq_true rfl)) dL_tells_174 ⟨(Nat.le_of_ble_eq_true rfl), (Nat.le_of_ble_eq_true rfl)⟩) hS (fun q _ h => h) (fun q h => h) (fun r_2 ur_2 tr_2 H locs htr_2 hvmr_2 hr_2 hB hzr_2 hkr_2 hS => ?_)
            rw [htr_2] at hB
            obtain ⟨hP, hD⟩ := hB
            refine W.widen (k := 8) (n := 48) (Nat.le_of_ble_eq_true rfl) (Nat.le_of_ble_eq_true rfl) ?_
            have hP : va_P D vwCl (WD cI cO a FA nC nR nL nF par wt (fun r => nI (sk r)) (fun r => nI (fk r)) hd rea sig ++ (WF FA ck cf cd cv nx nF ++ (LR cI pb rb cb pv rv kv))) H := hP
            have hD : va_D A (WD cI cO a FA nC nR nL nF par wt (fun r => nI (sk r)) (fun r => nI (fk r)) hd rea sig ++ (WF FA ck cf cd cv nx nF ++ (LR cI pb rb cb pv rv kv))) := hD
            obtain rfl : r_2 = hv cv (hC ck cf cd nF (nI (c1 * 40 + p1 * 4 + m1)) (nI (nL - 1))) := hr_2
            refine lv_istore (lv' := [(12, .int (hv cv (hC ck cf cd nF (nI (c1 * 40 + p1 * 4 + m1)) (nI (nL - 1))))), (11, .int (hv cv (hC ck cf cd nF (nI (c1 * 40 + p1 * 4 + m1)) (nI nL)))), (10, .int (nI (10 ^ d))), (9, .int (nI nL)), (8, .int (nI d)), (7, .int vi), (6, .int (nI m1)), (5, .int (nI p1)), (4, .int (nI c1)), (0, .ref (a 0)), (1, .int (nI x)), (2, .int (nI y)), (3, .ref cb)]) hx hb dL_tells_177 hl (by decide) rfl (fun ls hl => ?_)
            refine lv_aload_n hx hb dL_tells_179 rfl (lv_at hl 9 rfl) ?_
            refine lv_iload hx hb dL_tells_180 (lv_at hl 3 rfl) ?_
            refine va_calli (va_runV (As := [.int (nI nL)]) (rest := []) ⟨hx, hb, hml, hown, hts⟩ (m4_disagreements l D cI cZ cO cL dt A a FA nC nR nL nF par wt (fun r => nI (sk r)) (fun r => nI (fk r)) hd rea sig ck cf cd cv nx (LR cI pb rb cb pv rv kv) nL hlt hF hC12 hck hcf hcd hcv hwt hCh hL8 (by omega)) (cwV 1 hts gL_tells_X4_disagreements rfl rfl rfl (by decide +kernel) ⟨(Nat.le_of_ble_eq_true rfl), (Nat.le_of_ble_eq_true rfl)⟩) (gP.v (hg.on hS) hP 3 rfl 0 rfl (⟨hP, hD⟩)) rfl rfl hl.1 rfl (lv_room (Nat.le_of_ble_eq_true rfl)) dL_tells_182 ⟨(Nat.le_of_ble_eq_true rfl), (Nat.le_of_ble_eq_true rfl)⟩) hS (fun q _ h => h) (fun q h => h) (fun r_3 ur_3 tr_3 H locs htr_3 hvmr_3 hr_3 hB hzr_3 hkr_3 hS => ?_)
            rw [htr_3] at hB
            obtain ⟨hP, hD⟩ := hB
            refine W.widen (k := 9) (n := 54) (Nat.le_of_ble_eq_true rfl) (Nat.le_of_ble_eq_true rfl) ?_
            have hP : va_P D vwCl (WD cI cO a FA nC nR nL nF par wt (fun r => nI (sk r)) (fun r => nI (fk r)) hd rea sig ++ (WF FA ck cf cd cv nx nF ++ (LR cI pb rb cb pv rv kv))) H := hP
            have hD : va_D A (WD cI cO a FA nC nR nL nF par wt (fun r => nI (sk r)) (fun r => nI (fk r)) hd rea sig ++ (WF FA ck cf cd cv nx nF ++ (LR cI pb rb cb pv rv kv))) := hD
            obtain rfl : r_3 = disT ck cf cd cv nF nL := hr_3
            refine lv_istore (lv' := [(13, .int (disT ck cf cd cv nF nL)), (12, .int (hv cv (hC ck cf cd nF (nI (c1 * 40 + p1 * 4 + m1)) (nI (nL - 1))))), (11, .int (hv cv (hC ck cf cd nF (nI (c1 * 40 + p1 * 4 + m1)) (nI nL)))), (10, .int (nI (10 ^ d))), (9, .int (nI nL)), (8, .int (nI d)), (7, .int vi), (6, .int (nI m1)), (5, .int (nI p1)), (4, .int (nI c1)), (0, .ref (a 0)), (1, .int (nI x)), (2, .int (nI y)), (3, .ref cb)]) hx hb dL_tells_185 hl (by decide) rfl (fun ls hl => ?_)
            refine lv_aload_n hx hb dL_tells_187 rfl (lv_at hl 13 rfl) ?_
            refine lv_iconst (v := 3) hx hb dL_tells_188 (by decide) ?_
            refine lv_dup2_11 hx hb dL_tells_189 rfl rfl ?_
            refine g_iald hx hb hK hP (11 + nF + 2) 0 (n := 4) (f := kv) (WDRj 2 rfl) rfl 3 rfl (by omega) (by decide) dL_tells_190 ?_
            refine lv_topi (fun dv edv => ?_)
            obtain rfl : dv = nI nF := by rw [edv]; exact hk3
            refine lv_iconst (v := 1) hx hb dL_tells_191 (by decide) ?_
            refine lv_iadd hx hb dL_tells_192 ?_
            refine lv_topi (fun dv edv => ?_)
            obtain rfl : dv = nI (nF + 1) := by rw [edv]; exact nI_add nF 1
            refine g_iast hx hb hK hP hD hS (11 + nF + 2) 0 (n := 4) (f := kv) (WDRj 2 rfl) rfl 3 rfl (by omega) (by decide) dL_tells_193 (WD cI cO a FA nC nR nL nF par wt (fun r => nI (sk r)) (fun r => nI (fk r)) hd rea sig ++ (WF FA ck cf cd cv nx nF ++ (LR cI pb rb cb pv rv (upd kv 3 (nI (nF + 1)))))) (WDRs 2 rfl) (fun H locs hP hD hS => ?_)
            have hP : va_P D vwCl (WD cI cO a FA nC nR nL nF par wt (fun r => nI (sk r)) (fun r => nI (fk r)) hd rea sig ++ (WF FA ck cf cd cv nx nF ++ (LR cI pb rb cb pv rv (upd kv 3 (nI (nF + 1)))))) H := hP
            have hD : va_D A (WD cI cO a FA nC nR nL nF par wt (fun r => nI (sk r)) (fun r => nI (fk r)) hd rea sig ++ (WF FA ck cf cd cv nx nF ++ (LR cI pb rb cb pv rv (upd kv 3 (nI (nF + 1)))))) := hD
            refine lv_aload_n hx hb dL_tells_194 rfl (lv_at hl 10 rfl) ?_
            refine lv_iload hx hb dL_tells_195 (lv_at hl 9 rfl) ?_
            refine lv_iload hx hb dL_tells_197 (lv_at hl 8 rfl) ?_
            refine lv_iload hx hb dL_tells_199 (lv_at hl 7 rfl) ?_
            refine lv_iload hx hb dL_tells_201 (lv_at hl 6 rfl) ?_
            refine lv_iload hx hb dL_tells_203 (lv_at hl 5 rfl) ?_
            refine va_calli (va_runV (As := [.int (nI c1), .int (nI p1), .int (nI m1), .int vi, .int (nI d)]) (rest := []) ⟨hx, hb, hml, hown, hts⟩ (m4_tell l D cI cZ cO cL dt A a FA nC nR nL nF par wt (fun r => nI (sk r)) (fun r => nI (fk r)) hd rea sig ck cf cd cv nx (LR cI pb rb cb pv rv (upd kv 3 (nI (nF + 1)))) c1 p1 m1 d vi hlt hC12 hL8 hF hcf hcd hCh hH hN hc1 (by omega) (by omega) hvi hd4 h80) (cwV 5 hts gL_tells_X4_tell rfl rfl rfl (by decide +kernel) ⟨(Nat.le_of_ble_eq_true rfl), (Nat.le_of_ble_eq_true rfl)⟩) (gP.v (hg.on hS) hP 3 rfl 0 rfl (⟨hP, hD⟩)) rfl rfl hl.1 rfl (lv_room (Nat.le_of_ble_eq_true rfl)) dL_tells_205 ⟨(Nat.le_of_ble_eq_true rfl), (Nat.le_of_ble_eq_true rfl)⟩) hS (fun q _ h => h) (fun q h => h) (fun r_4 ur_4 tr_4 H locs htr_4 hvmr_4 hr_4 hB hzr_4 hkr_4 hS => ?_)
            rw [htr_4] at hB
            obtain ⟨q1, q2, q3, q4, q5, q6⟩ := hr_4
            rw [q1, q2, q3] at q6 hB
            rw [q4] at q6 hB
            obtain ⟨hP, hD⟩ := hB
            refine W.widen (k := 13) (n := 77) (Nat.le_of_ble_eq_true rfl) (Nat.le_of_ble_eq_true rfl) ?_
            have hP : va_P D vwCl (WD cI cO a (va_up FA nF ur_4.2.1) nC nR nL (nF + 1) par wt (fun r => nI (sk r)) (fun r => nI (fk r)) ur_4.2.2.1 rea sig ++ (WF (va_up FA nF ur_4.2.1) (va_up ck nF (c1 * 40 + p1 * 4 + m1)) (va_up cf nF nL) (va_up cd nF d) (upd cv nF vi) ur_4.2.2.2 (nF + 1) ++ (LR cI pb rb cb pv rv (upd kv 3 (nI (nF + 1)))))) H := hP
            have hD : va_D A (WD cI cO a (va_up FA nF ur_4.2.1) nC nR nL (nF + 1) par wt (fun r => nI (sk r)) (fun r => nI (fk r)) ur_4.2.2.1 rea sig ++ (WF (va_up FA nF ur_4.2.1) (va_up ck nF (c1 * 40 + p1 * 4 + m1)) (va_up cf nF nL) (va_up cd nF d) (upd cv nF vi) ur_4.2.2.2 (nF + 1) ++ (LR cI pb rb cb pv rv (upd kv 3 (nI (nF + 1)))))) := hD
            obtain rfl : r_4 = nI (nF + 1) := q5
            have hOk9 := sOk_tell (c := c1) (p := p1) (m := m1) hOk hc1 (by omega) (by omega) hd4 hvi h80 q6
            obtain ⟨⟨-, -, -, hF9⟩, -, -, ⟨hCh9, -, -, -⟩, hck9, hcf89, hcd9, hcv9, -⟩ := id hOk9
            have hcf9 : ∀ k, (va_up cf nF nL) k < 2 ^ 31 := fun k => by have := hcf89 k; omega
            have hkk9 := kOk_3 hkk
            refine lv_aload_n hx hb dL_tells_208 rfl (lv_at hl 13 rfl) ?_
            refine lv_iconst (v := 3) hx hb dL_tells_209 (by decide) ?_
            refine g_iald hx hb hK hP (11 + (nF + 1) + 2) 0 (n := 4) (f := (upd kv 3 (nI (nF + 1)))) (WDRj 2 rfl) rfl 3 rfl (by omega) (by decide) dL_tells_210 ?_
            refine lv_topi (fun dv edv => ?_)
            obtain rfl : dv = nI (nF + 1) := by rw [edv]; exact upd_eq
            refine lv_icmp_ne (tgt := 218) hx hb dL_tells_211 (by decide) (fun c_211 => ?_) (fun c_211 => ?_)
            · skip
              exact absurd rfl c_211
            · skip
              refine lv_iconst (v := 1) hx hb dL_tells_214 (by decide) ?_
              refine lv_goto (tgt := 219) hx hb dL_tells_215 (by decide) ?_
              refine lv_istore (lv' := [(14, .int 1), (13, .int (disT ck cf cd cv nF nL)), (12, .int (hv cv (hC ck cf cd nF (nI (c1 * 40 + p1 * 4 + m1)) (nI (nL - 1))))), (11, .int (hv cv (hC ck cf cd nF (nI (c1 * 40 + p1 * 4 + m1)) (nI nL)))), (10, .int (nI (10 ^ d))), (9, .int (nI nL)), (8, .int (nI d)), (7, .int vi), (6, .int (nI m1)), (5, .int (nI p1)), (4, .int (nI c1)), (0, .ref (a 0)), (1, .int (nI x)), (2, .int (nI y)), (3, .ref cb)]) hx hb dL_tells_219 hl (by decide) rfl (fun ls hl => ?_)
              refine lv_aload_n hx hb dL_tells_221 rfl (lv_at hl 11 rfl) ?_
              refine lv_iconst (v := 0) hx hb dL_tells_222 (by decide) ?_
              refine lv_iload hx hb dL_tells_223 (lv_at hl 10 rfl) ?_
              refine lv_iload hx hb dL_tells_225 (lv_at hl 9 rfl) ?_
              refine lv_iload hx hb dL_tells_227 (lv_at hl 8 rfl) ?_
              refine lv_iload hx hb dL_tells_229 (lv_at hl 5 rfl) ?_
              refine va_calli (vx_runSW (hh := [(0, 27, 28, 19)]) (As := [.ref (a 0), .int 0, .int (nI c1), .int (nI p1), .int (nI m1), .int (nI nL)]) (rest := []) ⟨hx, hb, hml, hown, hts⟩ (kL_held l D cI cZ cO cL dt A a (va_up FA nF ur_4.2.1) nC nR nL (nF + 1) par wt sk fk ur_4.2.2.1 rea sig (va_up ck nF (c1 * 40 + p1 * 4 + m1)) (va_up cf nF nL) (va_up cd nF d) (upd cv nF vi) ur_4.2.2.2 pb rb cb pv rv (upd kv 3 (nI (nF + 1))) L c1 p1 m1 nL hlt hOk9 (by omega) (by omega) (by omega) (by omega)) (vx_cwSW 6 hts gL_tells_L_held rfl rfl rfl (by decide +kernel) ⟨(Nat.le_of_ble_eq_true rfl), (Nat.le_of_ble_eq_true rfl)⟩) (gP.s (hg.on hS) (⟨hP, hD⟩)) rfl rfl hl.1 rfl (lv_room (Nat.le_of_ble_eq_true rfl)) dL_tells_231 ⟨(Nat.le_of_ble_eq_true rfl), (Nat.le_of_ble_eq_true rfl)⟩) hS (fun q _ h => h) (fun q h => h) (fun r_5 ur_5 tr_5 H locs htr_5 hvmr_5 hr_5 hB hzr_5 hkr_5 hS => ?_)
              rw [htr_5] at hB
              obtain ⟨hP, hD⟩ := hB
              refine W.widen (k := 17) (n := 101) (Nat.le_of_ble_eq_true rfl) (Nat.le_of_ble_eq_true rfl) ?_
              have hP : va_P D vwCl (WD cI cO a (va_up FA nF ur_4.2.1) nC nR nL (nF + 1) par wt (fun r => nI (sk r)) (fun r => nI (fk r)) ur_4.2.2.1 rea sig ++ (WF (va_up FA nF ur_4.2.1) (va_up ck nF (c1 * 40 + p1 * 4 + m1)) (va_up cf nF nL) (va_up cd nF d) (upd cv nF vi) ur_4.2.2.2 (nF + 1) ++ (LR cI pb rb cb pv rv (upd kv 3 (nI (nF + 1)))))) H := hP
              have hD : va_D A (WD cI cO a (va_up FA nF ur_4.2.1) nC nR nL (nF + 1) par wt (fun r => nI (sk r)) (fun r => nI (fk r)) ur_4.2.2.1 rea sig ++ (WF (va_up FA nF ur_4.2.1) (va_up ck nF (c1 * 40 + p1 * 4 + m1)) (va_up cf nF nL) (va_up cd nF d) (upd cv nF vi) ur_4.2.2.2 (nF + 1) ++ (LR cI pb rb cb pv rv (upd kv 3 (nI (nF + 1)))))) := hD
              obtain rfl : r_5 = hv (upd cv nF vi) (hC (va_up ck nF (c1 * 40 + p1 * 4 + m1)) (va_up cf nF nL) (va_up cd nF d) (nF + 1) (nI (c1 * 40 + p1 * 4 + m1)) (nI nL)) := hr_5
              refine lv_istore (lv' := [(15, .int (hv (upd cv nF vi) (hC (va_up ck nF (c1 * 40 + p1 * 4 + m1)) (va_up cf nF nL) (va_up cd nF d) (nF + 1) (nI (c1 * 40 + p1 * 4 + m1)) (nI nL)))), (14, .int 1), (13, .int (disT ck cf cd cv nF nL)), (12, .int (hv cv (hC ck cf cd nF (nI (c1 * 40 + p1 * 4 + m1)) (nI (nL - 1))))), (11, .int (hv cv (hC ck cf cd nF (nI (c1 * 40 + p1 * 4 + m1)) (nI nL)))), (10, .int (nI (10 ^ d))), (9, .int (nI nL)), (8, .int (nI d)), (7, .int vi), (6, .int (nI m1)), (5, .int (nI p1)), (4, .int (nI c1)), (0, .ref (a 0)), (1, .int (nI x)), (2, .int (nI y)), (3, .ref cb)]) hx hb dL_tells_234 hl (by decide) rfl (fun ls hl => ?_)
              refine lv_aload_n hx hb dL_tells_236 rfl (lv_at hl 12 rfl) ?_
              refine lv_iconst (v := 1) hx hb dL_tells_237 (by decide) ?_
              refine lv_iload hx hb dL_tells_238 (lv_at hl 11 rfl) ?_
              refine lv_iload hx hb dL_tells_240 (lv_at hl 10 rfl) ?_
              refine lv_iload hx hb dL_tells_242 (lv_at hl 9 rfl) ?_
              refine lv_iload hx hb dL_tells_244 (lv_at hl 6 rfl) ?_
              refine va_calli (vx_runSW (hh := [(0, 27, 28, 19)]) (As := [.ref (a 0), .int 1, .int (nI c1), .int (nI p1), .int (nI m1), .int (nI nL)]) (rest := []) ⟨hx, hb, hml, hown, hts⟩ (kL_heldD l D cI cZ cO cL dt A a (va_up FA nF ur_4.2.1) nC nR nL (nF + 1) par wt sk fk ur_4.2.2.1 rea sig (va_up ck nF (c1 * 40 + p1 * 4 + m1)) (va_up cf nF nL) (va_up cd nF d) (upd cv nF vi) ur_4.2.2.2 pb rb cb pv rv (upd kv 3 (nI (nF + 1))) L c1 p1 m1 nL hlt hOk9 (by omega) (by omega) (by omega) (by omega)) (vx_cwSW 6 hts gL_tells_L_held rfl rfl rfl (by decide +kernel) ⟨(Nat.le_of_ble_eq_true rfl), (Nat.le_of_ble_eq_true rfl)⟩) (gP.s (hg.on hS) (⟨hP, hD⟩)) rfl rfl hl.1 rfl (lv_room (Nat.le_of_ble_eq_true rfl)) dL_tells_246 ⟨(Nat.le_of_ble_eq_true rfl), (Nat.le_of_ble_eq_true rfl)⟩) hS (fun q _ h => h) (fun q h => h) (fun r_6 ur_6 tr_6 H locs htr_6 hvmr_6 hr_6 hB hzr_6 hkr_6 hS => ?_)
              rw [htr_6] at hB
              obtain ⟨hP, hD⟩ := hB
              refine W.widen (k := 21) (n := 125) (Nat.le_of_ble_eq_true rfl) (Nat.le_of_ble_eq_true rfl) ?_
              have hP : va_P D vwCl (WD cI cO a (va_up FA nF ur_4.2.1) nC nR nL (nF + 1) par wt (fun r => nI (sk r)) (fun r => nI (fk r)) ur_4.2.2.1 rea sig ++ (WF (va_up FA nF ur_4.2.1) (va_up ck nF (c1 * 40 + p1 * 4 + m1)) (va_up cf nF nL) (va_up cd nF d) (upd cv nF vi) ur_4.2.2.2 (nF + 1) ++ (LR cI pb rb cb pv rv (upd kv 3 (nI (nF + 1)))))) H := hP
              have hD : va_D A (WD cI cO a (va_up FA nF ur_4.2.1) nC nR nL (nF + 1) par wt (fun r => nI (sk r)) (fun r => nI (fk r)) ur_4.2.2.1 rea sig ++ (WF (va_up FA nF ur_4.2.1) (va_up ck nF (c1 * 40 + p1 * 4 + m1)) (va_up cf nF nL) (va_up cd nF d) (upd cv nF vi) ur_4.2.2.2 (nF + 1) ++ (LR cI pb rb cb pv rv (upd kv 3 (nI (nF + 1)))))) := hD
              obtain rfl : r_6 = hv (dbt (va_up cd nF d)) (hC (va_up ck nF (c1 * 40 + p1 * 4 + m1)) (va_up cf nF nL) (va_up cd nF d) (nF + 1) (nI (c1 * 40 + p1 * 4 + m1)) (nI nL)) := hr_6
              refine lv_istore (lv' := [(16, .int (hv (dbt (va_up cd nF d)) (hC (va_up ck nF (c1 * 40 + p1 * 4 + m1)) (va_up cf nF nL) (va_up cd nF d) (nF + 1) (nI (c1 * 40 + p1 * 4 + m1)) (nI nL)))), (15, .int (hv (upd cv nF vi) (hC (va_up ck nF (c1 * 40 + p1 * 4 + m1)) (va_up cf nF nL) (va_up cd nF d) (nF + 1) (nI (c1 * 40 + p1 * 4 + m1)) (nI nL)))), (14, .int 1), (13, .int (disT ck cf cd cv nF nL)), (12, .int (hv cv (hC ck cf cd nF (nI (c1 * 40 + p1 * 4 + m1)) (nI (nL - 1))))), (11, .int (hv cv (hC ck cf cd nF (nI (c1 * 40 + p1 * 4 + m1)) (nI nL)))), (10, .int (nI (10 ^ d))), (9, .int (nI nL)), (8, .int (nI d)), (7, .int vi), (6, .int (nI m1)), (5, .int (nI p1)), (4, .int (nI c1)), (0, .ref (a 0)), (1, .int (nI x)), (2, .int (nI y)), (3, .ref cb)]) hx hb dL_tells_249 hl (by decide) rfl (fun ls hl => ?_)
              have hTH := tell_holds (ck := ck) (cf := cf) (cd := cd) (nF := nF) (nL := nL) (K := c1 * 40 + p1 * 4 + m1) (d := d) hcf hL8 hfL
              rcases hTH with hT1 | ⟨b, hbF, hT2, hT3, hT4⟩
              · skip
                have hnow : hv (upd cv nF vi) (hC (va_up ck nF (c1 * 40 + p1 * 4 + m1)) (va_up cf nF nL) (va_up cd nF d) (nF + 1) (nI (c1 * 40 + p1 * 4 + m1)) (nI nL)) = vi := by rw [hT1]; exact upd_eq
                have hthen : hv (dbt (va_up cd nF d)) (hC (va_up ck nF (c1 * 40 + p1 * 4 + m1)) (va_up cf nF nL) (va_up cd nF d) (nF + 1) (nI (c1 * 40 + p1 * 4 + m1)) (nI nL)) ≤ nI (10 ^ d) := by rw [hT1]; show nI (10 ^ (va_up cd nF d) nF) ≤ _; rw [up_eq]; exact hd_le (Nat.le_refl _) hd4
                refine lv_iload hx hb dL_tells_251 (lv_at hl 2 rfl) ?_
                refine lv_if_eq (tgt := 299) hx hb dL_tells_253 (by decide) (fun c_253 => ?_) (fun c_253 => ?_)
                · skip
                  exact absurd c_253 (by decide)
                · skip
                  refine lv_iload hx hb dL_tells_256 (lv_at hl 1 rfl) ?_
                  refine lv_iload hx hb dL_tells_258 (lv_at hl 9 rfl) ?_
                  refine lv_icmp_ne (tgt := 270) hx hb dL_tells_260 (by decide) (fun c_260 => ?_) (fun c_260 => ?_)
                  · skip
                    exact absurd hnow c_260
                  · skip
                    refine lv_iload hx hb dL_tells_263 (lv_at hl 0 rfl) ?_
                    refine lv_iload hx hb dL_tells_265 (lv_at hl 6 rfl) ?_
                    refine lv_icmp_le (tgt := 284) hx hb dL_tells_267 (by decide) (fun c_267 => ?_) (fun c_267 => ?_)
                    · skip
                      refine lv_aload_n hx hb dL_tells_284 rfl (lv_at hl 13 rfl) ?_
                      refine lv_iload hx hb dL_tells_285 (lv_at hl 7 rfl) ?_
                      refine va_calli (va_runV (As := [.int (nI nL)]) (rest := []) ⟨hx, hb, hml, hown, hts⟩ (m4_disagreements l D cI cZ cO cL dt A a (va_up FA nF ur_4.2.1) nC nR nL (nF + 1) par wt (fun r => nI (sk r)) (fun r => nI (fk r)) ur_4.2.2.1 rea sig (va_up ck nF (c1 * 40 + p1 * 4 + m1)) (va_up cf nF nL) (va_up cd nF d) (upd cv nF vi) ur_4.2.2.2 (LR cI pb rb cb pv rv (upd kv 3 (nI (nF + 1)))) nL hlt hF9 hC12 hck9 hcf9 hcd9 hcv9 hwt hCh9 hL8 (by omega)) (cwV 1 hts gL_tells_X4_disagreements rfl rfl rfl (by decide +kernel) ⟨(Nat.le_of_ble_eq_true rfl), (Nat.le_of_ble_eq_true rfl)⟩) (gP.v (hg.on hS) hP 3 rfl 0 rfl (⟨hP, hD⟩)) rfl rfl hl.1 rfl (lv_room (Nat.le_of_ble_eq_true rfl)) dL_tells_287 ⟨(Nat.le_of_ble_eq_true rfl), (Nat.le_of_ble_eq_true rfl)⟩) hS (fun q _ h => h) (fun q h => h) (fun r_7 ur_7 tr_7 H locs htr_7 hvmr_7 hr_7 hB hzr_7 hkr_7 hS => ?_)
                      rw [htr_7] at hB
                      obtain ⟨hP, hD⟩ := hB
                      refine W.widen (k := 22) (n := 131) (Nat.le_of_ble_eq_true rfl) (Nat.le_of_ble_eq_true rfl) ?_
                      have hP : va_P D vwCl (WD cI cO a (va_up FA nF ur_4.2.1) nC nR nL (nF + 1) par wt (fun r => nI (sk r)) (fun r => nI (fk r)) ur_4.2.2.1 rea sig ++ (WF (va_up FA nF ur_4.2.1) (va_up ck nF (c1 * 40 + p1 * 4 + m1)) (va_up cf nF nL) (va_up cd nF d) (upd cv nF vi) ur_4.2.2.2 (nF + 1) ++ (LR cI pb rb cb pv rv (upd kv 3 (nI (nF + 1)))))) H := hP
                      have hD : va_D A (WD cI cO a (va_up FA nF ur_4.2.1) nC nR nL (nF + 1) par wt (fun r => nI (sk r)) (fun r => nI (fk r)) ur_4.2.2.1 rea sig ++ (WF (va_up FA nF ur_4.2.1) (va_up ck nF (c1 * 40 + p1 * 4 + m1)) (va_up cf nF nL) (va_up cd nF d) (upd cv nF vi) ur_4.2.2.2 (nF + 1) ++ (LR cI pb rb cb pv rv (upd kv 3 (nI (nF + 1)))))) := hD
                      obtain rfl : r_7 = disT (va_up ck nF (c1 * 40 + p1 * 4 + m1)) (va_up cf nF nL) (va_up cd nF d) (upd cv nF vi) (nF + 1) nL := hr_7
                      refine lv_iload hx hb dL_tells_290 (lv_at hl 3 rfl) ?_
                      refine lv_icmp_lt (tgt := 299) hx hb dL_tells_292 (by decide) (fun c_292 => ?_) (fun c_292 => ?_)
                      · skip
                        exact absurd c_292 (dis_grow h80)
                      · skip
                        refine lv_iconst (v := 1) hx hb dL_tells_295 (by decide) ?_
                        refine lv_goto (tgt := 300) hx hb dL_tells_296 (by decide) ?_
                        refine lv_istore (lv' := [(14, .int 1), (16, .int (hv (dbt (va_up cd nF d)) (hC (va_up ck nF (c1 * 40 + p1 * 4 + m1)) (va_up cf nF nL) (va_up cd nF d) (nF + 1) (nI (c1 * 40 + p1 * 4 + m1)) (nI nL)))), (15, .int (hv (upd cv nF vi) (hC (va_up ck nF (c1 * 40 + p1 * 4 + m1)) (va_up cf nF nL) (va_up cd nF d) (nF + 1) (nI (c1 * 40 + p1 * 4 + m1)) (nI nL)))), (13, .int (disT ck cf cd cv nF nL)), (12, .int (hv cv (hC ck cf cd nF (nI (c1 * 40 + p1 * 4 + m1)) (nI (nL - 1))))), (11, .int (hv cv (hC ck cf cd nF (nI (c1 * 40 + p1 * 4 + m1)) (nI nL)))), (10, .int (nI (10 ^ d))), (9, .int (nI nL)), (8, .int (nI d)), (7, .int vi), (6, .int (nI m1)), (5, .int (nI p1)), (4, .int (nI c1)), (0, .ref (a 0)), (1, .int (nI x)), (2, .int (nI y)), (3, .ref cb)]) hx hb dL_tells_300 hl (by decide) rfl (fun ls hl => ?_)
                        refine lv_iload hx hb dL_tells_302 (lv_at hl 0 rfl) ?_
                        refine lv_if_eq (tgt := 336) hx hb dL_tells_304 (by decide) (fun c_304 => ?_) (fun c_304 => ?_)
                        · skip
                          exact absurd c_304 (by decide)
                        · skip
                          refine lv_iload hx hb dL_tells_307 (lv_at hl 7 rfl) ?_
                          refine lv_if_eq (tgt := 332) hx hb dL_tells_309 (by decide) (fun c_309 => ?_) (fun c_309 => ?_)
                          · skip
                            exact absurd c_309 c_155
                          · skip
                            refine lv_aload_n hx hb dL_tells_312 rfl (lv_at hl 13 rfl) ?_
                            refine lv_iconst (v := 0) hx hb dL_tells_313 (by decide) ?_
                            refine lv_iload hx hb dL_tells_314 (lv_at hl 12 rfl) ?_
                            refine lv_iload hx hb dL_tells_316 (lv_at hl 11 rfl) ?_
                            refine lv_iload hx hb dL_tells_318 (lv_at hl 10 rfl) ?_
                            refine lv_iload hx hb dL_tells_320 (lv_at hl 7 rfl) ?_
                            refine lv_iconst (v := 1) hx hb dL_tells_322 (by decide) ?_
                            refine lv_isub hx hb dL_tells_323 ?_
                            refine lv_topi (fun dv edv => ?_)
                            obtain rfl : dv = nI (nL - 1) := by rw [edv]; exact nI_sub1 (by omega)
                            refine va_calli (vx_runSW (hh := [(0, 27, 28, 19)]) (As := [.ref (a 0), .int 0, .int (nI c1), .int (nI p1), .int (nI m1), .int (nI (nL - 1))]) (rest := []) ⟨hx, hb, hml, hown, hts⟩ (kL_held l D cI cZ cO cL dt A a (va_up FA nF ur_4.2.1) nC nR nL (nF + 1) par wt sk fk ur_4.2.2.1 rea sig (va_up ck nF (c1 * 40 + p1 * 4 + m1)) (va_up cf nF nL) (va_up cd nF d) (upd cv nF vi) ur_4.2.2.2 pb rb cb pv rv (upd kv 3 (nI (nF + 1))) L c1 p1 m1 (nL - 1) hlt hOk9 (by omega) (by omega) (by omega) (by omega)) (vx_cwSW 6 hts gL_tells_L_held rfl rfl rfl (by decide +kernel) ⟨(Nat.le_of_ble_eq_true rfl), (Nat.le_of_ble_eq_true rfl)⟩) (gP.s (hg.on hS) (⟨hP, hD⟩)) rfl rfl hl.1 rfl (lv_room (Nat.le_of_ble_eq_true rfl)) dL_tells_324 ⟨(Nat.le_of_ble_eq_true rfl), (Nat.le_of_ble_eq_true rfl)⟩) hS (fun q _ h => h) (fun q h => h) (fun r_8 ur_8 tr_8 H locs htr_8 hvmr_8 hr_8 hB hzr_8 hkr_8 hS => ?_)
                            rw [htr_8] at hB
                            obtain ⟨hP, hD⟩ := hB
                            refine W.widen (k := 26) (n := 155) (Nat.le_of_ble_eq_true rfl) (Nat.le_of_ble_eq_true rfl) ?_
                            have hP : va_P D vwCl (WD cI cO a (va_up FA nF ur_4.2.1) nC nR nL (nF + 1) par wt (fun r => nI (sk r)) (fun r => nI (fk r)) ur_4.2.2.1 rea sig ++ (WF (va_up FA nF ur_4.2.1) (va_up ck nF (c1 * 40 + p1 * 4 + m1)) (va_up cf nF nL) (va_up cd nF d) (upd cv nF vi) ur_4.2.2.2 (nF + 1) ++ (LR cI pb rb cb pv rv (upd kv 3 (nI (nF + 1)))))) H := hP
                            have hD : va_D A (WD cI cO a (va_up FA nF ur_4.2.1) nC nR nL (nF + 1) par wt (fun r => nI (sk r)) (fun r => nI (fk r)) ur_4.2.2.1 rea sig ++ (WF (va_up FA nF ur_4.2.1) (va_up ck nF (c1 * 40 + p1 * 4 + m1)) (va_up cf nF nL) (va_up cd nF d) (upd cv nF vi) ur_4.2.2.2 (nF + 1) ++ (LR cI pb rb cb pv rv (upd kv 3 (nI (nF + 1)))))) := hD
                            obtain rfl : r_8 = hv (upd cv nF vi) (hC (va_up ck nF (c1 * 40 + p1 * 4 + m1)) (va_up cf nF nL) (va_up cd nF d) (nF + 1) (nI (c1 * 40 + p1 * 4 + m1)) (nI (nL - 1))) := hr_8
                            refine lv_iload hx hb dL_tells_327 (lv_at hl 4 rfl) ?_
                            refine lv_icmp_ne (tgt := 336) hx hb dL_tells_329 (by decide) (fun c_329 => ?_) (fun c_329 => ?_)
                            · skip
                              exact absurd (by rw [tell_before hL8 hz]; exact hv_old (fun b hb => (sel_lt hb).1)) c_329
                            · skip
                              refine lv_iconst (v := 1) hx hb dL_tells_332 (by decide) ?_
                              refine lv_goto (tgt := 337) hx hb dL_tells_333 (by decide) ?_
                              exact W.widen (k := 30) (n := 180) (Nat.le_of_ble_eq_true rfl) (Nat.le_of_ble_eq_true rfl) (W.zret (v := 1) hx hb hr (rfl) (fun t ht hW => ⟨⟨1, (), rfl, rfl, (by show lI D cI cO A a pb rb cb 1 t.heap; rw [ht]; exact lI_mk (n0 := 1) (by omega) hOk9 hpk hrk hkk9 hP hD)⟩, hS.F ht⟩) hS.2.2 dL_tells_337)
                    · skip
                      exact absurd hthen c_267
              · skip
                have hnow : hv (upd cv nF vi) (hC (va_up ck nF (c1 * 40 + p1 * 4 + m1)) (va_up cf nF nL) (va_up cd nF d) (nF + 1) (nI (c1 * 40 + p1 * 4 + m1)) (nI nL)) = hv cv (hC ck cf cd nF (nI (c1 * 40 + p1 * 4 + m1)) (nI nL)) := by rw [hT3, hT2]; exact upd_ne (by omega)
                have hthen : hv (dbt (va_up cd nF d)) (hC (va_up ck nF (c1 * 40 + p1 * 4 + m1)) (va_up cf nF nL) (va_up cd nF d) (nF + 1) (nI (c1 * 40 + p1 * 4 + m1)) (nI nL)) ≤ nI (10 ^ d) := by rw [hT3]; show nI (10 ^ (va_up cd nF d) b) ≤ _; rw [up_ne hbF]; exact hd_le hT4 hd4
                refine lv_iload hx hb dL_tells_251 (lv_at hl 2 rfl) ?_
                refine lv_if_eq (tgt := 299) hx hb dL_tells_253 (by decide) (fun c_253 => ?_) (fun c_253 => ?_)
                · skip
                  exact absurd c_253 (by decide)
                · skip
                  refine lv_iload hx hb dL_tells_256 (lv_at hl 1 rfl) ?_
                  refine lv_iload hx hb dL_tells_258 (lv_at hl 9 rfl) ?_
                  refine lv_icmp_ne (tgt := 270) hx hb dL_tells_260 (by decide) (fun c_260 => ?_) (fun c_260 => ?_)
                  · skip
                    refine lv_iload hx hb dL_tells_270 (lv_at hl 1 rfl) ?_
                    refine lv_iload hx hb dL_tells_272 (lv_at hl 5 rfl) ?_
                    refine lv_icmp_ne (tgt := 299) hx hb dL_tells_274 (by decide) (fun c_274 => ?_) (fun c_274 => ?_)
                    · skip
                      exact absurd hnow c_274
                    · skip
                      refine lv_iload hx hb dL_tells_277 (lv_at hl 0 rfl) ?_
                      refine lv_iload hx hb dL_tells_279 (lv_at hl 6 rfl) ?_
                      refine lv_icmp_gt (tgt := 299) hx hb dL_tells_281 (by decide) (fun c_281 => ?_) (fun c_281 => ?_)
                      · skip
                        exact absurd hthen (i_ltn c_281)
                      · skip
                        refine lv_aload_n hx hb dL_tells_284 rfl (lv_at hl 13 rfl) ?_
                        refine lv_iload hx hb dL_tells_285 (lv_at hl 7 rfl) ?_
                        refine va_calli (va_runV (As := [.int (nI nL)]) (rest := []) ⟨hx, hb, hml, hown, hts⟩ (m4_disagreements l D cI cZ cO cL dt A a (va_up FA nF ur_4.2.1) nC nR nL (nF + 1) par wt (fun r => nI (sk r)) (fun r => nI (fk r)) ur_4.2.2.1 rea sig (va_up ck nF (c1 * 40 + p1 * 4 + m1)) (va_up cf nF nL) (va_up cd nF d) (upd cv nF vi) ur_4.2.2.2 (LR cI pb rb cb pv rv (upd kv 3 (nI (nF + 1)))) nL hlt hF9 hC12 hck9 hcf9 hcd9 hcv9 hwt hCh9 hL8 (by omega)) (cwV 1 hts gL_tells_X4_disagreements rfl rfl rfl (by decide +kernel) ⟨(Nat.le_of_ble_eq_true rfl), (Nat.le_of_ble_eq_true rfl)⟩) (gP.v (hg.on hS) hP 3 rfl 0 rfl (⟨hP, hD⟩)) rfl rfl hl.1 rfl (lv_room (Nat.le_of_ble_eq_true rfl)) dL_tells_287 ⟨(Nat.le_of_ble_eq_true rfl), (Nat.le_of_ble_eq_true rfl)⟩) hS (fun q _ h => h) (fun q h => h) (fun r_9 ur_9 tr_9 H locs htr_9 hvmr_9 hr_9 hB hzr_9 hkr_9 hS => ?_)
                        rw [htr_9] at hB
                        obtain ⟨hP, hD⟩ := hB
                        refine W.widen (k := 22) (n := 131) (Nat.le_of_ble_eq_true rfl) (Nat.le_of_ble_eq_true rfl) ?_
                        have hP : va_P D vwCl (WD cI cO a (va_up FA nF ur_4.2.1) nC nR nL (nF + 1) par wt (fun r => nI (sk r)) (fun r => nI (fk r)) ur_4.2.2.1 rea sig ++ (WF (va_up FA nF ur_4.2.1) (va_up ck nF (c1 * 40 + p1 * 4 + m1)) (va_up cf nF nL) (va_up cd nF d) (upd cv nF vi) ur_4.2.2.2 (nF + 1) ++ (LR cI pb rb cb pv rv (upd kv 3 (nI (nF + 1)))))) H := hP
                        have hD : va_D A (WD cI cO a (va_up FA nF ur_4.2.1) nC nR nL (nF + 1) par wt (fun r => nI (sk r)) (fun r => nI (fk r)) ur_4.2.2.1 rea sig ++ (WF (va_up FA nF ur_4.2.1) (va_up ck nF (c1 * 40 + p1 * 4 + m1)) (va_up cf nF nL) (va_up cd nF d) (upd cv nF vi) ur_4.2.2.2 (nF + 1) ++ (LR cI pb rb cb pv rv (upd kv 3 (nI (nF + 1)))))) := hD
                        obtain rfl : r_9 = disT (va_up ck nF (c1 * 40 + p1 * 4 + m1)) (va_up cf nF nL) (va_up cd nF d) (upd cv nF vi) (nF + 1) nL := hr_9
                        refine lv_iload hx hb dL_tells_290 (lv_at hl 3 rfl) ?_
                        refine lv_icmp_lt (tgt := 299) hx hb dL_tells_292 (by decide) (fun c_292 => ?_) (fun c_292 => ?_)
                        · skip
                          exact absurd c_292 (dis_grow h80)
                        · skip
                          refine lv_iconst (v := 1) hx hb dL_tells_295 (by decide) ?_
                          refine lv_goto (tgt := 300) hx hb dL_tells_296 (by decide) ?_
                          refine lv_istore (lv' := [(14, .int 1), (16, .int (hv (dbt (va_up cd nF d)) (hC (va_up ck nF (c1 * 40 + p1 * 4 + m1)) (va_up cf nF nL) (va_up cd nF d) (nF + 1) (nI (c1 * 40 + p1 * 4 + m1)) (nI nL)))), (15, .int (hv (upd cv nF vi) (hC (va_up ck nF (c1 * 40 + p1 * 4 + m1)) (va_up cf nF nL) (va_up cd nF d) (nF + 1) (nI (c1 * 40 + p1 * 4 + m1)) (nI nL)))), (13, .int (disT ck cf cd cv nF nL)), (12, .int (hv cv (hC ck cf cd nF (nI (c1 * 40 + p1 * 4 + m1)) (nI (nL - 1))))), (11, .int (hv cv (hC ck cf cd nF (nI (c1 * 40 + p1 * 4 + m1)) (nI nL)))), (10, .int (nI (10 ^ d))), (9, .int (nI nL)), (8, .int (nI d)), (7, .int vi), (6, .int (nI m1)), (5, .int (nI p1)), (4, .int (nI c1)), (0, .ref (a 0)), (1, .int (nI x)), (2, .int (nI y)), (3, .ref cb)]) hx hb dL_tells_300 hl (by decide) rfl (fun ls hl => ?_)
                          refine lv_iload hx hb dL_tells_302 (lv_at hl 0 rfl) ?_
                          refine lv_if_eq (tgt := 336) hx hb dL_tells_304 (by decide) (fun c_304 => ?_) (fun c_304 => ?_)
                          · skip
                            exact absurd c_304 (by decide)
                          · skip
                            refine lv_iload hx hb dL_tells_307 (lv_at hl 7 rfl) ?_
                            refine lv_if_eq (tgt := 332) hx hb dL_tells_309 (by decide) (fun c_309 => ?_) (fun c_309 => ?_)
                            · skip
                              exact absurd c_309 c_155
                            · skip
                              refine lv_aload_n hx hb dL_tells_312 rfl (lv_at hl 13 rfl) ?_
                              refine lv_iconst (v := 0) hx hb dL_tells_313 (by decide) ?_
                              refine lv_iload hx hb dL_tells_314 (lv_at hl 12 rfl) ?_
                              refine lv_iload hx hb dL_tells_316 (lv_at hl 11 rfl) ?_
                              refine lv_iload hx hb dL_tells_318 (lv_at hl 10 rfl) ?_
                              refine lv_iload hx hb dL_tells_320 (lv_at hl 7 rfl) ?_
                              refine lv_iconst (v := 1) hx hb dL_tells_322 (by decide) ?_
                              refine lv_isub hx hb dL_tells_323 ?_
                              refine lv_topi (fun dv edv => ?_)
                              obtain rfl : dv = nI (nL - 1) := by rw [edv]; exact nI_sub1 (by omega)
                              refine va_calli (vx_runSW (hh := [(0, 27, 28, 19)]) (As := [.ref (a 0), .int 0, .int (nI c1), .int (nI p1), .int (nI m1), .int (nI (nL - 1))]) (rest := []) ⟨hx, hb, hml, hown, hts⟩ (kL_held l D cI cZ cO cL dt A a (va_up FA nF ur_4.2.1) nC nR nL (nF + 1) par wt sk fk ur_4.2.2.1 rea sig (va_up ck nF (c1 * 40 + p1 * 4 + m1)) (va_up cf nF nL) (va_up cd nF d) (upd cv nF vi) ur_4.2.2.2 pb rb cb pv rv (upd kv 3 (nI (nF + 1))) L c1 p1 m1 (nL - 1) hlt hOk9 (by omega) (by omega) (by omega) (by omega)) (vx_cwSW 6 hts gL_tells_L_held rfl rfl rfl (by decide +kernel) ⟨(Nat.le_of_ble_eq_true rfl), (Nat.le_of_ble_eq_true rfl)⟩) (gP.s (hg.on hS) (⟨hP, hD⟩)) rfl rfl hl.1 rfl (lv_room (Nat.le_of_ble_eq_true rfl)) dL_tells_324 ⟨(Nat.le_of_ble_eq_true rfl), (Nat.le_of_ble_eq_true rfl)⟩) hS (fun q _ h => h) (fun q h => h) (fun r_10 ur_10 tr_10 H locs htr_10 hvmr_10 hr_10 hB hzr_10 hkr_10 hS => ?_)
                              rw [htr_10] at hB
                              obtain ⟨hP, hD⟩ := hB
                              refine W.widen (k := 26) (n := 155) (Nat.le_of_ble_eq_true rfl) (Nat.le_of_ble_eq_true rfl) ?_
                              have hP : va_P D vwCl (WD cI cO a (va_up FA nF ur_4.2.1) nC nR nL (nF + 1) par wt (fun r => nI (sk r)) (fun r => nI (fk r)) ur_4.2.2.1 rea sig ++ (WF (va_up FA nF ur_4.2.1) (va_up ck nF (c1 * 40 + p1 * 4 + m1)) (va_up cf nF nL) (va_up cd nF d) (upd cv nF vi) ur_4.2.2.2 (nF + 1) ++ (LR cI pb rb cb pv rv (upd kv 3 (nI (nF + 1)))))) H := hP
                              have hD : va_D A (WD cI cO a (va_up FA nF ur_4.2.1) nC nR nL (nF + 1) par wt (fun r => nI (sk r)) (fun r => nI (fk r)) ur_4.2.2.1 rea sig ++ (WF (va_up FA nF ur_4.2.1) (va_up ck nF (c1 * 40 + p1 * 4 + m1)) (va_up cf nF nL) (va_up cd nF d) (upd cv nF vi) ur_4.2.2.2 (nF + 1) ++ (LR cI pb rb cb pv rv (upd kv 3 (nI (nF + 1)))))) := hD
                              obtain rfl : r_10 = hv (upd cv nF vi) (hC (va_up ck nF (c1 * 40 + p1 * 4 + m1)) (va_up cf nF nL) (va_up cd nF d) (nF + 1) (nI (c1 * 40 + p1 * 4 + m1)) (nI (nL - 1))) := hr_10
                              refine lv_iload hx hb dL_tells_327 (lv_at hl 4 rfl) ?_
                              refine lv_icmp_ne (tgt := 336) hx hb dL_tells_329 (by decide) (fun c_329 => ?_) (fun c_329 => ?_)
                              · skip
                                exact absurd (by rw [tell_before hL8 hz]; exact hv_old (fun b hb => (sel_lt hb).1)) c_329
                              · skip
                                refine lv_iconst (v := 1) hx hb dL_tells_332 (by decide) ?_
                                refine lv_goto (tgt := 337) hx hb dL_tells_333 (by decide) ?_
                                exact W.widen (k := 30) (n := 180) (Nat.le_of_ble_eq_true rfl) (Nat.le_of_ble_eq_true rfl) (W.zret (v := 1) hx hb hr (rfl) (fun t ht hW => ⟨⟨1, (), rfl, rfl, (by show lI D cI cO A a pb rb cb 1 t.heap; rw [ht]; exact lI_mk (n0 := 1) (by omega) hOk9 hpk hrk hkk9 hP hD)⟩, hS.F ht⟩) hS.2.2 dL_tells_337)
                  · skip
                    refine lv_iload hx hb dL_tells_263 (lv_at hl 0 rfl) ?_
                    refine lv_iload hx hb dL_tells_265 (lv_at hl 6 rfl) ?_
                    refine lv_icmp_le (tgt := 284) hx hb dL_tells_267 (by decide) (fun c_267 => ?_) (fun c_267 => ?_)
                    · skip
                      refine lv_aload_n hx hb dL_tells_284 rfl (lv_at hl 13 rfl) ?_
                      refine lv_iload hx hb dL_tells_285 (lv_at hl 7 rfl) ?_
                      refine va_calli (va_runV (As := [.int (nI nL)]) (rest := []) ⟨hx, hb, hml, hown, hts⟩ (m4_disagreements l D cI cZ cO cL dt A a (va_up FA nF ur_4.2.1) nC nR nL (nF + 1) par wt (fun r => nI (sk r)) (fun r => nI (fk r)) ur_4.2.2.1 rea sig (va_up ck nF (c1 * 40 + p1 * 4 + m1)) (va_up cf nF nL) (va_up cd nF d) (upd cv nF vi) ur_4.2.2.2 (LR cI pb rb cb pv rv (upd kv 3 (nI (nF + 1)))) nL hlt hF9 hC12 hck9 hcf9 hcd9 hcv9 hwt hCh9 hL8 (by omega)) (cwV 1 hts gL_tells_X4_disagreements rfl rfl rfl (by decide +kernel) ⟨(Nat.le_of_ble_eq_true rfl), (Nat.le_of_ble_eq_true rfl)⟩) (gP.v (hg.on hS) hP 3 rfl 0 rfl (⟨hP, hD⟩)) rfl rfl hl.1 rfl (lv_room (Nat.le_of_ble_eq_true rfl)) dL_tells_287 ⟨(Nat.le_of_ble_eq_true rfl), (Nat.le_of_ble_eq_true rfl)⟩) hS (fun q _ h => h) (fun q h => h) (fun r_11 ur_11 tr_11 H locs htr_11 hvmr_11 hr_11 hB hzr_11 hkr_11 hS => ?_)
                      rw [htr_11] at hB
                      obtain ⟨hP, hD⟩ := hB
                      refine W.widen (k := 22) (n := 131) (Nat.le_of_ble_eq_true rfl) (Nat.le_of_ble_eq_true rfl) ?_
                      have hP : va_P D vwCl (WD cI cO a (va_up FA nF ur_4.2.1) nC nR nL (nF + 1) par wt (fun r => nI (sk r)) (fun r => nI (fk r)) ur_4.2.2.1 rea sig ++ (WF (va_up FA nF ur_4.2.1) (va_up ck nF (c1 * 40 + p1 * 4 + m1)) (va_up cf nF nL) (va_up cd nF d) (upd cv nF vi) ur_4.2.2.2 (nF + 1) ++ (LR cI pb rb cb pv rv (upd kv 3 (nI (nF + 1)))))) H := hP
                      have hD : va_D A (WD cI cO a (va_up FA nF ur_4.2.1) nC nR nL (nF + 1) par wt (fun r => nI (sk r)) (fun r => nI (fk r)) ur_4.2.2.1 rea sig ++ (WF (va_up FA nF ur_4.2.1) (va_up ck nF (c1 * 40 + p1 * 4 + m1)) (va_up cf nF nL) (va_up cd nF d) (upd cv nF vi) ur_4.2.2.2 (nF + 1) ++ (LR cI pb rb cb pv rv (upd kv 3 (nI (nF + 1)))))) := hD
                      obtain rfl : r_11 = disT (va_up ck nF (c1 * 40 + p1 * 4 + m1)) (va_up cf nF nL) (va_up cd nF d) (upd cv nF vi) (nF + 1) nL := hr_11
                      refine lv_iload hx hb dL_tells_290 (lv_at hl 3 rfl) ?_
                      refine lv_icmp_lt (tgt := 299) hx hb dL_tells_292 (by decide) (fun c_292 => ?_) (fun c_292 => ?_)
                      · skip
                        exact absurd c_292 (dis_grow h80)
                      · skip
                        refine lv_iconst (v := 1) hx hb dL_tells_295 (by decide) ?_
                        refine lv_goto (tgt := 300) hx hb dL_tells_296 (by decide) ?_
                        refine lv_istore (lv' := [(14, .int 1), (16, .int (hv (dbt (va_up cd nF d)) (hC (va_up ck nF (c1 * 40 + p1 * 4 + m1)) (va_up cf nF nL) (va_up cd nF d) (nF + 1) (nI (c1 * 40 + p1 * 4 + m1)) (nI nL)))), (15, .int (hv (upd cv nF vi) (hC (va_up ck nF (c1 * 40 + p1 * 4 + m1)) (va_up cf nF nL) (va_up cd nF d) (nF + 1) (nI (c1 * 40 + p1 * 4 + m1)) (nI nL)))), (13, .int (disT ck cf cd cv nF nL)), (12, .int (hv cv (hC ck cf cd nF (nI (c1 * 40 + p1 * 4 + m1)) (nI (nL - 1))))), (11, .int (hv cv (hC ck cf cd nF (nI (c1 * 40 + p1 * 4 + m1)) (nI nL)))), (10, .int (nI (10 ^ d))), (9, .int (nI nL)), (8, .int (nI d)), (7, .int vi), (6, .int (nI m1)), (5, .int (nI p1)), (4, .int (nI c1)), (0, .ref (a 0)), (1, .int (nI x)), (2, .int (nI y)), (3, .ref cb)]) hx hb dL_tells_300 hl (by decide) rfl (fun ls hl => ?_)
                        refine lv_iload hx hb dL_tells_302 (lv_at hl 0 rfl) ?_
                        refine lv_if_eq (tgt := 336) hx hb dL_tells_304 (by decide) (fun c_304 => ?_) (fun c_304 => ?_)
                        · skip
                          exact absurd c_304 (by decide)
                        · skip
                          refine lv_iload hx hb dL_tells_307 (lv_at hl 7 rfl) ?_
                          refine lv_if_eq (tgt := 332) hx hb dL_tells_309 (by decide) (fun c_309 => ?_) (fun c_309 => ?_)
                          · skip
                            exact absurd c_309 c_155
                          · skip
                            refine lv_aload_n hx hb dL_tells_312 rfl (lv_at hl 13 rfl) ?_
                            refine lv_iconst (v := 0) hx hb dL_tells_313 (by decide) ?_
                            refine lv_iload hx hb dL_tells_314 (lv_at hl 12 rfl) ?_
                            refine lv_iload hx hb dL_tells_316 (lv_at hl 11 rfl) ?_
                            refine lv_iload hx hb dL_tells_318 (lv_at hl 10 rfl) ?_
                            refine lv_iload hx hb dL_tells_320 (lv_at hl 7 rfl) ?_
                            refine lv_iconst (v := 1) hx hb dL_tells_322 (by decide) ?_
                            refine lv_isub hx hb dL_tells_323 ?_
                            refine lv_topi (fun dv edv => ?_)
                            obtain rfl : dv = nI (nL - 1) := by rw [edv]; exact nI_sub1 (by omega)
                            refine va_calli (vx_runSW (hh := [(0, 27, 28, 19)]) (As := [.ref (a 0), .int 0, .int (nI c1), .int (nI p1), .int (nI m1), .int (nI (nL - 1))]) (rest := []) ⟨hx, hb, hml, hown, hts⟩ (kL_held l D cI cZ cO cL dt A a (va_up FA nF ur_4.2.1) nC nR nL (nF + 1) par wt sk fk ur_4.2.2.1 rea sig (va_up ck nF (c1 * 40 + p1 * 4 + m1)) (va_up cf nF nL) (va_up cd nF d) (upd cv nF vi) ur_4.2.2.2 pb rb cb pv rv (upd kv 3 (nI (nF + 1))) L c1 p1 m1 (nL - 1) hlt hOk9 (by omega) (by omega) (by omega) (by omega)) (vx_cwSW 6 hts gL_tells_L_held rfl rfl rfl (by decide +kernel) ⟨(Nat.le_of_ble_eq_true rfl), (Nat.le_of_ble_eq_true rfl)⟩) (gP.s (hg.on hS) (⟨hP, hD⟩)) rfl rfl hl.1 rfl (lv_room (Nat.le_of_ble_eq_true rfl)) dL_tells_324 ⟨(Nat.le_of_ble_eq_true rfl), (Nat.le_of_ble_eq_true rfl)⟩) hS (fun q _ h => h) (fun q h => h) (fun r_12 ur_12 tr_12 H locs htr_12 hvmr_12 hr_12 hB hzr_12 hkr_12 hS => ?_)
                            rw [htr_12] at hB
                            obtain ⟨hP, hD⟩ := hB
                            refine W.widen (k := 26) (n := 155) (Nat.le_of_ble_eq_true rfl) (Nat.le_of_ble_eq_true rfl) ?_
                            have hP : va_P D vwCl (WD cI cO a (va_up FA nF ur_4.2.1) nC nR nL (nF + 1) par wt (fun r => nI (sk r)) (fun r => nI (fk r)) ur_4.2.2.1 rea sig ++ (WF (va_up FA nF ur_4.2.1) (va_up ck nF (c1 * 40 + p1 * 4 + m1)) (va_up cf nF nL) (va_up cd nF d) (upd cv nF vi) ur_4.2.2.2 (nF + 1) ++ (LR cI pb rb cb pv rv (upd kv 3 (nI (nF + 1)))))) H := hP
                            have hD : va_D A (WD cI cO a (va_up FA nF ur_4.2.1) nC nR nL (nF + 1) par wt (fun r => nI (sk r)) (fun r => nI (fk r)) ur_4.2.2.1 rea sig ++ (WF (va_up FA nF ur_4.2.1) (va_up ck nF (c1 * 40 + p1 * 4 + m1)) (va_up cf nF nL) (va_up cd nF d) (upd cv nF vi) ur_4.2.2.2 (nF + 1) ++ (LR cI pb rb cb pv rv (upd kv 3 (nI (nF + 1)))))) := hD
                            obtain rfl : r_12 = hv (upd cv nF vi) (hC (va_up ck nF (c1 * 40 + p1 * 4 + m1)) (va_up cf nF nL) (va_up cd nF d) (nF + 1) (nI (c1 * 40 + p1 * 4 + m1)) (nI (nL - 1))) := hr_12
                            refine lv_iload hx hb dL_tells_327 (lv_at hl 4 rfl) ?_
                            refine lv_icmp_ne (tgt := 336) hx hb dL_tells_329 (by decide) (fun c_329 => ?_) (fun c_329 => ?_)
                            · skip
                              exact absurd (by rw [tell_before hL8 hz]; exact hv_old (fun b hb => (sel_lt hb).1)) c_329
                            · skip
                              refine lv_iconst (v := 1) hx hb dL_tells_332 (by decide) ?_
                              refine lv_goto (tgt := 337) hx hb dL_tells_333 (by decide) ?_
                              exact W.widen (k := 30) (n := 180) (Nat.le_of_ble_eq_true rfl) (Nat.le_of_ble_eq_true rfl) (W.zret (v := 1) hx hb hr (rfl) (fun t ht hW => ⟨⟨1, (), rfl, rfl, (by show lI D cI cO A a pb rb cb 1 t.heap; rw [ht]; exact lI_mk (n0 := 1) (by omega) hOk9 hpk hrk hkk9 hP hD)⟩, hS.F ht⟩) hS.2.2 dL_tells_337)
                    · skip
                      exact absurd hthen c_267
          · skip
            refine lv_iconst (v := 0) hx hb dL_tells_158 (by decide) ?_
            refine lv_goto (tgt := 177) hx hb dL_tells_159 (by decide) ?_
            refine lv_istore (lv' := [(12, .int 0), (11, .int (hv cv (hC ck cf cd nF (nI (c1 * 40 + p1 * 4 + m1)) (nI nL)))), (10, .int (nI (10 ^ d))), (9, .int (nI nL)), (8, .int (nI d)), (7, .int vi), (6, .int (nI m1)), (5, .int (nI p1)), (4, .int (nI c1)), (0, .ref (a 0)), (1, .int (nI x)), (2, .int (nI y)), (3, .ref cb)]) hx hb dL_tells_177 hl (by decide) rfl (fun ls hl => ?_)
            refine lv_aload_n hx hb dL_tells_179 rfl (lv_at hl 9 rfl) ?_
            refine lv_iload hx hb dL_tells_180 (lv_at hl 3 rfl) ?_
            refine va_calli (va_runV (As := [.int (nI nL)]) (rest := []) ⟨hx, hb, hml, hown, hts⟩ (m4_disagreements l D cI cZ cO cL dt A a FA nC nR nL nF par wt (fun r => nI (sk r)) (fun r => nI (fk r)) hd rea sig ck cf cd cv nx (LR cI pb rb cb pv rv kv) nL hlt hF hC12 hck hcf hcd hcv hwt hCh hL8 (by omega)) (cwV 1 hts gL_tells_X4_disagreements rfl rfl rfl (by decide +kernel) ⟨(Nat.le_of_ble_eq_true rfl), (Nat.le_of_ble_eq_true rfl)⟩) (gP.v (hg.on hS) hP 3 rfl 0 rfl (⟨hP, hD⟩)) rfl rfl hl.1 rfl (lv_room (Nat.le_of_ble_eq_true rfl)) dL_tells_182 ⟨(Nat.le_of_ble_eq_true rfl), (Nat.le_of_ble_eq_true rfl)⟩) hS (fun q _ h => h) (fun q h => h) (fun r_13 ur_13 tr_13 H locs htr_13 hvmr_13 hr_13 hB hzr_13 hkr_13 hS => ?_)
            rw [htr_13] at hB
            obtain ⟨hP, hD⟩ := hB
            refine W.widen (k := 5) (n := 30) (Nat.le_of_ble_eq_true rfl) (Nat.le_of_ble_eq_true rfl) ?_
            have hP : va_P D vwCl (WD cI cO a FA nC nR nL nF par wt (fun r => nI (sk r)) (fun r => nI (fk r)) hd rea sig ++ (WF FA ck cf cd cv nx nF ++ (LR cI pb rb cb pv rv kv))) H := hP
            have hD : va_D A (WD cI cO a FA nC nR nL nF par wt (fun r => nI (sk r)) (fun r => nI (fk r)) hd rea sig ++ (WF FA ck cf cd cv nx nF ++ (LR cI pb rb cb pv rv kv))) := hD
            obtain rfl : r_13 = disT ck cf cd cv nF nL := hr_13
            refine lv_istore (lv' := [(13, .int (disT ck cf cd cv nF nL)), (12, .int 0), (11, .int (hv cv (hC ck cf cd nF (nI (c1 * 40 + p1 * 4 + m1)) (nI nL)))), (10, .int (nI (10 ^ d))), (9, .int (nI nL)), (8, .int (nI d)), (7, .int vi), (6, .int (nI m1)), (5, .int (nI p1)), (4, .int (nI c1)), (0, .ref (a 0)), (1, .int (nI x)), (2, .int (nI y)), (3, .ref cb)]) hx hb dL_tells_185 hl (by decide) rfl (fun ls hl => ?_)
            refine lv_aload_n hx hb dL_tells_187 rfl (lv_at hl 13 rfl) ?_
            refine lv_iconst (v := 3) hx hb dL_tells_188 (by decide) ?_
            refine lv_dup2_11 hx hb dL_tells_189 rfl rfl ?_
            refine g_iald hx hb hK hP (11 + nF + 2) 0 (n := 4) (f := kv) (WDRj 2 rfl) rfl 3 rfl (by omega) (by decide) dL_tells_190 ?_
            refine lv_topi (fun dv edv => ?_)
            obtain rfl : dv = nI nF := by rw [edv]; exact hk3
            refine lv_iconst (v := 1) hx hb dL_tells_191 (by decide) ?_
            refine lv_iadd hx hb dL_tells_192 ?_
            refine lv_topi (fun dv edv => ?_)
            obtain rfl : dv = nI (nF + 1) := by rw [edv]; exact nI_add nF 1
            refine g_iast hx hb hK hP hD hS (11 + nF + 2) 0 (n := 4) (f := kv) (WDRj 2 rfl) rfl 3 rfl (by omega) (by decide) dL_tells_193 (WD cI cO a FA nC nR nL nF par wt (fun r => nI (sk r)) (fun r => nI (fk r)) hd rea sig ++ (WF FA ck cf cd cv nx nF ++ (LR cI pb rb cb pv rv (upd kv 3 (nI (nF + 1)))))) (WDRs 2 rfl) (fun H locs hP hD hS => ?_)
            have hP : va_P D vwCl (WD cI cO a FA nC nR nL nF par wt (fun r => nI (sk r)) (fun r => nI (fk r)) hd rea sig ++ (WF FA ck cf cd cv nx nF ++ (LR cI pb rb cb pv rv (upd kv 3 (nI (nF + 1)))))) H := hP
            have hD : va_D A (WD cI cO a FA nC nR nL nF par wt (fun r => nI (sk r)) (fun r => nI (fk r)) hd rea sig ++ (WF FA ck cf cd cv nx nF ++ (LR cI pb rb cb pv rv (upd kv 3 (nI (nF + 1)))))) := hD
            refine lv_aload_n hx hb dL_tells_194 rfl (lv_at hl 10 rfl) ?_
            refine lv_iload hx hb dL_tells_195 (lv_at hl 9 rfl) ?_
            refine lv_iload hx hb dL_tells_197 (lv_at hl 8 rfl) ?_
            refine lv_iload hx hb dL_tells_199 (lv_at hl 7 rfl) ?_
            refine lv_iload hx hb dL_tells_201 (lv_at hl 6 rfl) ?_
            refine lv_iload hx hb dL_tells_203 (lv_at hl 5 rfl) ?_
            refine va_calli (va_runV (As := [.int (nI c1), .int (nI p1), .int (nI m1), .int vi, .int (nI d)]) (rest := []) ⟨hx, hb, hml, hown, hts⟩ (m4_tell l D cI cZ cO cL dt A a FA nC nR nL nF par wt (fun r => nI (sk r)) (fun r => nI (fk r)) hd rea sig ck cf cd cv nx (LR cI pb rb cb pv rv (upd kv 3 (nI (nF + 1)))) c1 p1 m1 d vi hlt hC12 hL8 hF hcf hcd hCh hH hN hc1 (by omega) (by omega) hvi hd4 h80) (cwV 5 hts gL_tells_X4_tell rfl rfl rfl (by decide +kernel) ⟨(Nat.le_of_ble_eq_true rfl), (Nat.le_of_ble_eq_true rfl)⟩) (gP.v (hg.on hS) hP 3 rfl 0 rfl (⟨hP, hD⟩)) rfl rfl hl.1 rfl (lv_room (Nat.le_of_ble_eq_true rfl)) dL_tells_205 ⟨(Nat.le_of_ble_eq_true rfl), (Nat.le_of_ble_eq_true rfl)⟩) hS (fun q _ h => h) (fun q h => h) (fun r_14 ur_14 tr_14 H locs htr_14 hvmr_14 hr_14 hB hzr_14 hkr_14 hS => ?_)
            rw [htr_14] at hB
            obtain ⟨q1, q2, q3, q4, q5, q6⟩ := hr_14
            rw [q1, q2, q3] at q6 hB
            rw [q4] at q6 hB
            obtain ⟨hP, hD⟩ := hB
            refine W.widen (k := 9) (n := 53) (Nat.le_of_ble_eq_true rfl) (Nat.le_of_ble_eq_true rfl) ?_
            have hP : va_P D vwCl (WD cI cO a (va_up FA nF ur_14.2.1) nC nR nL (nF + 1) par wt (fun r => nI (sk r)) (fun r => nI (fk r)) ur_14.2.2.1 rea sig ++ (WF (va_up FA nF ur_14.2.1) (va_up ck nF (c1 * 40 + p1 * 4 + m1)) (va_up cf nF nL) (va_up cd nF d) (upd cv nF vi) ur_14.2.2.2 (nF + 1) ++ (LR cI pb rb cb pv rv (upd kv 3 (nI (nF + 1)))))) H := hP
            have hD : va_D A (WD cI cO a (va_up FA nF ur_14.2.1) nC nR nL (nF + 1) par wt (fun r => nI (sk r)) (fun r => nI (fk r)) ur_14.2.2.1 rea sig ++ (WF (va_up FA nF ur_14.2.1) (va_up ck nF (c1 * 40 + p1 * 4 + m1)) (va_up cf nF nL) (va_up cd nF d) (upd cv nF vi) ur_14.2.2.2 (nF + 1) ++ (LR cI pb rb cb pv rv (upd kv 3 (nI (nF + 1)))))) := hD
            obtain rfl : r_14 = nI (nF + 1) := q5
            have hOk9 := sOk_tell (c := c1) (p := p1) (m := m1) hOk hc1 (by omega) (by omega) hd4 hvi h80 q6
            obtain ⟨⟨-, -, -, hF9⟩, -, -, ⟨hCh9, -, -, -⟩, hck9, hcf89, hcd9, hcv9, -⟩ := id hOk9
            have hcf9 : ∀ k, (va_up cf nF nL) k < 2 ^ 31 := fun k => by have := hcf89 k; omega
            have hkk9 := kOk_3 hkk
            refine lv_aload_n hx hb dL_tells_208 rfl (lv_at hl 13 rfl) ?_
            refine lv_iconst (v := 3) hx hb dL_tells_209 (by decide) ?_
            refine g_iald hx hb hK hP (11 + (nF + 1) + 2) 0 (n := 4) (f := (upd kv 3 (nI (nF + 1)))) (WDRj 2 rfl) rfl 3 rfl (by omega) (by decide) dL_tells_210 ?_
            refine lv_topi (fun dv edv => ?_)
            obtain rfl : dv = nI (nF + 1) := by rw [edv]; exact upd_eq
            refine lv_icmp_ne (tgt := 218) hx hb dL_tells_211 (by decide) (fun c_211 => ?_) (fun c_211 => ?_)
            · skip
              exact absurd rfl c_211
            · skip
              refine lv_iconst (v := 1) hx hb dL_tells_214 (by decide) ?_
              refine lv_goto (tgt := 219) hx hb dL_tells_215 (by decide) ?_
              refine lv_istore (lv' := [(14, .int 1), (13, .int (disT ck cf cd cv nF nL)), (12, .int 0), (11, .int (hv cv (hC ck cf cd nF (nI (c1 * 40 + p1 * 4 + m1)) (nI nL)))), (10, .int (nI (10 ^ d))), (9, .int (nI nL)), (8, .int (nI d)), (7, .int vi), (6, .int (nI m1)), (5, .int (nI p1)), (4, .int (nI c1)), (0, .ref (a 0)), (1, .int (nI x)), (2, .int (nI y)), (3, .ref cb)]) hx hb dL_tells_219 hl (by decide) rfl (fun ls hl => ?_)
              refine lv_aload_n hx hb dL_tells_221 rfl (lv_at hl 11 rfl) ?_
              refine lv_iconst (v := 0) hx hb dL_tells_222 (by decide) ?_
              refine lv_iload hx hb dL_tells_223 (lv_at hl 10 rfl) ?_
              refine lv_iload hx hb dL_tells_225 (lv_at hl 9 rfl) ?_
              refine lv_iload hx hb dL_tells_227 (lv_at hl 8 rfl) ?_
              refine lv_iload hx hb dL_tells_229 (lv_at hl 5 rfl) ?_
              refine va_calli (vx_runSW (hh := [(0, 27, 28, 19)]) (As := [.ref (a 0), .int 0, .int (nI c1), .int (nI p1), .int (nI m1), .int (nI nL)]) (rest := []) ⟨hx, hb, hml, hown, hts⟩ (kL_held l D cI cZ cO cL dt A a (va_up FA nF ur_14.2.1) nC nR nL (nF + 1) par wt sk fk ur_14.2.2.1 rea sig (va_up ck nF (c1 * 40 + p1 * 4 + m1)) (va_up cf nF nL) (va_up cd nF d) (upd cv nF vi) ur_14.2.2.2 pb rb cb pv rv (upd kv 3 (nI (nF + 1))) L c1 p1 m1 nL hlt hOk9 (by omega) (by omega) (by omega) (by omega)) (vx_cwSW 6 hts gL_tells_L_held rfl rfl rfl (by decide +kernel) ⟨(Nat.le_of_ble_eq_true rfl), (Nat.le_of_ble_eq_true rfl)⟩) (gP.s (hg.on hS) (⟨hP, hD⟩)) rfl rfl hl.1 rfl (lv_room (Nat.le_of_ble_eq_true rfl)) dL_tells_231 ⟨(Nat.le_of_ble_eq_true rfl), (Nat.le_of_ble_eq_true rfl)⟩) hS (fun q _ h => h) (fun q h => h) (fun r_15 ur_15 tr_15 H locs htr_15 hvmr_15 hr_15 hB hzr_15 hkr_15 hS => ?_)
              rw [htr_15] at hB
              obtain ⟨hP, hD⟩ := hB
              refine W.widen (k := 13) (n := 77) (Nat.le_of_ble_eq_true rfl) (Nat.le_of_ble_eq_true rfl) ?_
              have hP : va_P D vwCl (WD cI cO a (va_up FA nF ur_14.2.1) nC nR nL (nF + 1) par wt (fun r => nI (sk r)) (fun r => nI (fk r)) ur_14.2.2.1 rea sig ++ (WF (va_up FA nF ur_14.2.1) (va_up ck nF (c1 * 40 + p1 * 4 + m1)) (va_up cf nF nL) (va_up cd nF d) (upd cv nF vi) ur_14.2.2.2 (nF + 1) ++ (LR cI pb rb cb pv rv (upd kv 3 (nI (nF + 1)))))) H := hP
              have hD : va_D A (WD cI cO a (va_up FA nF ur_14.2.1) nC nR nL (nF + 1) par wt (fun r => nI (sk r)) (fun r => nI (fk r)) ur_14.2.2.1 rea sig ++ (WF (va_up FA nF ur_14.2.1) (va_up ck nF (c1 * 40 + p1 * 4 + m1)) (va_up cf nF nL) (va_up cd nF d) (upd cv nF vi) ur_14.2.2.2 (nF + 1) ++ (LR cI pb rb cb pv rv (upd kv 3 (nI (nF + 1)))))) := hD
              obtain rfl : r_15 = hv (upd cv nF vi) (hC (va_up ck nF (c1 * 40 + p1 * 4 + m1)) (va_up cf nF nL) (va_up cd nF d) (nF + 1) (nI (c1 * 40 + p1 * 4 + m1)) (nI nL)) := hr_15
              refine lv_istore (lv' := [(15, .int (hv (upd cv nF vi) (hC (va_up ck nF (c1 * 40 + p1 * 4 + m1)) (va_up cf nF nL) (va_up cd nF d) (nF + 1) (nI (c1 * 40 + p1 * 4 + m1)) (nI nL)))), (14, .int 1), (13, .int (disT ck cf cd cv nF nL)), (12, .int 0), (11, .int (hv cv (hC ck cf cd nF (nI (c1 * 40 + p1 * 4 + m1)) (nI nL)))), (10, .int (nI (10 ^ d))), (9, .int (nI nL)), (8, .int (nI d)), (7, .int vi), (6, .int (nI m1)), (5, .int (nI p1)), (4, .int (nI c1)), (0, .ref (a 0)), (1, .int (nI x)), (2, .int (nI y)), (3, .ref cb)]) hx hb dL_tells_234 hl (by decide) rfl (fun ls hl => ?_)
              refine lv_aload_n hx hb dL_tells_236 rfl (lv_at hl 12 rfl) ?_
              refine lv_iconst (v := 1) hx hb dL_tells_237 (by decide) ?_
              refine lv_iload hx hb dL_tells_238 (lv_at hl 11 rfl) ?_
              refine lv_iload hx hb dL_tells_240 (lv_at hl 10 rfl) ?_
              refine lv_iload hx hb dL_tells_242 (lv_at hl 9 rfl) ?_
              refine lv_iload hx hb dL_tells_244 (lv_at hl 6 rfl) ?_
              refine va_calli (vx_runSW (hh := [(0, 27, 28, 19)]) (As := [.ref (a 0), .int 1, .int (nI c1), .int (nI p1), .int (nI m1), .int (nI nL)]) (rest := []) ⟨hx, hb, hml, hown, hts⟩ (kL_heldD l D cI cZ cO cL dt A a (va_up FA nF ur_14.2.1) nC nR nL (nF + 1) par wt sk fk ur_14.2.2.1 rea sig (va_up ck nF (c1 * 40 + p1 * 4 + m1)) (va_up cf nF nL) (va_up cd nF d) (upd cv nF vi) ur_14.2.2.2 pb rb cb pv rv (upd kv 3 (nI (nF + 1))) L c1 p1 m1 nL hlt hOk9 (by omega) (by omega) (by omega) (by omega)) (vx_cwSW 6 hts gL_tells_L_held rfl rfl rfl (by decide +kernel) ⟨(Nat.le_of_ble_eq_true rfl), (Nat.le_of_ble_eq_true rfl)⟩) (gP.s (hg.on hS) (⟨hP, hD⟩)) rfl rfl hl.1 rfl (lv_room (Nat.le_of_ble_eq_true rfl)) dL_tells_246 ⟨(Nat.le_of_ble_eq_true rfl), (Nat.le_of_ble_eq_true rfl)⟩) hS (fun q _ h => h) (fun q h => h) (fun r_16 ur_16 tr_16 H locs htr_16 hvmr_16 hr_16 hB hzr_16 hkr_16 hS => ?_)
              rw [htr_16] at hB
              obtain ⟨hP, hD⟩ := hB
              refine W.widen (k := 17) (n := 101) (Nat.le_of_ble_eq_true rfl) (Nat.le_of_ble_eq_true rfl) ?_
              have hP : va_P D vwCl (WD cI cO a (va_up FA nF ur_14.2.1) nC nR nL (nF + 1) par wt (fun r => nI (sk r)) (fun r => nI (fk r)) ur_14.2.2.1 rea sig ++ (WF (va_up FA nF ur_14.2.1) (va_up ck nF (c1 * 40 + p1 * 4 + m1)) (va_up cf nF nL) (va_up cd nF d) (upd cv nF vi) ur_14.2.2.2 (nF + 1) ++ (LR cI pb rb cb pv rv (upd kv 3 (nI (nF + 1)))))) H := hP
              have hD : va_D A (WD cI cO a (va_up FA nF ur_14.2.1) nC nR nL (nF + 1) par wt (fun r => nI (sk r)) (fun r => nI (fk r)) ur_14.2.2.1 rea sig ++ (WF (va_up FA nF ur_14.2.1) (va_up ck nF (c1 * 40 + p1 * 4 + m1)) (va_up cf nF nL) (va_up cd nF d) (upd cv nF vi) ur_14.2.2.2 (nF + 1) ++ (LR cI pb rb cb pv rv (upd kv 3 (nI (nF + 1)))))) := hD
              obtain rfl : r_16 = hv (dbt (va_up cd nF d)) (hC (va_up ck nF (c1 * 40 + p1 * 4 + m1)) (va_up cf nF nL) (va_up cd nF d) (nF + 1) (nI (c1 * 40 + p1 * 4 + m1)) (nI nL)) := hr_16
              refine lv_istore (lv' := [(16, .int (hv (dbt (va_up cd nF d)) (hC (va_up ck nF (c1 * 40 + p1 * 4 + m1)) (va_up cf nF nL) (va_up cd nF d) (nF + 1) (nI (c1 * 40 + p1 * 4 + m1)) (nI nL)))), (15, .int (hv (upd cv nF vi) (hC (va_up ck nF (c1 * 40 + p1 * 4 + m1)) (va_up cf nF nL) (va_up cd nF d) (nF + 1) (nI (c1 * 40 + p1 * 4 + m1)) (nI nL)))), (14, .int 1), (13, .int (disT ck cf cd cv nF nL)), (12, .int 0), (11, .int (hv cv (hC ck cf cd nF (nI (c1 * 40 + p1 * 4 + m1)) (nI nL)))), (10, .int (nI (10 ^ d))), (9, .int (nI nL)), (8, .int (nI d)), (7, .int vi), (6, .int (nI m1)), (5, .int (nI p1)), (4, .int (nI c1)), (0, .ref (a 0)), (1, .int (nI x)), (2, .int (nI y)), (3, .ref cb)]) hx hb dL_tells_249 hl (by decide) rfl (fun ls hl => ?_)
              have hTH := tell_holds (ck := ck) (cf := cf) (cd := cd) (nF := nF) (nL := nL) (K := c1 * 40 + p1 * 4 + m1) (d := d) hcf hL8 hfL
              rcases hTH with hT1 | ⟨b, hbF, hT2, hT3, hT4⟩
              · skip
                have hnow : hv (upd cv nF vi) (hC (va_up ck nF (c1 * 40 + p1 * 4 + m1)) (va_up cf nF nL) (va_up cd nF d) (nF + 1) (nI (c1 * 40 + p1 * 4 + m1)) (nI nL)) = vi := by rw [hT1]; exact upd_eq
                have hthen : hv (dbt (va_up cd nF d)) (hC (va_up ck nF (c1 * 40 + p1 * 4 + m1)) (va_up cf nF nL) (va_up cd nF d) (nF + 1) (nI (c1 * 40 + p1 * 4 + m1)) (nI nL)) ≤ nI (10 ^ d) := by rw [hT1]; show nI (10 ^ (va_up cd nF d) nF) ≤ _; rw [up_eq]; exact hd_le (Nat.le_refl _) hd4
                refine lv_iload hx hb dL_tells_251 (lv_at hl 2 rfl) ?_
                refine lv_if_eq (tgt := 299) hx hb dL_tells_253 (by decide) (fun c_253 => ?_) (fun c_253 => ?_)
                · skip
                  exact absurd c_253 (by decide)
                · skip
                  refine lv_iload hx hb dL_tells_256 (lv_at hl 1 rfl) ?_
                  refine lv_iload hx hb dL_tells_258 (lv_at hl 9 rfl) ?_
                  refine lv_icmp_ne (tgt := 270) hx hb dL_tells_260 (by decide) (fun c_260 => ?_) (fun c_260 => ?_)
                  · skip
                    exact absurd hnow c_260
                  · skip
                    refine lv_iload hx hb dL_tells_263 (lv_at hl 0 rfl) ?_
                    refine lv_iload hx hb dL_tells_265 (lv_at hl 6 rfl) ?_
                    refine lv_icmp_le (tgt := 284) hx hb dL_tells_267 (by decide) (fun c_267 => ?_) (fun c_267 => ?_)
                    · skip
                      refine lv_aload_n hx hb dL_tells_284 rfl (lv_at hl 13 rfl) ?_
                      refine lv_iload hx hb dL_tells_285 (lv_at hl 7 rfl) ?_
                      refine va_calli (va_runV (As := [.int (nI nL)]) (rest := []) ⟨hx, hb, hml, hown, hts⟩ (m4_disagreements l D cI cZ cO cL dt A a (va_up FA nF ur_14.2.1) nC nR nL (nF + 1) par wt (fun r => nI (sk r)) (fun r => nI (fk r)) ur_14.2.2.1 rea sig (va_up ck nF (c1 * 40 + p1 * 4 + m1)) (va_up cf nF nL) (va_up cd nF d) (upd cv nF vi) ur_14.2.2.2 (LR cI pb rb cb pv rv (upd kv 3 (nI (nF + 1)))) nL hlt hF9 hC12 hck9 hcf9 hcd9 hcv9 hwt hCh9 hL8 (by omega)) (cwV 1 hts gL_tells_X4_disagreements rfl rfl rfl (by decide +kernel) ⟨(Nat.le_of_ble_eq_true rfl), (Nat.le_of_ble_eq_true rfl)⟩) (gP.v (hg.on hS) hP 3 rfl 0 rfl (⟨hP, hD⟩)) rfl rfl hl.1 rfl (lv_room (Nat.le_of_ble_eq_true rfl)) dL_tells_287 ⟨(Nat.le_of_ble_eq_true rfl), (Nat.le_of_ble_eq_true rfl)⟩) hS (fun q _ h => h) (fun q h => h) (fun r_17 ur_17 tr_17 H locs htr_17 hvmr_17 hr_17 hB hzr_17 hkr_17 hS => ?_)
                      rw [htr_17] at hB
                      obtain ⟨hP, hD⟩ := hB
                      refine W.widen (k := 18) (n := 107) (Nat.le_of_ble_eq_true rfl) (Nat.le_of_ble_eq_true rfl) ?_
                      have hP : va_P D vwCl (WD cI cO a (va_up FA nF ur_14.2.1) nC nR nL (nF + 1) par wt (fun r => nI (sk r)) (fun r => nI (fk r)) ur_14.2.2.1 rea sig ++ (WF (va_up FA nF ur_14.2.1) (va_up ck nF (c1 * 40 + p1 * 4 + m1)) (va_up cf nF nL) (va_up cd nF d) (upd cv nF vi) ur_14.2.2.2 (nF + 1) ++ (LR cI pb rb cb pv rv (upd kv 3 (nI (nF + 1)))))) H := hP
                      have hD : va_D A (WD cI cO a (va_up FA nF ur_14.2.1) nC nR nL (nF + 1) par wt (fun r => nI (sk r)) (fun r => nI (fk r)) ur_14.2.2.1 rea sig ++ (WF (va_up FA nF ur_14.2.1) (va_up ck nF (c1 * 40 + p1 * 4 + m1)) (va_up cf nF nL) (va_up cd nF d) (upd cv nF vi) ur_14.2.2.2 (nF + 1) ++ (LR cI pb rb cb pv rv (upd kv 3 (nI (nF + 1)))))) := hD
                      obtain rfl : r_17 = disT (va_up ck nF (c1 * 40 + p1 * 4 + m1)) (va_up cf nF nL) (va_up cd nF d) (upd cv nF vi) (nF + 1) nL := hr_17
                      refine lv_iload hx hb dL_tells_290 (lv_at hl 3 rfl) ?_
                      refine lv_icmp_lt (tgt := 299) hx hb dL_tells_292 (by decide) (fun c_292 => ?_) (fun c_292 => ?_)
                      · skip
                        exact absurd c_292 (dis_grow h80)
                      · skip
                        refine lv_iconst (v := 1) hx hb dL_tells_295 (by decide) ?_
                        refine lv_goto (tgt := 300) hx hb dL_tells_296 (by decide) ?_
                        refine lv_istore (lv' := [(14, .int 1), (16, .int (hv (dbt (va_up cd nF d)) (hC (va_up ck nF (c1 * 40 + p1 * 4 + m1)) (va_up cf nF nL) (va_up cd nF d) (nF + 1) (nI (c1 * 40 + p1 * 4 + m1)) (nI nL)))), (15, .int (hv (upd cv nF vi) (hC (va_up ck nF (c1 * 40 + p1 * 4 + m1)) (va_up cf nF nL) (va_up cd nF d) (nF + 1) (nI (c1 * 40 + p1 * 4 + m1)) (nI nL)))), (13, .int (disT ck cf cd cv nF nL)), (12, .int 0), (11, .int (hv cv (hC ck cf cd nF (nI (c1 * 40 + p1 * 4 + m1)) (nI nL)))), (10, .int (nI (10 ^ d))), (9, .int (nI nL)), (8, .int (nI d)), (7, .int vi), (6, .int (nI m1)), (5, .int (nI p1)), (4, .int (nI c1)), (0, .ref (a 0)), (1, .int (nI x)), (2, .int (nI y)), (3, .ref cb)]) hx hb dL_tells_300 hl (by decide) rfl (fun ls hl => ?_)
                        refine lv_iload hx hb dL_tells_302 (lv_at hl 0 rfl) ?_
                        refine lv_if_eq (tgt := 336) hx hb dL_tells_304 (by decide) (fun c_304 => ?_) (fun c_304 => ?_)
                        · skip
                          exact absurd c_304 (by decide)
                        · skip
                          refine lv_iload hx hb dL_tells_307 (lv_at hl 7 rfl) ?_
                          refine lv_if_eq (tgt := 332) hx hb dL_tells_309 (by decide) (fun c_309 => ?_) (fun c_309 => ?_)
                          · skip
                            refine lv_iconst (v := 1) hx hb dL_tells_332 (by decide) ?_
                            refine lv_goto (tgt := 337) hx hb dL_tells_333 (by decide) ?_
                            exact W.widen (k := 30) (n := 180) (Nat.le_of_ble_eq_true rfl) (Nat.le_of_ble_eq_true rfl) (W.zret (v := 1) hx hb hr (rfl) (fun t ht hW => ⟨⟨1, (), rfl, rfl, (by show lI D cI cO A a pb rb cb 1 t.heap; rw [ht]; exact lI_mk (n0 := 1) (by omega) hOk9 hpk hrk hkk9 hP hD)⟩, hS.F ht⟩) hS.2.2 dL_tells_337)
                          · skip
                            exact absurd c_155 c_309
                    · skip
                      exact absurd hthen c_267
              · skip
                have hnow : hv (upd cv nF vi) (hC (va_up ck nF (c1 * 40 + p1 * 4 + m1)) (va_up cf nF nL) (va_up cd nF d) (nF + 1) (nI (c1 * 40 + p1 * 4 + m1)) (nI nL)) = hv cv (hC ck cf cd nF (nI (c1 * 40 + p1 * 4 + m1)) (nI nL)) := by rw [hT3, hT2]; exact upd_ne (by omega)
                have hthen : hv (dbt (va_up cd nF d)) (hC (va_up ck nF (c1 * 40 + p1 * 4 + m1)) (va_up cf nF nL) (va_up cd nF d) (nF + 1) (nI (c1 * 40 + p1 * 4 + m1)) (nI nL)) ≤ nI (10 ^ d) := by rw [hT3]; show nI (10 ^ (va_up cd nF d) b) ≤ _; rw [up_ne hbF]; exact hd_le hT4 hd4
                refine lv_iload hx hb dL_tells_251 (lv_at hl 2 rfl) ?_
                refine lv_if_eq (tgt := 299) hx hb dL_tells_253 (by decide) (fun c_253 => ?_) (fun c_253 => ?_)
                · skip
                  exact absurd c_253 (by decide)
                · skip
                  refine lv_iload hx hb dL_tells_256 (lv_at hl 1 rfl) ?_
                  refine lv_iload hx hb dL_tells_258 (lv_at hl 9 rfl) ?_
                  refine lv_icmp_ne (tgt := 270) hx hb dL_tells_260 (by decide) (fun c_260 => ?_) (fun c_260 => ?_)
                  · skip
                    refine lv_iload hx hb dL_tells_270 (lv_at hl 1 rfl) ?_
                    refine lv_iload hx hb dL_tells_272 (lv_at hl 5 rfl) ?_
                    refine lv_icmp_ne (tgt := 299) hx hb dL_tells_274 (by decide) (fun c_274 => ?_) (fun c_274 => ?_)
                    · skip
                      exact absurd hnow c_274
                    · skip
                      refine lv_iload hx hb dL_tells_277 (lv_at hl 0 rfl) ?_
                      refine lv_iload hx hb dL_tells_279 (lv_at hl 6 rfl) ?_
                      refine lv_icmp_gt (tgt := 299) hx hb dL_tells_281 (by decide) (fun c_281 => ?_) (fun c_281 => ?_)
                      · skip
                        exact absurd hthen (i_ltn c_281)
                      · skip
                        refine lv_aload_n hx hb dL_tells_284 rfl (lv_at hl 13 rfl) ?_
                        refine lv_iload hx hb dL_tells_285 (lv_at hl 7 rfl) ?_
                        refine va_calli (va_runV (As := [.int (nI nL)]) (rest := []) ⟨hx, hb, hml, hown, hts⟩ (m4_disagreements l D cI cZ cO cL dt A a (va_up FA nF ur_14.2.1) nC nR nL (nF + 1) par wt (fun r => nI (sk r)) (fun r => nI (fk r)) ur_14.2.2.1 rea sig (va_up ck nF (c1 * 40 + p1 * 4 + m1)) (va_up cf nF nL) (va_up cd nF d) (upd cv nF vi) ur_14.2.2.2 (LR cI pb rb cb pv rv (upd kv 3 (nI (nF + 1)))) nL hlt hF9 hC12 hck9 hcf9 hcd9 hcv9 hwt hCh9 hL8 (by omega)) (cwV 1 hts gL_tells_X4_disagreements rfl rfl rfl (by decide +kernel) ⟨(Nat.le_of_ble_eq_true rfl), (Nat.le_of_ble_eq_true rfl)⟩) (gP.v (hg.on hS) hP 3 rfl 0 rfl (⟨hP, hD⟩)) rfl rfl hl.1 rfl (lv_room (Nat.le_of_ble_eq_true rfl)) dL_tells_287 ⟨(Nat.le_of_ble_eq_true rfl), (Nat.le_of_ble_eq_true rfl)⟩) hS (fun q _ h => h) (fun q h => h) (fun r_18 ur_18 tr_18 H locs htr_18 hvmr_18 hr_18 hB hzr_18 hkr_18 hS => ?_)
                        rw [htr_18] at hB
                        obtain ⟨hP, hD⟩ := hB
                        refine W.widen (k := 18) (n := 107) (Nat.le_of_ble_eq_true rfl) (Nat.le_of_ble_eq_true rfl) ?_
                        have hP : va_P D vwCl (WD cI cO a (va_up FA nF ur_14.2.1) nC nR nL (nF + 1) par wt (fun r => nI (sk r)) (fun r => nI (fk r)) ur_14.2.2.1 rea sig ++ (WF (va_up FA nF ur_14.2.1) (va_up ck nF (c1 * 40 + p1 * 4 + m1)) (va_up cf nF nL) (va_up cd nF d) (upd cv nF vi) ur_14.2.2.2 (nF + 1) ++ (LR cI pb rb cb pv rv (upd kv 3 (nI (nF + 1)))))) H := hP
                        have hD : va_D A (WD cI cO a (va_up FA nF ur_14.2.1) nC nR nL (nF + 1) par wt (fun r => nI (sk r)) (fun r => nI (fk r)) ur_14.2.2.1 rea sig ++ (WF (va_up FA nF ur_14.2.1) (va_up ck nF (c1 * 40 + p1 * 4 + m1)) (va_up cf nF nL) (va_up cd nF d) (upd cv nF vi) ur_14.2.2.2 (nF + 1) ++ (LR cI pb rb cb pv rv (upd kv 3 (nI (nF + 1)))))) := hD
                        obtain rfl : r_18 = disT (va_up ck nF (c1 * 40 + p1 * 4 + m1)) (va_up cf nF nL) (va_up cd nF d) (upd cv nF vi) (nF + 1) nL := hr_18
                        refine lv_iload hx hb dL_tells_290 (lv_at hl 3 rfl) ?_
                        refine lv_icmp_lt (tgt := 299) hx hb dL_tells_292 (by decide) (fun c_292 => ?_) (fun c_292 => ?_)
                        · skip
                          exact absurd c_292 (dis_grow h80)
                        · skip
                          refine lv_iconst (v := 1) hx hb dL_tells_295 (by decide) ?_
                          refine lv_goto (tgt := 300) hx hb dL_tells_296 (by decide) ?_
                          refine lv_istore (lv' := [(14, .int 1), (16, .int (hv (dbt (va_up cd nF d)) (hC (va_up ck nF (c1 * 40 + p1 * 4 + m1)) (va_up cf nF nL) (va_up cd nF d) (nF + 1) (nI (c1 * 40 + p1 * 4 + m1)) (nI nL)))), (15, .int (hv (upd cv nF vi) (hC (va_up ck nF (c1 * 40 + p1 * 4 + m1)) (va_up cf nF nL) (va_up cd nF d) (nF + 1) (nI (c1 * 40 + p1 * 4 + m1)) (nI nL)))), (13, .int (disT ck cf cd cv nF nL)), (12, .int 0), (11, .int (hv cv (hC ck cf cd nF (nI (c1 * 40 + p1 * 4 + m1)) (nI nL)))), (10, .int (nI (10 ^ d))), (9, .int (nI nL)), (8, .int (nI d)), (7, .int vi), (6, .int (nI m1)), (5, .int (nI p1)), (4, .int (nI c1)), (0, .ref (a 0)), (1, .int (nI x)), (2, .int (nI y)), (3, .ref cb)]) hx hb dL_tells_300 hl (by decide) rfl (fun ls hl => ?_)
                          refine lv_iload hx hb dL_tells_302 (lv_at hl 0 rfl) ?_
                          refine lv_if_eq (tgt := 336) hx hb dL_tells_304 (by decide) (fun c_304 => ?_) (fun c_304 => ?_)
                          · skip
                            exact absurd c_304 (by decide)
                          · skip
                            refine lv_iload hx hb dL_tells_307 (lv_at hl 7 rfl) ?_
                            refine lv_if_eq (tgt := 332) hx hb dL_tells_309 (by decide) (fun c_309 => ?_) (fun c_309 => ?_)
                            · skip
                              refine lv_iconst (v := 1) hx hb dL_tells_332 (by decide) ?_
                              refine lv_goto (tgt := 337) hx hb dL_tells_333 (by decide) ?_
                              exact W.widen (k := 30) (n := 180) (Nat.le_of_ble_eq_true rfl) (Nat.le_of_ble_eq_true rfl) (W.zret (v := 1) hx hb hr (rfl) (fun t ht hW => ⟨⟨1, (), rfl, rfl, (by show lI D cI cO A a pb rb cb 1 t.heap; rw [ht]; exact lI_mk (n0 := 1) (by omega) hOk9 hpk hrk hkk9 hP hD)⟩, hS.F ht⟩) hS.2.2 dL_tells_337)
                            · skip
                              exact absurd c_155 c_309
                  · skip
                    refine lv_iload hx hb dL_tells_263 (lv_at hl 0 rfl) ?_
                    refine lv_iload hx hb dL_tells_265 (lv_at hl 6 rfl) ?_
                    refine lv_icmp_le (tgt := 284) hx hb dL_tells_267 (by decide) (fun c_267 => ?_) (fun c_267 => ?_)
                    · skip
                      refine lv_aload_n hx hb dL_tells_284 rfl (lv_at hl 13 rfl) ?_
                      refine lv_iload hx hb dL_tells_285 (lv_at hl 7 rfl) ?_
                      refine va_calli (va_runV (As := [.int (nI nL)]) (rest := []) ⟨hx, hb, hml, hown, hts⟩ (m4_disagreements l D cI cZ cO cL dt A a (va_up FA nF ur_14.2.1) nC nR nL (nF + 1) par wt (fun r => nI (sk r)) (fun r => nI (fk r)) ur_14.2.2.1 rea sig (va_up ck nF (c1 * 40 + p1 * 4 + m1)) (va_up cf nF nL) (va_up cd nF d) (upd cv nF vi) ur_14.2.2.2 (LR cI pb rb cb pv rv (upd kv 3 (nI (nF + 1)))) nL hlt hF9 hC12 hck9 hcf9 hcd9 hcv9 hwt hCh9 hL8 (by omega)) (cwV 1 hts gL_tells_X4_disagreements rfl rfl rfl (by decide +kernel) ⟨(Nat.le_of_ble_eq_true rfl), (Nat.le_of_ble_eq_true rfl)⟩) (gP.v (hg.on hS) hP 3 rfl 0 rfl (⟨hP, hD⟩)) rfl rfl hl.1 rfl (lv_room (Nat.le_of_ble_eq_true rfl)) dL_tells_287 ⟨(Nat.le_of_ble_eq_true rfl), (Nat.le_of_ble_eq_true rfl)⟩) hS (fun q _ h => h) (fun q h => h) (fun r_19 ur_19 tr_19 H locs htr_19 hvmr_19 hr_19 hB hzr_19 hkr_19 hS => ?_)
                      rw [htr_19] at hB
                      obtain ⟨hP, hD⟩ := hB
                      refine W.widen (k := 18) (n := 107) (Nat.le_of_ble_eq_true rfl) (Nat.le_of_ble_eq_true rfl) ?_
                      have hP : va_P D vwCl (WD cI cO a (va_up FA nF ur_14.2.1) nC nR nL (nF + 1) par wt (fun r => nI (sk r)) (fun r => nI (fk r)) ur_14.2.2.1 rea sig ++ (WF (va_up FA nF ur_14.2.1) (va_up ck nF (c1 * 40 + p1 * 4 + m1)) (va_up cf nF nL) (va_up cd nF d) (upd cv nF vi) ur_14.2.2.2 (nF + 1) ++ (LR cI pb rb cb pv rv (upd kv 3 (nI (nF + 1)))))) H := hP
                      have hD : va_D A (WD cI cO a (va_up FA nF ur_14.2.1) nC nR nL (nF + 1) par wt (fun r => nI (sk r)) (fun r => nI (fk r)) ur_14.2.2.1 rea sig ++ (WF (va_up FA nF ur_14.2.1) (va_up ck nF (c1 * 40 + p1 * 4 + m1)) (va_up cf nF nL) (va_up cd nF d) (upd cv nF vi) ur_14.2.2.2 (nF + 1) ++ (LR cI pb rb cb pv rv (upd kv 3 (nI (nF + 1)))))) := hD
                      obtain rfl : r_19 = disT (va_up ck nF (c1 * 40 + p1 * 4 + m1)) (va_up cf nF nL) (va_up cd nF d) (upd cv nF vi) (nF + 1) nL := hr_19
                      refine lv_iload hx hb dL_tells_290 (lv_at hl 3 rfl) ?_
                      refine lv_icmp_lt (tgt := 299) hx hb dL_tells_292 (by decide) (fun c_292 => ?_) (fun c_292 => ?_)
                      · skip
                        exact absurd c_292 (dis_grow h80)
                      · skip
                        refine lv_iconst (v := 1) hx hb dL_tells_295 (by decide) ?_
                        refine lv_goto (tgt := 300) hx hb dL_tells_296 (by decide) ?_
                        refine lv_istore (lv' := [(14, .int 1), (16, .int (hv (dbt (va_up cd nF d)) (hC (va_up ck nF (c1 * 40 + p1 * 4 + m1)) (va_up cf nF nL) (va_up cd nF d) (nF + 1) (nI (c1 * 40 + p1 * 4 + m1)) (nI nL)))), (15, .int (hv (upd cv nF vi) (hC (va_up ck nF (c1 * 40 + p1 * 4 + m1)) (va_up cf nF nL) (va_up cd nF d) (nF + 1) (nI (c1 * 40 + p1 * 4 + m1)) (nI nL)))), (13, .int (disT ck cf cd cv nF nL)), (12, .int 0), (11, .int (hv cv (hC ck cf cd nF (nI (c1 * 40 + p1 * 4 + m1)) (nI nL)))), (10, .int (nI (10 ^ d))), (9, .int (nI nL)), (8, .int (nI d)), (7, .int vi), (6, .int (nI m1)), (5, .int (nI p1)), (4, .int (nI c1)), (0, .ref (a 0)), (1, .int (nI x)), (2, .int (nI y)), (3, .ref cb)]) hx hb dL_tells_300 hl (by decide) rfl (fun ls hl => ?_)
                        refine lv_iload hx hb dL_tells_302 (lv_at hl 0 rfl) ?_
                        refine lv_if_eq (tgt := 336) hx hb dL_tells_304 (by decide) (fun c_304 => ?_) (fun c_304 => ?_)
                        · skip
                          exact absurd c_304 (by decide)
                        · skip
                          refine lv_iload hx hb dL_tells_307 (lv_at hl 7 rfl) ?_
                          refine lv_if_eq (tgt := 332) hx hb dL_tells_309 (by decide) (fun c_309 => ?_) (fun c_309 => ?_)
                          · skip
                            refine lv_iconst (v := 1) hx hb dL_tells_332 (by decide) ?_
                            refine lv_goto (tgt := 337) hx hb dL_tells_333 (by decide) ?_
                            exact W.widen (k := 30) (n := 180) (Nat.le_of_ble_eq_true rfl) (Nat.le_of_ble_eq_true rfl) (W.zret (v := 1) hx hb hr (rfl) (fun t ht hW => ⟨⟨1, (), rfl, rfl, (by show lI D cI cO A a pb rb cb 1 t.heap; rw [ht]; exact lI_mk (n0 := 1) (by omega) hOk9 hpk hrk hkk9 hP hD)⟩, hS.F ht⟩) hS.2.2 dL_tells_337)
                          · skip
                            exact absurd c_155 c_309
                    · skip
                      exact absurd hthen c_267
        refine lv_iload hx hb dL_tells_90 (lv_at hl 1 rfl) ?_
        refine lv_if_ne (tgt := 99) hx hb dL_tells_92 (by decide) (fun c_92 => ?_) (fun c_92 => ?_)
        · skip
          refine lv_iload hx hb dL_tells_99 (lv_at hl 1 rfl) ?_
          refine lv_iconst (v := 1) hx hb dL_tells_101 (by decide) ?_
          refine lv_icmp_ne (tgt := 110) hx hb dL_tells_102 (by decide) (fun c_102 => ?_) (fun c_102 => ?_)
          · skip
            refine lv_iload hx hb dL_tells_110 (lv_at hl 1 rfl) ?_
            refine lv_iconst (v := 2) hx hb dL_tells_112 (by decide) ?_
            refine lv_icmp_ne (tgt := 121) hx hb dL_tells_113 (by decide) (fun c_113 => ?_) (fun c_113 => ?_)
            · skip
              refine lv_iload hx hb dL_tells_121 (lv_at hl 1 rfl) ?_
              refine lv_iconst (v := 3) hx hb dL_tells_123 (by decide) ?_
              refine lv_icmp_ne (tgt := 133) hx hb dL_tells_124 (by decide) (fun c_124 => ?_) (fun c_124 => ?_)
              · skip
                refine lv_sipush (v := 10000) hx hb dL_tells_133 (by decide) ?_
                exact jn_90 _ (by rw [show d = 4 by have h0 : ¬ d = 0 := fun z => c_92 (by rw [z]; rfl); have h1 : ¬ d = 1 := fun z => c_102 (by rw [z]; rfl); have h2 : ¬ d = 2 := fun z => c_113 (by rw [z]; rfl); have h3 : ¬ d = 3 := fun z => c_124 (by rw [z]; rfl); omega]; rfl) _ (lv_sub hl [0, 1, 2, 3, 4, 5, 6, 7, 8, 9] rfl)
              · skip
                refine lv_sipush (v := 1000) hx hb dL_tells_127 (by decide) ?_
                refine lv_goto (tgt := 136) hx hb dL_tells_130 (by decide) ?_
                exact jn_90 _ (by rw [(nI_eq (b := 3) (by omega) (by decide)).mp c_124]; rfl) _ (lv_sub hl [0, 1, 2, 3, 4, 5, 6, 7, 8, 9] rfl)
            · skip
              refine lv_bipush (v := 100) hx hb dL_tells_116 (by decide) ?_
              refine lv_goto (tgt := 136) hx hb dL_tells_118 (by decide) ?_
              exact jn_90 _ (by rw [(nI_eq (b := 2) (by omega) (by decide)).mp c_113]; rfl) _ (lv_sub hl [0, 1, 2, 3, 4, 5, 6, 7, 8, 9] rfl)
          · skip
            refine lv_bipush (v := 10) hx hb dL_tells_105 (by decide) ?_
            refine lv_goto (tgt := 136) hx hb dL_tells_107 (by decide) ?_
            exact jn_90 _ (by rw [(nI_eq (b := 1) (by omega) (by decide)).mp c_102]; rfl) _ (lv_sub hl [0, 1, 2, 3, 4, 5, 6, 7, 8, 9] rfl)
        · skip
          refine lv_iconst (v := 1) hx hb dL_tells_95 (by decide) ?_
          refine lv_goto (tgt := 136) hx hb dL_tells_96 (by decide) ?_
          exact jn_90 _ (by rw [(nI_eq (b := 0) (by omega) (by decide)).mp c_92]; rfl) _ (lv_sub hl [0, 1, 2, 3, 4, 5, 6, 7, 8, 9] rfl)
      refine lv_iload_n hx hb dL_tells_62 rfl (lv_at hl 6 rfl) ?_
      refine lv_bipush (v := 7) hx hb dL_tells_63 (by decide) ?_
      refine lv_irem hx hb dL_tells_65 (by decide) ?_
      refine lv_topi (fun dv edv => ?_)
      obtain rfl : dv = nI (y % 7) := by rw [edv]; exact pk_rem (a := y) (d := 7) (by omega) (by omega) (by omega)
      refine lv_iconst (v := 4) hx hb dL_tells_66 (by decide) ?_
      refine lv_icmp_ge (tgt := 74) hx hb dL_tells_67 (by decide) (fun c_67 => ?_) (fun c_67 => ?_)
      · skip
        refine lv_iload_n hx hb dL_tells_74 rfl (lv_at hl 6 rfl) ?_
        refine lv_sipush (v := 180) hx hb dL_tells_75 (by decide) ?_
        refine lv_idiv hx hb dL_tells_78 (by decide) ?_
        refine lv_topi (fun dv edv => ?_)
        obtain rfl : dv = nI (y / 180) := by rw [edv]; exact pk_div (a := y) (d := 180) (by omega) (by omega) (by omega)
        refine lv_iconst (v := 5) hx hb dL_tells_79 (by decide) ?_
        refine lv_irem hx hb dL_tells_80 (by decide) ?_
        refine lv_topi (fun dv edv => ?_)
        obtain rfl : dv = nI ((y / 180) % 5) := by rw [edv]; exact pk_rem (a := (y / 180)) (d := 5) (by omega) (by omega) (by omega)
        exact jn_62 _ ⟨((y / 180) % 5), rfl, by omega⟩ _ (lv_sub hl [0, 1, 2, 3, 4, 5, 6, 7] rfl)
      · skip
        refine lv_iconst (v := 0) hx hb dL_tells_70 (by decide) ?_
        refine lv_goto (tgt := 81) hx hb dL_tells_71 (by decide) ?_
        exact jn_62 _ ⟨0, rfl, by decide⟩ _ (lv_sub hl [0, 1, 2, 3, 4, 5, 6, 7] rfl)
    refine lv_iload_n hx hb dL_tells_33 rfl (lv_at hl 5 rfl) ?_
    refine lv_iconst (v := 3) hx hb dL_tells_34 (by decide) ?_
    refine lv_irem hx hb dL_tells_35 (by decide) ?_
    refine lv_topi (fun dv edv => ?_)
    obtain rfl : dv = nI (y % 3) := by rw [edv]; exact pk_rem (a := y) (d := 3) (by omega) (by omega) (by omega)
    refine lv_if_ne (tgt := 51) hx hb dL_tells_36 (by decide) (fun c_36 => ?_) (fun c_36 => ?_)
    · skip
      refine lv_iload_n hx hb dL_tells_51 rfl (lv_at hl 5 rfl) ?_
      refine lv_iconst (v := 3) hx hb dL_tells_52 (by decide) ?_
      refine lv_idiv hx hb dL_tells_53 (by decide) ?_
      refine lv_topi (fun dv edv => ?_)
      obtain rfl : dv = nI (y / 3) := by rw [edv]; exact pk_div (a := y) (d := 3) (by omega) (by omega) (by omega)
      refine lv_bipush (v := 60) hx hb dL_tells_54 (by decide) ?_
      refine lv_irem hx hb dL_tells_56 (by decide) ?_
      refine lv_topi (fun dv edv => ?_)
      obtain rfl : dv = nI ((y / 3) % 60) := by rw [edv]; exact pk_rem (a := (y / 3)) (d := 60) (by omega) (by omega) (by omega)
      refine lv_bipush (v := 20) hx hb dL_tells_57 (by decide) ?_
      refine lv_isub hx hb dL_tells_59 ?_
      exact jn_33 _ (val_b (n := ((y / 3) % 60)) (by omega)) _ (lv_sub hl [0, 1, 2, 3, 4, 5, 6] rfl)
    · skip
      refine lv_iload_n hx hb dL_tells_39 rfl (lv_at hl 5 rfl) ?_
      refine lv_iconst (v := 3) hx hb dL_tells_40 (by decide) ?_
      refine lv_idiv hx hb dL_tells_41 (by decide) ?_
      refine lv_topi (fun dv edv => ?_)
      obtain rfl : dv = nI (y / 3) := by rw [edv]; exact pk_div (a := y) (d := 3) (by omega) (by omega) (by omega)
      refine lv_ldc (v := (2000001)) hx hb hown w_0 dL_tells_42 ?_
      refine lv_irem hx hb dL_tells_44 (by decide) ?_
      refine lv_topi (fun dv edv => ?_)
      obtain rfl : dv = nI ((y / 3) % 2000001) := by rw [edv]; exact pk_rem (a := (y / 3)) (d := 2000001) (by omega) (by omega) (by omega)
      refine lv_ldc (v := (1000000)) hx hb hown w_1 dL_tells_45 ?_
      refine lv_isub hx hb dL_tells_47 ?_
      refine lv_goto (tgt := 60) hx hb dL_tells_48 (by decide) ?_
      exact jn_33 _ (val_a (n := ((y / 3) % 2000001)) (by omega)) _ (lv_sub hl [0, 1, 2, 3, 4, 5, 6] rfl)
  · skip
    refine lv_iconst (v := 1) hx hb dL_tells_8 (by decide) ?_
    exact W.widen (k := 30) (n := 180) (Nat.le_of_ble_eq_true rfl) (Nat.le_of_ble_eq_true rfl) (W.zret (v := 1) hx hb hr (rfl) (fun t ht hW => ⟨⟨1, (), rfl, rfl, (by show lI D cI cO A a pb rb cb 1 t.heap; rw [ht]; exact lI_mk (n0 := 1) (by omega) hOk hpk hrk hkk hP hD)⟩, hS.F ht⟩) hS.2.2 dL_tells_9)
