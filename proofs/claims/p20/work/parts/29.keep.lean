set_option maxHeartbeats 4000000 in
set_option maxRecDepth 100000 in
/-- a new fact -/
theorem c0_init (l : Launch) (D : va_G) (cI cZ cO cL : ClassId) (dt : Nat) (A : Nat → Prop) (ws : va_W) (q q0 : Nat) (ki fi vi di : Int32) (he : ws[q0]? = some (q, .inr (0, [.int 0, .int 0, .int 0, .int 0, .null]))) : Met l yX0_init wsX0_init ({ frames := 1, cells := 0, slots := 0, locals := 12 } : Room) (gP D cI cZ cO cL dt A [.ref q, .int ki, .int fi, .int vi, .int di] (fun H => va_P D vwCl (ws) H ∧ va_D A (ws))) (va_Qv (fun (_ : Unit) => True) (fun _ t => va_P D vwCl (ws.set q0 (q, .inr (0, [.int ki, .int fi, .int vi, .int di, .null]))) t.heap ∧ va_D A (ws.set q0 (q, .inr (0, [.int ki, .int fi, .int vi, .int di, .null])))) A) 0 0 A := by
  refine Met.ofW (cc := cX0_init) (maxL := 5) (ret := none) (by decide) rfl ?_
  intro p9 e9 s m9 args below meth c9 s₁ B hml hv
  obtain ⟨rfl, hg, hP, hD⟩ := hv
  have hx := B.exec
  have hb := B.bytes
  have hr := B.returns
  have hts := atoms_spec (ws := wsX0_init) B.pre
  have hown : s.vm.findClass RX0 = some m9.cls := findClass_of_methodNamed B.named
  have hin : meth.name = "<init>" := (name_of_methodNamed B.named B.method).1
  have hlocks := B.notSynchronized
  have hK := hg.1
  have hS : va_S A s.heap s.heap [] := va_S.rf
  have w_0 := hts (.methodLink RX0 1 objectInit) (by decide +kernel)
  have w_1 := hts (.instanceMethod objectInit) (by decide +kernel)
  have w_2 := hts (.code objectInit ⟨#[0xb1]⟩ 1 none) (by decide +kernel)
  have w_3 := hts (.fieldLink RX0 7 "Dimfacts$Fact" "key" "I") (by decide +kernel)
  have win_X0 : ∀ w ∈ wsX00, w ∈ wsX0_init := by decide +kernel
  have w_5 := hts (.fieldLink RX0 13 "Dimfacts$Fact" "filing" "I") (by decide +kernel)
  have w_6 := hts (.fieldLink RX0 16 "Dimfacts$Fact" "value" "I") (by decide +kernel)
  have w_7 := hts (.fieldLink RX0 19 "Dimfacts$Fact" "doubt" "I") (by decide +kernel)
  have hl := lv_entry ([.ref q, .int ki, .int fi, .int vi, .int di]) (n := 5) (Nat.le_of_ble_eq_true rfl)
  rw [lg_entry_eq]
  generalize (lg_sl ([.ref q, .int ki, .int fi, .int vi, .int di]) ++ List.replicate (5 - (lg_sl ([.ref q, .int ki, .int fi, .int vi, .int di])).length) Slot.unset).toArray = ls at hl ⊢
  have hl : lv_has ls 5 [(0, .ref q), (1, .int ki), (2, .int fi), (3, .int vi), (4, .int di)] := hl
  refine lv_aload_n hx hb dX0_init_0 rfl (lv_at hl 0 rfl) ?_
  refine W.objInit hx hb hown w_0 w_1 w_2 rfl (by rw [hml]; exact hl.1) rfl dX0_init_1 (Nat.le_of_ble_eq_true rfl) (Nat.le_of_ble_eq_true rfl) ?_
  refine W.eq (g2 := F0 m9 4 ls []) rfl ?_
  have hln : q0 < ws.length := (List.getElem?_eq_some_iff.mp he).1
  refine lv_aload_n hx hb dX0_init_4 rfl (lv_at hl 0 rfl) ?_
  refine lv_iload_n hx hb dX0_init_5 rfl (lv_at hl 1 rfl) ?_
  refine va_putF (D := D) (ci := 0) (v := .int ki) (ty := .int) (C := RX0) (T := TX0) (N := 5) hx hb hts win_X0 tyX0 tyX0_ok nmX0 hown hK hP hD hS (q0) (he) rfl 0 (by decide) w_3 (fun _ h9 => h9) rfl hin rfl (by decide +kernel) rfl rfl (Nat.le_of_ble_eq_true rfl) dX0_init_6 (fun H locs hP hD hS => ?_)
  have hP : va_P D vwCl (ws.set q0 (q, .inr (0, [.int ki, .int 0, .int 0, .int 0, .null]))) H := hP
  have hD : va_D A (ws.set q0 (q, .inr (0, [.int ki, .int 0, .int 0, .int 0, .null]))) := hD
  refine lv_aload_n hx hb dX0_init_9 rfl (lv_at hl 0 rfl) ?_
  refine lv_iload_n hx hb dX0_init_10 rfl (lv_at hl 2 rfl) ?_
  refine va_putF (D := D) (ci := 0) (v := .int fi) (ty := .int) (C := RX0) (T := TX0) (N := 5) hx hb hts win_X0 tyX0 tyX0_ok nmX0 hown hK hP hD hS (q0) (List.getElem?_set_self hln) rfl 1 (by decide) w_5 (fun _ h9 => h9) rfl hin rfl (by decide +kernel) rfl rfl (Nat.le_of_ble_eq_true rfl) dX0_init_11 (fun H locs hP hD hS => ?_)
  rw [List.set_set] at hP hD
  have hP : va_P D vwCl (ws.set q0 (q, .inr (0, [.int ki, .int fi, .int 0, .int 0, .null]))) H := hP
  have hD : va_D A (ws.set q0 (q, .inr (0, [.int ki, .int fi, .int 0, .int 0, .null]))) := hD
  refine lv_aload_n hx hb dX0_init_14 rfl (lv_at hl 0 rfl) ?_
  refine lv_iload_n hx hb dX0_init_15 rfl (lv_at hl 3 rfl) ?_
  refine va_putF (D := D) (ci := 0) (v := .int vi) (ty := .int) (C := RX0) (T := TX0) (N := 5) hx hb hts win_X0 tyX0 tyX0_ok nmX0 hown hK hP hD hS (q0) (List.getElem?_set_self hln) rfl 2 (by decide) w_6 (fun _ h9 => h9) rfl hin rfl (by decide +kernel) rfl rfl (Nat.le_of_ble_eq_true rfl) dX0_init_16 (fun H locs hP hD hS => ?_)
  rw [List.set_set] at hP hD
  have hP : va_P D vwCl (ws.set q0 (q, .inr (0, [.int ki, .int fi, .int vi, .int 0, .null]))) H := hP
  have hD : va_D A (ws.set q0 (q, .inr (0, [.int ki, .int fi, .int vi, .int 0, .null]))) := hD
  refine lv_aload_n hx hb dX0_init_19 rfl (lv_at hl 0 rfl) ?_
  refine lv_iload hx hb dX0_init_20 (lv_at hl 4 rfl) ?_
  refine va_putF (D := D) (ci := 0) (v := .int di) (ty := .int) (C := RX0) (T := TX0) (N := 5) hx hb hts win_X0 tyX0 tyX0_ok nmX0 hown hK hP hD hS (q0) (List.getElem?_set_self hln) rfl 3 (by decide) w_7 (fun _ h9 => h9) rfl hin rfl (by decide +kernel) rfl rfl (Nat.le_of_ble_eq_true rfl) dX0_init_22 (fun H locs hP hD hS => ?_)
  rw [List.set_set] at hP hD
  have hP : va_P D vwCl (ws.set q0 (q, .inr (0, [.int ki, .int fi, .int vi, .int di, .null]))) H := hP
  have hD : va_D A (ws.set q0 (q, .inr (0, [.int ki, .int fi, .int vi, .int di, .null]))) := hD
  exact W.vret hx hb hr (fun t ht hW => ⟨⟨(), rfl, trivial, g_PD ht hP hD⟩, hS.F ht⟩) hS.2.2 dX0_init_25
set_option maxHeartbeats 4000000 in
set_option maxRecDepth 100000 in
/-- the list grows -/
theorem c3_keep (l : Launch) (D : va_G) (cI cZ cO cL : ClassId) (dt : Nat) (A : Nat → Prop) (a FA : Nat → Nat) (nC nR nL nF : Nat) (par wt stk flw : Nat → Int32) (hd : Nat → Option Nat) (rea sig : Nat → Int32) (ck cf cd : Nat → Nat) (cv : Nat → Int32) (nx : Nat → Option Nat) (R : va_W) (h80 : nF < 80) : Met l yX3_keep wsX3_keep ({ frames := 0, cells := 0, slots := 0, locals := 0 } : Room) (gP D cI cZ cO cL dt A [.ref (a 5), .ref (FA nF)] (fun H => va_P D vwCl (WD cI cO a FA nC nR nL nF par wt stk flw hd rea sig ++ (WF FA ck cf cd cv nx (nF + 1) ++ R)) H ∧ va_D A (WD cI cO a FA nC nR nL nF par wt stk flw hd rea sig ++ (WF FA ck cf cd cv nx (nF + 1) ++ R)))) (va_Qv (fun (_ : Unit) => True) (fun _ t => va_P D vwCl (WD cI cO a FA nC nR nL (nF + 1) par wt stk flw hd rea sig ++ (WF FA ck cf cd cv nx (nF + 1) ++ R)) t.heap ∧ va_D A (WD cI cO a FA nC nR nL (nF + 1) par wt stk flw hd rea sig ++ (WF FA ck cf cd cv nx (nF + 1) ++ R))) A) 0 0 A := by
  refine Met.ofW (cc := cX3_keep) (maxL := 2) (ret := none) (by decide) rfl ?_
  intro p9 e9 s m9 args below meth c9 s₁ B hml hv
  obtain ⟨rfl, hg, hP, hD⟩ := hv
  have hx := B.exec
  have hb := B.bytes
  have hr := B.returns
  have hts := atoms_spec (ws := wsX3_keep) B.pre
  have hown : s.vm.findClass RX3 = some m9.cls := findClass_of_methodNamed B.named
  have hlocks := B.notSynchronized
  have hK := hg.1
  have hS : va_S A s.heap s.heap [] := va_S.rf
  have w_0 := hts (.fieldLink RX3 17 "Dimfacts$ListedFacts" "count" "I") (by decide +kernel)
  have win_X3 : ∀ w ∈ wsX30, w ∈ wsX3_keep := by decide +kernel
  have w_2 := hts (.fieldLink RX3 11 "Dimfacts$ListedFacts" "facts" "[LDimfacts$Fact;") (by decide +kernel)
  have hl := lv_entry ([.ref (a 5), .ref (FA nF)]) (n := 2) (Nat.le_of_ble_eq_true rfl)
  rw [lg_entry_eq]
  generalize (lg_sl ([.ref (a 5), .ref (FA nF)]) ++ List.replicate (2 - (lg_sl ([.ref (a 5), .ref (FA nF)])).length) Slot.unset).toArray = ls at hl ⊢
  have hl : lv_has ls 2 [(0, .ref (a 5)), (1, .ref (FA nF))] := hl
  refine lv_aload_n hx hb dX3_keep_0 rfl (lv_at hl 0 rfl) ?_
  refine va_get (D := D) (ci := 2) (v := .int (nI nF)) (C := RX3) (T := TX3) (N := 2) hx hb hts win_X3 hown hK hP (5) (rfl) rfl 1 (by decide) w_0 (fun _ h9 => h9) rfl dX3_keep_1 ?_
  refine lv_bipush (v := 80) hx hb dX3_keep_4 (by decide) ?_
  refine lv_icmp_ge (tgt := 29) hx hb dX3_keep_6 (by decide) (fun c_6 => ?_) (fun c_6 => ?_)
  · skip
    exact absurd ((nI_leI (a := 80) (b := nF) (by decide) (by omega)).mp c_6) (by omega)
  · skip
    refine lv_aload_n hx hb dX3_keep_9 rfl (lv_at hl 0 rfl) ?_
    refine va_get (D := D) (ci := 2) (v := .ref (a 9)) (C := RX3) (T := TX3) (N := 2) hx hb hts win_X3 hown hK hP (5) (rfl) rfl 0 (by decide) w_2 (fun _ h9 => h9) rfl dX3_keep_10 ?_
    refine lv_aload_n hx hb dX3_keep_13 rfl (lv_at hl 0 rfl) ?_
    refine va_get (D := D) (ci := 2) (v := .int (nI nF)) (C := RX3) (T := TX3) (N := 2) hx hb hts win_X3 hown hK hP (5) (rfl) rfl 1 (by decide) w_0 (fun _ h9 => h9) rfl dX3_keep_14 ?_
    refine lv_aload_n hx hb dX3_keep_17 rfl (lv_at hl 1 rfl) ?_
    refine va_astq hx hb hK hP hD hS 9 2 (11 + nF) 0 (f := (fun k => if k < nF then some (FA k) else none)) rfl rfl (WDG_at (by omega)) rfl (vp_in_nI (n := nF) (by omega) (by decide)) dX3_keep_18 (fun H locs hP hD hS => ?_)
    rw [lst_up (by omega)] at hP hD
    refine lv_aload_n hx hb dX3_keep_19 rfl (lv_at hl 0 rfl) ?_
    refine lv_dup hx hb dX3_keep_20 rfl ?_
    refine va_get (D := D) (ci := 2) (v := .int (nI nF)) (C := RX3) (T := TX3) (N := 2) hx hb hts win_X3 hown hK hP (5) (rfl) rfl 1 (by decide) w_0 (fun _ h9 => h9) rfl dX3_keep_21 ?_
    refine lv_iconst (v := 1) hx hb dX3_keep_24 (by decide) ?_
    refine lv_iadd hx hb dX3_keep_25 ?_
    refine lv_topi (fun dv edv => ?_)
    obtain rfl : dv = nI (nF + 1) := by rw [edv]; exact nI_1 nF
    refine va_put (D := D) (ci := 2) (v := .int (nI (nF + 1))) (ty := .int) (C := RX3) (T := TX3) (N := 2) hx hb hts win_X3 tyX3 tyX3_ok nmX3 hown hK hP hD hS (5) (rfl) rfl 1 (by decide) w_0 (fun _ h9 => h9) rfl (by decide +kernel) rfl rfl (Nat.le_of_ble_eq_true rfl) dX3_keep_26 (fun H locs hP hD hS => ?_)
    have hP : va_P D vwCl (WD cI cO a FA nC nR nL (nF + 1) par wt stk flw hd rea sig ++ (WF FA ck cf cd cv nx (nF + 1) ++ R)) H := hP
    have hD : va_D A (WD cI cO a FA nC nR nL (nF + 1) par wt stk flw hd rea sig ++ (WF FA ck cf cd cv nx (nF + 1) ++ R)) := hD
    exact W.vret hx hb hr (fun t ht hW => ⟨⟨(), rfl, trivial, g_PD ht hP hD⟩, hS.F ht⟩) hS.2.2 dX3_keep_29
set_option maxHeartbeats 4000000 in
set_option maxRecDepth 100000 in
/-- the key's chain grows -/
theorem c2_keep (l : Launch) (D : va_G) (cI cZ cO cL : ClassId) (dt : Nat) (A : Nat → Prop) (a FA : Nat → Nat) (nC nR nL nF : Nat) (par wt stk flw : Nat → Int32) (hd : Nat → Option Nat) (rea sig : Nat → Int32) (ck cf cd : Nat → Nat) (cv : Nat → Int32) (nx : Nat → Option Nat) (R : va_W) (k : Nat) (L : List Nat) (hk : k < nF) (hckk : ck k < 480) (hcf : ∀ k, cf k < 2 ^ 31) (hcd : ∀ k, cd k ≤ 4) (hL : lk nx (hd (ck k)) L) (hLm : ∀ j ∈ L, j < nF) (hkL : k ∉ L) : Met l yX2_keep wsX2_keep ({ frames := 1, cells := 0, slots := 0, locals := 21 } : Room) (gP D cI cZ cO cL dt A [.ref (a 6), .ref (FA k)] (fun H => va_P D vwCl (WD cI cO a FA nC nR nL nF par wt stk flw hd rea sig ++ (WF FA ck cf cd cv nx nF ++ R)) H ∧ va_D A (WD cI cO a FA nC nR nL nF par wt stk flw hd rea sig ++ (WF FA ck cf cd cv nx nF ++ R)))) (va_Qv (fun (u : (Nat → Option Nat) × (Nat → Option Nat)) => lkIns cf cd (ck k) k L hd nx u) (fun u t => va_P D vwCl (WD cI cO a FA nC nR nL nF par wt stk flw u.1 rea sig ++ (WF FA ck cf cd cv u.2 nF ++ R)) t.heap ∧ va_D A (WD cI cO a FA nC nR nL nF par wt stk flw u.1 rea sig ++ (WF FA ck cf cd cv u.2 nF ++ R))) A) 0 0 A := by
  refine Met.ofW (cc := cX2_keep) (maxL := 3) (ret := none) (by decide) rfl ?_
  intro p9 e9 s m9 args below meth c9 s₁ B hml hv
  obtain ⟨rfl, hg, hP, hD⟩ := hv
  have hx := B.exec
  have hb := B.bytes
  have hr := B.returns
  have hts := atoms_spec (ws := wsX2_keep) B.pre
  have hown : s.vm.findClass RX2 = some m9.cls := findClass_of_methodNamed B.named
  have hlocks := B.notSynchronized
  have hK := hg.1
  have hS : va_S A s.heap s.heap [] := va_S.rf
  have w_0 := hts (.fieldLink RX2 11 "Dimfacts$KeyedFacts" "firsts" "[LDimfacts$Fact;") (by decide +kernel)
  have win_X2 : ∀ w ∈ wsX20, w ∈ wsX2_keep := by decide +kernel
  have w_2 := hts (.fieldLink RX2 17 "Dimfacts$Fact" "key" "I") (by decide +kernel)
  have win_X0 : ∀ w ∈ wsX00, w ∈ wsX2_keep := by decide +kernel
  have w_4 := hts (.fieldLink RX2 25 "Dimfacts$Fact" "next" "LDimfacts$Fact;") (by decide +kernel)
  have hl := lv_entry ([.ref (a 6), .ref (FA k)]) (n := 3) (Nat.le_of_ble_eq_true rfl)
  rw [lg_entry_eq]
  generalize (lg_sl ([.ref (a 6), .ref (FA k)]) ++ List.replicate (3 - (lg_sl ([.ref (a 6), .ref (FA k)])).length) Slot.unset).toArray = ls at hl ⊢
  have hl : lv_has ls 3 [(0, .ref (a 6)), (1, .ref (FA k))] := hl
  refine lv_aload_n hx hb dX2_keep_0 rfl (lv_at hl 0 rfl) ?_
  refine va_get (D := D) (ci := 1) (v := .ref (a 10)) (C := RX2) (T := TX2) (N := 1) hx hb hts win_X2 hown hK hP (6) (rfl) rfl 0 (by decide) w_0 (fun _ h9 => h9) rfl dX2_keep_1 ?_
  refine lv_aload_n hx hb dX2_keep_4 rfl (lv_at hl 1 rfl) ?_
  refine va_get (D := D) (ci := 0) (v := .int (nI (ck k))) (C := RX0) (T := TX0) (N := 5) hx hb hts win_X0 hown hK hP (11 + k) (WDG_at (by omega)) rfl 0 (by decide) w_2 (fun _ h9 => h9) rfl dX2_keep_5 ?_
  refine g_aald hx hb hK hP (10) 2 (n := 480) (f := (fun K => (hd K).map FA)) (rfl) rfl (ck k) rfl hckk (by decide) dX2_keep_8 ?_
  refine g_astq_n (lv' := [(2, va_rf ((hd (ck k)).map FA)), (0, .ref (a 6)), (1, .ref (FA k))]) hx hb dX2_keep_9 rfl hl (by decide) rfl (fun ls hl => ?_)
  obtain ⟨o, ho⟩ : ∃ z, hd (ck k) = z := ⟨_, rfl⟩
  rw [ho] at hl
  cases o with
  | none =>
    have hi : ins cf cd k L = k :: L := by
      cases L with
      | nil => rfl
      | cons b L2 => have h9 : hd (ck k) = some b := hL.1; rw [ho] at h9; cases h9
    have hl : lv_has ls 3 [(2, .null), (0, .ref (a 6)), (1, .ref (FA k))] := hl
    refine lv_aload_nN hx hb dX2_keep_10 rfl (lv_at hl 0 rfl) ?_
    refine lv_ifnullN (tgt := 22) hx hb dX2_keep_11 (by decide) ?_
    refine lv_aload_n hx hb dX2_keep_22 rfl (lv_at hl 2 rfl) ?_
    refine lv_aload_nN hx hb dX2_keep_23 rfl (lv_at hl 0 rfl) ?_
    refine va_put (D := D) (ci := 0) (v := .null) (ty := .object "Dimfacts$Fact") (C := RX0) (T := TX0) (N := 5) hx hb hts win_X0 tyX0 tyX0_ok nmX0 hown hK hP hD hS (11 + k) (WDG_at (by omega)) rfl 4 (by decide) w_4 (fun _ h9 => h9) rfl (by decide +kernel) rfl rfl (Nat.le_of_ble_eq_true rfl) dX2_keep_24 (fun H locs hP hD hS => ?_)
    have hP : va_P D vwCl (WD cI cO a FA nC nR nL nF par wt stk flw hd rea sig ++ (WF FA ck cf cd cv (va_up nx k (none)) nF ++ R)) H := by rw [← WDF_put hk none]; exact hP
    have hD : va_D A (WD cI cO a FA nC nR nL nF par wt stk flw hd rea sig ++ (WF FA ck cf cd cv (va_up nx k (none)) nF ++ R)) := by rw [← WDF_put hk none]; exact hD
    have hP : va_P D vwCl (WD cI cO a FA nC nR nL nF par wt stk flw hd rea sig ++ (WF FA ck cf cd cv (va_up nx k (none)) nF ++ R)) H := hP
    have hD : va_D A (WD cI cO a FA nC nR nL nF par wt stk flw hd rea sig ++ (WF FA ck cf cd cv (va_up nx k (none)) nF ++ R)) := hD
    refine lv_aload_n hx hb dX2_keep_27 rfl (lv_at hl 1 rfl) ?_
    refine va_get (D := D) (ci := 1) (v := .ref (a 10)) (C := RX2) (T := TX2) (N := 1) hx hb hts win_X2 hown hK hP (6) (rfl) rfl 0 (by decide) w_0 (fun _ h9 => h9) rfl dX2_keep_28 ?_
    refine lv_aload_n hx hb dX2_keep_31 rfl (lv_at hl 2 rfl) ?_
    refine va_get (D := D) (ci := 0) (v := .int (nI (ck k))) (C := RX0) (T := TX0) (N := 5) hx hb hts win_X0 hown hK hP (11 + k) (WDG_at (by omega)) rfl 0 (by decide) w_2 (fun _ h9 => h9) rfl dX2_keep_32 ?_
    refine lv_aload_n hx hb dX2_keep_35 rfl (lv_at hl 2 rfl) ?_
    refine va_astq hx hb hK hP hD hS 10 2 (11 + k) 0 (f := (fun K => (hd K).map FA)) rfl rfl (WDF_at (by omega)) rfl (vp_in_nI (n := ck k) hckk (by decide)) dX2_keep_36 (fun H locs hP hD hS => ?_)
    rw [hd_up (by omega)] at hP hD
    have hP : va_P D vwCl (WD cI cO a FA nC nR nL nF par wt stk flw (va_up hd (ck k) (some k)) rea sig ++ (WF FA ck cf cd cv (va_up nx k (none)) nF ++ R)) H := hP
    have hD : va_D A (WD cI cO a FA nC nR nL nF par wt stk flw (va_up hd (ck k) (some k)) rea sig ++ (WF FA ck cf cd cv (va_up nx k (none)) nF ++ R)) := hD
    exact W.vret hx hb hr (fun t ht hW => ⟨⟨(va_up hd (ck k) (some k), va_up nx k none), rfl, (lkIns_0 hi (ho ▸ hL) hkL), g_PD ht hP hD⟩, hS.F ht⟩) hS.2.2 dX2_keep_37
  | some x =>
    have hxF : x < nF := hLm x (lk_head hL ho)
    have hi : ins cf cd k L = if rpl cf cd k x = true then k :: L else L := by
      cases L with
      | nil => have h9 : hd (ck k) = none := hL; rw [ho] at h9; cases h9
      | cons b L2 => have h9 : hd (ck k) = some b := hL.1; rw [ho] at h9; cases h9; rfl
    have hl : lv_has ls 3 [(2, .ref (FA x)), (0, .ref (a 6)), (1, .ref (FA k))] := hl
    refine lv_aload_n hx hb dX2_keep_10 rfl (lv_at hl 0 rfl) ?_
    refine lv_ifnull hx hb dX2_keep_11 ?_
    refine lv_aload_n hx hb dX2_keep_14 rfl (lv_at hl 2 rfl) ?_
    refine lv_aload_n hx hb dX2_keep_15 rfl (lv_at hl 0 rfl) ?_
    refine g_csi (va_runV (As := [.ref (FA x)]) (rest := []) ⟨hx, hb, hml, hown, hts⟩ (c0_replaces l D cI cZ cO cL dt A a FA nC nR nL nF par wt stk flw hd rea sig ck cf cd cv nx R k x hk hxF hcf hcd) (cwV 1 hts gX2_keep_X0_replaces rfl rfl rfl (by decide +kernel) ⟨Nat.le_of_ble_eq_true rfl, Nat.le_of_ble_eq_true rfl⟩) (gP.v hg hP 0 rfl (11 + k) (WDG_at (by omega)) hP) rfl rfl hl.1 rfl (lv_room (Nat.le_of_ble_eq_true rfl)) dX2_keep_16 ⟨Nat.le_of_ble_eq_true rfl, Nat.le_of_ble_eq_true rfl⟩) (fun r_1 hr_1 => ?_)
    obtain rfl : r_1 = bI (rpl cf cd k x = true) := hr_1
    refine lv_if_eq (tgt := 37) hx hb dX2_keep_19 (by decide) (fun c_19 => ?_) (fun c_19 => ?_)
    · skip
      have c_19 := bI_z c_19
      exact W.vret hx hb hr (fun t ht hW => ⟨⟨(hd, nx), rfl, (lkIns_same (by rw [hi, if_neg c_19]) hL), g_PD ht hP hD⟩, hS.F ht⟩) hS.2.2 dX2_keep_37
    · skip
      have c_19 := bI_n c_19
      refine lv_aload_n hx hb dX2_keep_22 rfl (lv_at hl 2 rfl) ?_
      refine lv_aload_n hx hb dX2_keep_23 rfl (lv_at hl 0 rfl) ?_
      refine va_put (D := D) (ci := 0) (v := .ref (FA x)) (ty := .object "Dimfacts$Fact") (C := RX0) (T := TX0) (N := 5) hx hb hts win_X0 tyX0 tyX0_ok nmX0 hown hK hP hD hS (11 + k) (WDG_at (by omega)) rfl 4 (by decide) w_4 (fun _ h9 => h9) rfl (by decide +kernel) rfl rfl (Nat.le_of_ble_eq_true rfl) dX2_keep_24 (fun H locs hP hD hS => ?_)
      have hP : va_P D vwCl (WD cI cO a FA nC nR nL nF par wt stk flw hd rea sig ++ (WF FA ck cf cd cv (va_up nx k (some x)) nF ++ R)) H := by rw [← WDF_put hk (some x)]; exact hP
      have hD : va_D A (WD cI cO a FA nC nR nL nF par wt stk flw hd rea sig ++ (WF FA ck cf cd cv (va_up nx k (some x)) nF ++ R)) := by rw [← WDF_put hk (some x)]; exact hD
      have hP : va_P D vwCl (WD cI cO a FA nC nR nL nF par wt stk flw hd rea sig ++ (WF FA ck cf cd cv (va_up nx k (some x)) nF ++ R)) H := hP
      have hD : va_D A (WD cI cO a FA nC nR nL nF par wt stk flw hd rea sig ++ (WF FA ck cf cd cv (va_up nx k (some x)) nF ++ R)) := hD
      refine lv_aload_n hx hb dX2_keep_27 rfl (lv_at hl 1 rfl) ?_
      refine va_get (D := D) (ci := 1) (v := .ref (a 10)) (C := RX2) (T := TX2) (N := 1) hx hb hts win_X2 hown hK hP (6) (rfl) rfl 0 (by decide) w_0 (fun _ h9 => h9) rfl dX2_keep_28 ?_
      refine lv_aload_n hx hb dX2_keep_31 rfl (lv_at hl 2 rfl) ?_
      refine va_get (D := D) (ci := 0) (v := .int (nI (ck k))) (C := RX0) (T := TX0) (N := 5) hx hb hts win_X0 hown hK hP (11 + k) (WDG_at (by omega)) rfl 0 (by decide) w_2 (fun _ h9 => h9) rfl dX2_keep_32 ?_
      refine lv_aload_n hx hb dX2_keep_35 rfl (lv_at hl 2 rfl) ?_
      refine va_astq hx hb hK hP hD hS 10 2 (11 + k) 0 (f := (fun K => (hd K).map FA)) rfl rfl (WDF_at (by omega)) rfl (vp_in_nI (n := ck k) hckk (by decide)) dX2_keep_36 (fun H locs hP hD hS => ?_)
      rw [hd_up (by omega)] at hP hD
      have hP : va_P D vwCl (WD cI cO a FA nC nR nL nF par wt stk flw (va_up hd (ck k) (some k)) rea sig ++ (WF FA ck cf cd cv (va_up nx k (some x)) nF ++ R)) H := hP
      have hD : va_D A (WD cI cO a FA nC nR nL nF par wt stk flw (va_up hd (ck k) (some k)) rea sig ++ (WF FA ck cf cd cv (va_up nx k (some x)) nF ++ R)) := hD
      exact W.vret hx hb hr (fun t ht hW => ⟨⟨(va_up hd (ck k) (some k), va_up nx k (some x)), rfl, (lkIns_0 (by rw [hi, if_pos c_19]) (ho ▸ hL) hkL), g_PD ht hP hD⟩, hS.F ht⟩) hS.2.2 dX2_keep_37
