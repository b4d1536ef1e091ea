-- TELL
theorem perm_mid {α : Type} (X Y Z : List α) (x : α) : (X ++ (Y ++ x :: Z)).Perm ((X ++ (Y ++ Z)) ++ [x]) := by
  rw [← List.append_assoc, ← List.append_assoc X Y Z]
  exact List.perm_middle.trans (List.perm_append_singleton _ _).symm
theorem up_all {α : Type} {P : α → Prop} {f : Nat → α} {n : Nat} {x : α} (h : ∀ k, P (f k)) (hx : P x) : ∀ k, P (va_up f n x k) := fun k => by
  unfold va_up
  by_cases q : k = n
  · rw [if_pos q]; exact hx
  · rw [if_neg q]; exact h k
theorem up_ne {α : Type} {f : Nat → α} {n k : Nat} {x : α} (h : k < n) : va_up f n x k = f k := by
  unfold va_up
  rw [if_neg (by omega)]
theorem WDR_new {cI cO : ClassId} {a FA : Nat → Nat} {nC nR nL nF : Nat} {par wt stk flw : Nat → Int32} {hd : Nat → Option Nat} {rea sig : Nat → Int32} {ck cf cd : Nat → Nat} {cv : Nat → Int32} {nx : Nat → Option Nat} {R : va_W} {x : Nat × va_E} {q K f d : Nat} {v : Int32}
    (hH : ∀ K j, hd K = some j → j < nF) (hN : ∀ k j, k < nF → nx k = some j → j < nF) :
    (WD cI cO a FA nC nR nL nF par wt stk flw hd rea sig ++ (WF FA ck cf cd cv nx nF ++ x :: R)).set (11 + nF) (q, .inr (0, [.int (nI K), .int (nI f), .int v, .int (nI (10 ^ d)), .null])) =
      WD cI cO a (va_up FA nF q) nC nR nL nF par wt stk flw hd rea sig ++ (WF (va_up FA nF q) (va_up ck nF K) (va_up cf nF f) (va_up cd nF d) (upd cv nF v) (va_up nx nF none) (nF + 1) ++ R) := by
  rw [WDR_set, WF_snoc hN, WD_snoc (q := q) hH]
set_option maxHeartbeats 4000000 in
set_option maxRecDepth 100000 in
/-- a fact more -/
theorem c4_tell (l : Launch) (D : va_G) (cI cZ cO cL : ClassId) (dt : Nat) (A : Nat → Prop) (a FA : Nat → Nat) (nC nR nL nF : Nat) (par wt stk flw : Nat → Int32) (hd : Nat → Option Nat) (rea sig : Nat → Int32) (ck cf cd : Nat → Nat) (cv : Nat → Int32) (nx : Nat → Option Nat) (R : va_W) (ci pi mi vi di : Int32) (hlt : l.stackTraces = false) (hC12 : nC ≤ 12) (hL8 : nL < 8) (hF : nF ≤ 80) (hcf : ∀ k, cf k < 2 ^ 31) (hcd : ∀ k, cd k ≤ 4) (hCh : chOk ck cf cd hd nx nF) (hH : ∀ K j, hd K = some j → j < nF) (hN : ∀ k j, k < nF → nx k = some j → j < nF) : vx_Met l yX4_tell wsX4_tell ({ frames := 8, cells := 4, slots := 23, locals := 134 } : Room) (gP D cI cZ cO cL dt A [.ref (a 0), .int ci, .int pi, .int mi, .int vi, .int di] (fun H => va_P D vwCl (WD cI cO a FA nC nR nL nF par wt stk flw hd rea sig ++ (WF FA ck cf cd cv nx nF ++ R)) H ∧ va_D A (WD cI cO a FA nC nR nL nF par wt stk flw hd rea sig ++ (WF FA ck cf cd cv nx nF ++ R)))) (va_Qi (fun (r : Int32) (u : ((Nat × Nat) × (Nat × Nat)) × (Nat × ((Nat → Option Nat) × (Nat → Option Nat)))) => (ci = nI u.1.1.1 ∧ u.1.1.1 < nC) ∧ (pi = nI u.1.1.2 ∧ u.1.1.2 < 10) ∧ (mi = nI u.1.2.1 ∧ u.1.2.1 < 4) ∧ ((-1000000) ≤ vi ∧ vi ≤ (1000000)) ∧ (di = nI u.1.2.2 ∧ u.1.2.2 ≤ 4) ∧ nF < 80 ∧ r = nI (nF + 1) ∧ lkIns (va_up cf nF nL) (va_up cd nF u.1.2.2) ((va_up ck nF (u.1.1.1 * 40 + u.1.1.2 * 4 + u.1.2.1)) nF) nF (chn (va_up ck nF (u.1.1.1 * 40 + u.1.1.2 * 4 + u.1.2.1)) (va_up cf nF nL) (va_up cd nF u.1.2.2) ((va_up ck nF (u.1.1.1 * 40 + u.1.1.2 * 4 + u.1.2.1)) nF) nF) hd (va_up nx nF none) u.2.2) (fun u t => va_P D vwCl (WD cI cO a (va_up FA nF u.2.1) nC nR nL (nF + 1) par wt stk flw u.2.2.1 rea sig ++ (WF (va_up FA nF u.2.1) (va_up ck nF (u.1.1.1 * 40 + u.1.1.2 * 4 + u.1.2.1)) (va_up cf nF nL) (va_up cd nF u.1.2.2) (upd cv nF vi) u.2.2.2 (nF + 1) ++ R)) t.heap ∧ va_D A (WD cI cO a (va_up FA nF u.2.1) nC nR nL (nF + 1) par wt stk flw u.2.2.1 rea sig ++ (WF (va_up FA nF u.2.1) (va_up ck nF (u.1.1.1 * 40 + u.1.1.2 * 4 + u.1.2.1)) (va_up cf nF nL) (va_up cd nF u.1.2.2) (upd cv nF vi) u.2.2.2 (nF + 1) ++ R))) A) (xU (fun E => (E = "java/lang/IndexOutOfBoundsException" ∧ ¬ (cOk nC ci ∧ cOk 10 pi ∧ cOk 4 mi)) ∨ (E = "java/lang/IllegalArgumentException" ∧ (cOk nC ci ∧ cOk 10 pi ∧ cOk 4 mi) ∧ ¬ (((-1000000) ≤ vi ∧ vi ≤ (1000000)) ∧ cOk 5 di)) ∨ (E = "java/lang/IllegalStateException" ∧ (cOk nC ci ∧ cOk 10 pi ∧ cOk 4 mi) ∧ (((-1000000) ≤ vi ∧ vi ≤ (1000000)) ∧ cOk 5 di) ∧ ¬ nF < 80))) 4 23 A := by
  refine vx_ofW (cc := cX4_tell) (maxL := 7) (ret := (some .int)) (by decide) rfl ?_
  intro p9 e9 s m9 args below meth c9 s₁ B hml hout hv
  obtain ⟨rfl, hg, hP, hD⟩ := hv
  have hx := B.exec
  have hb := B.bytes
  have hr := B.returns
  have hts := atoms_spec (ws := wsX4_tell) B.pre
  have hown : s.vm.findClass RX4 = some m9.cls := findClass_of_methodNamed B.named
  have hlocks := B.notSynchronized
  have hK := hg.1
  have hS : va_S A s.heap s.heap [] := va_S.rf
  have w_0 := hts (.constant RX4 82 (-1000000)) (by decide +kernel)
  have w_1 := hts (.classLink RX4 61 "java/lang/IllegalArgumentException") (by decide +kernel)
  have w_2 := hts (.initialized "java/lang/IllegalArgumentException") (by decide +kernel)
  have hat_1 : ∀ w ∈ (vx_atS RX4 65 "java/lang/IllegalArgumentException" gUp).filter goodWord, w.before _ s = true := fun w h => hts w (List.mem_cons_of_mem _ (List.mem_append_left _ (List.mem_append_left _ (List.mem_append_right _ h))))
  have w_4 := hts (.constant RX4 83 (1000000)) (by decide +kernel)
  have w_5 := hts (.fieldLink RX4 25 "Dimfacts" "listed" "LDimfacts$ListedFacts;") (by decide +kernel)
  have win_X4 : ∀ w ∈ wsX40, w ∈ wsX4_tell := by decide +kernel
  have win_X0 : ∀ w ∈ wsX00, w ∈ wsX4_tell := by decide +kernel
  have w_8 := hts (.classLink RX4 94 RX0) (by decide +kernel)
  have w_9 := hts (.instantiable RX0 5) (by decide +kernel)
  have w_10 := hts (.initialized RX0) (by decide +kernel)
  have w_11 := hts (.fieldLink RX4 73 "Dimfacts" "latest" "I") (by decide +kernel)
  have w_12 := hts (.fieldLink RX4 100 "Dimfacts" "DOUBTS" "[I") (by decide +kernel)
  have w_13 := hts (.methodLink RX4 103 yX0_init) (by decide +kernel)
  have w_14 := hts (.instanceMethod yX0_init) (by decide +kernel)
  have w_15 := hts (.fieldLink RX4 32 "Dimfacts" "keyed" "LDimfacts$KeyedFacts;") (by decide +kernel)
  have w_16 := hts (.fieldLink RX4 111 "Dimfacts$ListedFacts" "count" "I") (by decide +kernel)
  have win_X3 : ∀ w ∈ wsX30, w ∈ wsX4_tell := by decide +kernel
  have w_18 := hts (.classLink RX4 46 "java/lang/IllegalStateException") (by decide +kernel)
  have w_19 := hts (.initialized "java/lang/IllegalStateException") (by decide +kernel)
  have hat_0 : ∀ w ∈ (vx_atS RX4 50 "java/lang/IllegalStateException" gUp).filter goodWord, w.before _ s = true := fun w h => hts w (List.mem_cons_of_mem _ (List.mem_append_left _ (List.mem_append_right _ h)))
  have hl := lv_entry ([.ref (a 0), .int ci, .int pi, .int mi, .int vi, .int di]) (n := 7) (Nat.le_of_ble_eq_true rfl)
  rw [lg_entry_eq]
  generalize (lg_sl ([.ref (a 0), .int ci, .int pi, .int mi, .int vi, .int di]) ++ List.replicate (7 - (lg_sl ([.ref (a 0), .int ci, .int pi, .int mi, .int vi, .int di])).length) Slot.unset).toArray = ls at hl ⊢
  have hl : lv_has ls 7 [(0, .ref (a 0)), (1, .int ci), (2, .int pi), (3, .int mi), (4, .int vi), (5, .int di)] := hl
  refine lv_aload_n hx hb dX4_tell_0 rfl (lv_at hl 0 rfl) ?_
  refine lv_iload_n hx hb dX4_tell_1 rfl (lv_at hl 1 rfl) ?_
  refine lv_iload_n hx hb dX4_tell_2 rfl (lv_at hl 2 rfl) ?_
  refine lv_iload_n hx hb dX4_tell_3 rfl (lv_at hl 3 rfl) ?_
  refine g_cxv (vx_runV (As := [.int ci, .int pi, .int mi]) (rest := []) ⟨hx, hb, hml, hown, hts⟩ (c4_checkKey l D cI cZ cO cL dt A a FA nC nR nL nF par wt stk flw hd rea sig ck cf cd cv nx R ci pi mi hlt hC12 hL8) (cwV 3 hts gX4_tell_X4_checkKey rfl rfl rfl (by decide +kernel) ⟨Nat.le_of_ble_eq_true rfl, Nat.le_of_ble_eq_true rfl⟩) (gP.v hg hP 3 rfl (0) (rfl) hP) rfl rfl hl.1 rfl (lv_room (Nat.le_of_ble_eq_true rfl)) dX4_tell_4 ⟨Nat.le_of_ble_eq_true rfl, Nat.le_of_ble_eq_true rfl⟩) (fun E9 ce9 q9 H9 hE9 hz9 hk9 hc9 hv9 hf9 => g_outU hout hlocks (Or.inl hE9) hz9 hk9 hc9 hv9 hf9 (fun _ h => nomatch h) (Nat.le_of_ble_eq_true rfl) (Nat.le_of_ble_eq_true rfl)) (fun hr_1 => ?_)
  refine W.widen (k := 2) (n := 12) (Nat.le_of_ble_eq_true rfl) (Nat.le_of_ble_eq_true rfl) ?_
  obtain ⟨⟨c1, rfl, hc1⟩, ⟨p1, rfl, hp1⟩, ⟨m1, rfl, hm1⟩⟩ := hr_1
  have hkey : cOk nC (nI c1) ∧ cOk 10 (nI p1) ∧ cOk 4 (nI m1) := ⟨⟨c1, rfl, hc1⟩, ⟨p1, rfl, hp1⟩, ⟨m1, rfl, hm1⟩⟩
  refine lv_iload hx hb dX4_tell_7 (lv_at hl 4 rfl) ?_
  refine lv_ldc (v := (-1000000)) hx hb hown w_0 dX4_tell_9 ?_
  refine lv_icmp_lt (tgt := 21) hx hb dX4_tell_11 (by decide) (fun c_11 => ?_) (fun c_11 => ?_)
  · skip
    have hbad : ¬ (((-1000000) ≤ vi ∧ vi ≤ (1000000)) ∧ cOk 5 di) := fun q => i_ltn c_11 q.1.1
    exact g_throw (D := D) (cI := cI) (cZ := cZ) (cO := cO) (cL := cL) (dt := dt) (A := A) (text := "the value is out of range") hx hb hlt hown (by decide +kernel) w_1 w_2 (by decide +kernel) hg hat_1 gE_at1 hg.2.1.2.2.2.2.2.2.2.1 gE_ot1 (hl.1.trans hml.symm) dX4_tell_21 dX4_tell_24 dX4_tell_25 dX4_tell_27 dX4_tell_30 hout (Nat.le_of_ble_eq_true rfl) (Nat.le_of_ble_eq_true rfl) (Nat.le_of_ble_eq_true rfl) (Nat.le_of_ble_eq_true rfl) hlocks (Or.inr (Or.inl ⟨rfl, hkey, hbad⟩)) (Nat.le_of_ble_eq_true rfl) (Nat.le_of_ble_eq_true rfl)
  · skip
    refine lv_iload hx hb dX4_tell_14 (lv_at hl 4 rfl) ?_
    refine lv_ldc (v := (1000000)) hx hb hown w_4 dX4_tell_16 ?_
    refine lv_icmp_le (tgt := 31) hx hb dX4_tell_18 (by decide) (fun c_18 => ?_) (fun c_18 => ?_)
    · skip
      have hv : (-1000000) ≤ vi ∧ vi ≤ (1000000) := ⟨i_nlt c_11, c_18⟩
      refine lv_iload hx hb dX4_tell_31 (lv_at hl 5 rfl) ?_
      refine lv_if_lt (tgt := 42) hx hb dX4_tell_33 (by decide) (fun c_33 => ?_) (fun c_33 => ?_)
      · skip
        have hbad : ¬ (((-1000000) ≤ vi ∧ vi ≤ (1000000)) ∧ cOk 5 di) := fun q => cOk_neg c_33 (by decide) q.2
        exact g_throw (D := D) (cI := cI) (cZ := cZ) (cO := cO) (cL := cL) (dt := dt) (A := A) (text := "the decimals are out of range") hx hb hlt hown (by decide +kernel) w_1 w_2 (by decide +kernel) hg hat_1 gE_at1 hg.2.1.2.2.2.2.2.2.2.1 gE_ot1 (hl.1.trans hml.symm) dX4_tell_42 dX4_tell_45 dX4_tell_46 dX4_tell_48 dX4_tell_51 hout (Nat.le_of_ble_eq_true rfl) (Nat.le_of_ble_eq_true rfl) (Nat.le_of_ble_eq_true rfl) (Nat.le_of_ble_eq_true rfl) hlocks (Or.inr (Or.inl ⟨rfl, hkey, hbad⟩)) (Nat.le_of_ble_eq_true rfl) (Nat.le_of_ble_eq_true rfl)
      · skip
        refine lv_iload hx hb dX4_tell_36 (lv_at hl 5 rfl) ?_
        refine lv_iconst (v := 4) hx hb dX4_tell_38 (by decide) ?_
        refine lv_icmp_le (tgt := 52) hx hb dX4_tell_39 (by decide) (fun c_39 => ?_) (fun c_39 => ?_)
        · skip
          have hdd : cOk 5 di := cOk_ofl (n := 4) c_33 c_39 (by decide)
          obtain ⟨d1, rfl, hd1⟩ := hdd
          refine lv_aload_n hx hb dX4_tell_52 rfl (lv_at hl 0 rfl) ?_
          refine va_get (D := D) (ci := 3) (v := .ref (a 5)) (C := RX4) (T := TX4) (N := 11) hx hb hts win_X4 hown hK hP (0) (rfl) rfl 7 (by decide) w_5 (fun _ h9 => h9) rfl dX4_tell_53 ?_
          refine g_csi (va_runV (As := []) (rest := []) ⟨hx, hb, hml, hown, hts⟩ (c3_isFull l D cI cZ cO cL dt A a FA nC nR nL nF par wt stk flw hd rea sig ck cf cd cv nx R (by omega)) (cwV 0 hts gX4_tell_X3_isFull rfl rfl rfl (by decide +kernel) ⟨Nat.le_of_ble_eq_true rfl, Nat.le_of_ble_eq_true rfl⟩) (gP.v hg hP 2 rfl (5) (rfl) hP) rfl rfl hl.1 rfl (lv_room (Nat.le_of_ble_eq_true rfl)) dX4_tell_56 ⟨Nat.le_of_ble_eq_true rfl, Nat.le_of_ble_eq_true rfl⟩) (fun r_4 hr_4 => ?_)
          obtain rfl : r_4 = bI (80 ≤ nF) := hr_4
          refine lv_if_eq (tgt := 72) hx hb dX4_tell_59 (by decide) (fun c_59 => ?_) (fun c_59 => ?_)
          · skip
            have c_59 := bI_z c_59
            have h80 : nF < 80 := by omega
            refine va_new (ci := 0) (fs := [.int 0, .int 0, .int 0, .int 0, .null]) (C := RX0) (T := TX0) (N := 5) hx hb hts win_X0 tyX0 tyX0_ok hown w_8 w_9 w_10 hK hP hD hS hg.2.2.2.2.2.2.2 rfl (fun j hj => by rcases (show j = 0 ∨ j = 1 ∨ j = 2 ∨ j = 3 ∨ j = 4 by omega) with rfl | rfl | rfl | rfl | rfl <;> rfl) (Nat.le_of_ble_eq_true rfl) (Nat.le_of_ble_eq_true rfl) dX4_tell_72 (fun q5 H hP hD hS => ?_)
            refine W.widen (k := 3) (n := 17) (Nat.le_of_ble_eq_true rfl) (Nat.le_of_ble_eq_true rfl) ?_
            have hpm := perm_mid (WD cI cO a FA nC nR nL nF par wt stk flw hd rea sig) (WF FA ck cf cd cv nx nF) R ((q5, .inr (0, [.int 0, .int 0, .int 0, .int 0, .null])) : Nat × va_E)
            have hP := va_P_perm hP hpm
            have hD := va_D_perm hD hpm
            have hP : va_P D vwCl (WD cI cO a FA nC nR nL nF par wt stk flw hd rea sig ++ (WF FA ck cf cd cv nx nF ++ ((q5, .inr (0, [.int 0, .int 0, .int 0, .int 0, .null])) :: R))) H := hP
            have hD : va_D A (WD cI cO a FA nC nR nL nF par wt stk flw hd rea sig ++ (WF FA ck cf cd cv nx nF ++ ((q5, .inr (0, [.int 0, .int 0, .int 0, .int 0, .null])) :: R))) := hD
            refine lv_dup hx hb dX4_tell_75 rfl ?_
            refine lv_iload_n hx hb dX4_tell_76 rfl (lv_at hl 1 rfl) ?_
            refine lv_iload_n hx hb dX4_tell_77 rfl (lv_at hl 2 rfl) ?_
            refine lv_iload_n hx hb dX4_tell_78 rfl (lv_at hl 3 rfl) ?_
            refine g_csi (va_runS (As := [.int (nI c1), .int (nI p1), .int (nI m1)]) (rest := [.ref q5, .ref q5]) ⟨hx, hb, hml, hown, hts⟩ (c4_keyOf l D cI cZ cO cL dt A c1 p1 m1 (WD cI cO a FA nC nR nL nF par wt stk flw hd rea sig ++ (WF FA ck cf cd cv nx nF ++ ((q5, .inr (0, [.int 0, .int 0, .int 0, .int 0, .null])) :: R)))) (va_cwS 3 hts gX4_tell_X4_keyOf rfl rfl rfl (by decide +kernel) ⟨Nat.le_of_ble_eq_true rfl, Nat.le_of_ble_eq_true rfl⟩) (gP.s (hg.on hS) hP) rfl rfl hl.1 rfl (lv_room (Nat.le_of_ble_eq_true rfl)) dX4_tell_79 ⟨Nat.le_of_ble_eq_true rfl, Nat.le_of_ble_eq_true rfl⟩) (fun r_5 hr_5 => ?_)
            obtain rfl : r_5 = nI (c1 * 40 + p1 * 4 + m1) := hr_5
            refine lv_aload_n hx hb dX4_tell_82 rfl (lv_at hl 0 rfl) ?_
            refine va_get (D := D) (ci := 3) (v := .int (nI nL)) (C := RX4) (T := TX4) (N := 11) hx hb hts win_X4 hown hK hP (0) (rfl) rfl 6 (by decide) w_11 (fun _ h9 => h9) rfl dX4_tell_83 ?_
            refine lv_iload hx hb dX4_tell_86 (lv_at hl 4 rfl) ?_
            refine va_gets hx hb hg.2.2.2.2.2.1 hS hown w_12 (fun _ h9 => h9) dX4_tell_88 ?_
            refine lv_iload hx hb dX4_tell_91 (lv_at hl 5 rfl) ?_
            refine va_ti hx hb hg.2.2.2.2.2.2.1 hS (v := .int (nI (10 ^ d1))) (vp_in_nI (n := d1) (by omega) (by decide)) (by rw [nI_clamp (by omega)]) dX4_tell_93 ?_
            refine va_callv (va_runI (As := [.int (nI (c1 * 40 + p1 * 4 + m1)), .int (nI nL), .int vi, .int (nI (10 ^ d1))]) (rest := [.ref q5]) ⟨hx, hb, hml, hown, hts⟩ (c0_init l D cI cZ cO cL dt A (WD cI cO a FA nC nR nL nF par wt stk flw hd rea sig ++ (WF FA ck cf cd cv nx nF ++ ((q5, .inr (0, [.int 0, .int 0, .int 0, .int 0, .null])) :: R))) q5 (11 + nF) (nI (c1 * 40 + p1 * 4 + m1)) (nI nL) (vi) (nI (10 ^ d1)) WDR_at) (cwI 4 hts gX4_tell_X0_init rfl rfl rfl w_10 w_13 w_14 rfl (by decide +kernel) ⟨Nat.le_of_ble_eq_true rfl, Nat.le_of_ble_eq_true rfl⟩) (gP.s (hg.on hS) (⟨hP, hD⟩)) rfl rfl hl.1 rfl (lv_room (Nat.le_of_ble_eq_true rfl)) dX4_tell_94 ⟨Nat.le_of_ble_eq_true rfl, Nat.le_of_ble_eq_true rfl⟩) hS (fun q _ h => h) (fun q h => h) (fun ur_6 tr_6 H locs htr_6 hvmr_6 hwr_6 hB hzr_6 hkr_6 hS => ?_)
            rw [htr_6] at hB
            obtain ⟨hP, hD⟩ := hB
            rw [WDR_new hH hN] at hP hD
            have hP : va_P D vwCl (WD cI cO a (va_up FA nF q5) nC nR nL nF par wt stk flw hd rea sig ++ (WF (va_up FA nF q5) (va_up ck nF (c1 * 40 + p1 * 4 + m1)) (va_up cf nF nL) (va_up cd nF d1) (upd cv nF vi) (va_up nx nF none) (nF + 1) ++ R)) H := hP
            have hD : va_D A (WD cI cO a (va_up FA nF q5) nC nR nL nF par wt stk flw hd rea sig ++ (WF (va_up FA nF q5) (va_up ck nF (c1 * 40 + p1 * 4 + m1)) (va_up cf nF nL) (va_up cd nF d1) (upd cv nF vi) (va_up nx nF none) (nF + 1) ++ R)) := hD
            have hq5 : q5 = va_up FA nF q5 nF := by simp [va_up]
            refine W.eq (g2 := F0 m9 97 ls [.ref (va_up FA nF q5 nF)]) (by rw [← hq5]; try rfl) ?_
            have hckv : (va_up ck nF (c1 * 40 + p1 * 4 + m1)) nF = c1 * 40 + p1 * 4 + m1 := by simp [va_up]
            have hckn : (va_up ck nF (c1 * 40 + p1 * 4 + m1)) nF < 480 := by rw [hckv]; omega
            have hcf' : ∀ k, (va_up cf nF nL) k < 2 ^ 31 := up_all (P := fun z => z < 2 ^ 31) hcf (by omega)
            have hcd' : ∀ k, (va_up cd nF d1) k ≤ 4 := up_all (P := fun z => z ≤ 4) hcd (by omega)
            have hLk : lk (va_up nx nF none) (hd ((va_up ck nF (c1 * 40 + p1 * 4 + m1)) nF)) (chn (va_up ck nF (c1 * 40 + p1 * 4 + m1)) (va_up cf nF nL) (va_up cd nF d1) ((va_up ck nF (c1 * 40 + p1 * 4 + m1)) nF) nF) := by
              rw [chn_congr (ck := ck) (kf := cf) (kd := cd) (fun j hj => ⟨up_ne hj, up_ne hj, up_ne hj⟩)]
              exact lk_congr (fun j hj => up_ne (chn_mem hj).1) (hCh.1 _ hckn)
            refine lv_astore (lv' := [(6, .ref (va_up FA nF q5 nF)), (0, .ref (a 0)), (1, .int (nI c1)), (2, .int (nI p1)), (3, .int (nI m1)), (4, .int vi), (5, .int (nI d1))]) hx hb dX4_tell_97 hl (by decide) rfl (fun ls hl => ?_)
            refine lv_aload_n hx hb dX4_tell_99 rfl (lv_at hl 1 rfl) ?_
            refine va_get (D := D) (ci := 3) (v := .ref (a 5)) (C := RX4) (T := TX4) (N := 11) hx hb hts win_X4 hown hK hP (0) (rfl) rfl 7 (by decide) w_5 (fun _ h9 => h9) rfl dX4_tell_100 ?_
            refine lv_aload hx hb dX4_tell_103 (lv_at hl 0 rfl) ?_
            have hq5 : (.ref q5 : Value) = .ref (va_up FA nF q5 nF) := by simp [va_up]
            refine va_callv (va_runV (As := [.ref (va_up FA nF q5 nF)]) (rest := []) ⟨hx, hb, hml, hown, hts⟩ (c3_keep l D cI cZ cO cL dt A a (va_up FA nF q5) nC nR nL nF par wt stk flw hd rea sig (va_up ck nF (c1 * 40 + p1 * 4 + m1)) (va_up cf nF nL) (va_up cd nF d1) (upd cv nF vi) (va_up nx nF none) R h80) (cwV 1 hts gX4_tell_X3_keep rfl rfl rfl (by decide +kernel) ⟨Nat.le_of_ble_eq_true rfl, Nat.le_of_ble_eq_true rfl⟩) (gP.v (hg.on hS) hP 2 rfl (5) (rfl) (⟨hP, hD⟩)) rfl rfl hl.1 rfl (lv_room (Nat.le_of_ble_eq_true rfl)) dX4_tell_105 ⟨Nat.le_of_ble_eq_true rfl, Nat.le_of_ble_eq_true rfl⟩) hS (fun q _ h => h) (fun q h => h) (fun ur_7 tr_7 H locs htr_7 hvmr_7 hwr_7 hB hzr_7 hkr_7 hS => ?_)
            rw [htr_7] at hB
            obtain ⟨hP, hD⟩ := hB
            have hP : va_P D vwCl (WD cI cO a (va_up FA nF q5) nC nR nL (nF + 1) par wt stk flw hd rea sig ++ (WF (va_up FA nF q5) (va_up ck nF (c1 * 40 + p1 * 4 + m1)) (va_up cf nF nL) (va_up cd nF d1) (upd cv nF vi) (va_up nx nF none) (nF + 1) ++ R)) H := hP
            have hD : va_D A (WD cI cO a (va_up FA nF q5) nC nR nL (nF + 1) par wt stk flw hd rea sig ++ (WF (va_up FA nF q5) (va_up ck nF (c1 * 40 + p1 * 4 + m1)) (va_up cf nF nL) (va_up cd nF d1) (upd cv nF vi) (va_up nx nF none) (nF + 1) ++ R)) := hD
            refine lv_aload_n hx hb dX4_tell_108 rfl (lv_at hl 1 rfl) ?_
            refine va_get (D := D) (ci := 3) (v := .ref (a 6)) (C := RX4) (T := TX4) (N := 11) hx hb hts win_X4 hown hK hP (0) (rfl) rfl 8 (by decide) w_15 (fun _ h9 => h9) rfl dX4_tell_109 ?_
            refine lv_aload hx hb dX4_tell_112 (lv_at hl 0 rfl) ?_
            refine va_callv (va_runV (As := [.ref (va_up FA nF q5 nF)]) (rest := []) ⟨hx, hb, hml, hown, hts⟩ (c2_keep l D cI cZ cO cL dt A a (va_up FA nF q5) nC nR nL (nF + 1) par wt stk flw hd rea sig (va_up ck nF (c1 * 40 + p1 * 4 + m1)) (va_up cf nF nL) (va_up cd nF d1) (upd cv nF vi) (va_up nx nF none) R nF (chn (va_up ck nF (c1 * 40 + p1 * 4 + m1)) (va_up cf nF nL) (va_up cd nF d1) ((va_up ck nF (c1 * 40 + p1 * 4 + m1)) nF) nF) (by omega) hckn hcf' hcd' hLk (fun j hj => by have := (chn_mem hj).1; omega) (fun z => Nat.lt_irrefl _ (chn_mem z).1)) (cwV 1 hts gX4_tell_X2_keep rfl rfl rfl (by decide +kernel) ⟨Nat.le_of_ble_eq_true rfl, Nat.le_of_ble_eq_true rfl⟩) (gP.v (hg.on hS) hP 1 rfl (6) (rfl) (⟨hP, hD⟩)) rfl rfl hl.1 rfl (lv_room (Nat.le_of_ble_eq_true rfl)) dX4_tell_114 ⟨Nat.le_of_ble_eq_true rfl, Nat.le_of_ble_eq_true rfl⟩) hS (fun q _ h => h) (fun q h => h) (fun ur_8 tr_8 H locs htr_8 hvmr_8 hwr_8 hB hzr_8 hkr_8 hS => ?_)
            rw [htr_8] at hB
            obtain ⟨hP, hD⟩ := hB
            have hP : va_P D vwCl (WD cI cO a (va_up FA nF q5) nC nR nL (nF + 1) par wt stk flw ur_8.1 rea sig ++ (WF (va_up FA nF q5) (va_up ck nF (c1 * 40 + p1 * 4 + m1)) (va_up cf nF nL) (va_up cd nF d1) (upd cv nF vi) ur_8.2 (nF + 1) ++ R)) H := hP
            have hD : va_D A (WD cI cO a (va_up FA nF q5) nC nR nL (nF + 1) par wt stk flw ur_8.1 rea sig ++ (WF (va_up FA nF q5) (va_up ck nF (c1 * 40 + p1 * 4 + m1)) (va_up cf nF nL) (va_up cd nF d1) (upd cv nF vi) ur_8.2 (nF + 1) ++ R)) := hD
            refine lv_aload_n hx hb dX4_tell_117 rfl (lv_at hl 1 rfl) ?_
            refine va_get (D := D) (ci := 3) (v := .ref (a 5)) (C := RX4) (T := TX4) (N := 11) hx hb hts win_X4 hown hK hP (0) (rfl) rfl 7 (by decide) w_5 (fun _ h9 => h9) rfl dX4_tell_118 ?_
            refine va_get (D := D) (ci := 2) (v := .int (nI (nF + 1))) (C := RX3) (T := TX3) (N := 2) hx hb hts win_X3 hown hK hP (5) (rfl) rfl 1 (by decide) w_16 (fun _ h9 => h9) rfl dX4_tell_121 ?_
            exact vx_ret (W.widen (k := 4) (n := 23) (Nat.le_of_ble_eq_true rfl) (Nat.le_of_ble_eq_true rfl) (W.iret (v := nI (nF + 1)) hx hb hr (fun t ht hW => ⟨⟨nI (nF + 1), (((c1, p1), (m1, d1)), (q5, ur_8)), rfl, ⟨⟨rfl, hc1⟩, ⟨rfl, hp1⟩, ⟨rfl, hm1⟩, hv, ⟨rfl, Nat.le_of_lt_succ hd1⟩, h80, rfl, hwr_8⟩, g_PD ht hP hD⟩, hS.F ht⟩) hS.2.2 dX4_tell_124))
          · skip
            have c_59 := bI_n c_59
            exact g_throw (D := D) (cI := cI) (cZ := cZ) (cO := cO) (cL := cL) (dt := dt) (A := A) (text := "there are 80 facts") hx hb hlt hown (by decide +kernel) w_18 w_19 (by decide +kernel) hg hat_0 gE_at0 hg.2.1.2.2.2.2.2.2.1 gE_ot0 (hl.1.trans hml.symm) dX4_tell_62 dX4_tell_65 dX4_tell_66 dX4_tell_68 dX4_tell_71 hout (Nat.le_of_ble_eq_true rfl) (Nat.le_of_ble_eq_true rfl) (Nat.le_of_ble_eq_true rfl) (Nat.le_of_ble_eq_true rfl) hlocks (Or.inr (Or.inr ⟨rfl, hkey, ⟨hv, ⟨d1, rfl, hd1⟩⟩, by omega⟩)) (Nat.le_of_ble_eq_true rfl) (Nat.le_of_ble_eq_true rfl)
        · skip
          have hbad : ¬ (((-1000000) ≤ vi ∧ vi ≤ (1000000)) ∧ cOk 5 di) := fun q => cOk_gt (n := 4) c_39 (by decide) q.2
          exact g_throw (D := D) (cI := cI) (cZ := cZ) (cO := cO) (cL := cL) (dt := dt) (A := A) (text := "the decimals are out of range") hx hb hlt hown (by decide +kernel) w_1 w_2 (by decide +kernel) hg hat_1 gE_at1 hg.2.1.2.2.2.2.2.2.2.1 gE_ot1 (hl.1.trans hml.symm) dX4_tell_42 dX4_tell_45 dX4_tell_46 dX4_tell_48 dX4_tell_51 hout (Nat.le_of_ble_eq_true rfl) (Nat.le_of_ble_eq_true rfl) (Nat.le_of_ble_eq_true rfl) (Nat.le_of_ble_eq_true rfl) hlocks (Or.inr (Or.inl ⟨rfl, hkey, hbad⟩)) (Nat.le_of_ble_eq_true rfl) (Nat.le_of_ble_eq_true rfl)
    · skip
      have hbad : ¬ (((-1000000) ≤ vi ∧ vi ≤ (1000000)) ∧ cOk 5 di) := fun q => c_18 q.1.2
      exact g_throw (D := D) (cI := cI) (cZ := cZ) (cO := cO) (cL := cL) (dt := dt) (A := A) (text := "the value is out of range") hx hb hlt hown (by decide +kernel) w_1 w_2 (by decide +kernel) hg hat_1 gE_at1 hg.2.1.2.2.2.2.2.2.2.1 gE_ot1 (hl.1.trans hml.symm) dX4_tell_21 dX4_tell_24 dX4_tell_25 dX4_tell_27 dX4_tell_30 hout (Nat.le_of_ble_eq_true rfl) (Nat.le_of_ble_eq_true rfl) (Nat.le_of_ble_eq_true rfl) (Nat.le_of_ble_eq_true rfl) hlocks (Or.inr (Or.inl ⟨rfl, hkey, hbad⟩)) (Nat.le_of_ble_eq_true rfl) (Nat.le_of_ble_eq_true rfl)
