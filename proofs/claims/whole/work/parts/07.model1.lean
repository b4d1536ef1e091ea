set_option maxHeartbeats 4000000 in
set_option maxRecDepth 100000 in
/-- n >= from && n <= to -/
theorem c5_isIn (l : Launch) (D : va_G) (cI cZ cO cL : ClassId) (dt : Nat) (A : Nat → Prop) (n f t : Int32) (ws : va_W)  : Met l yX5_isIn wsX5_isIn ({ frames := 0, cells := 0, slots := 0, locals := 0 } : Room) (gP D cI cZ cO cL dt A [.int n, .int f, .int t] (fun H => va_P D vwCl (ws) H)) (vp_Si (fun r => r = bI (f ≤ n ∧ n ≤ t))) 0 0 (fun _ => False) := by
  refine Met.ofW (cc := cX5_isIn) (maxL := 3) (ret := (some .boolean)) (by decide) rfl ?_
  intro p9 e9 s m9 args below meth c9 s₁ B hml hv
  obtain ⟨rfl, hg, hP⟩ := hv
  have hx := B.exec
  have hb := B.bytes
  have hr := B.returns
  have hts := atoms_spec (ws := wsX5_isIn) B.pre
  have hown : s.vm.findClass RX5 = some m9.cls := findClass_of_methodNamed B.named
  have hlocks := B.notSynchronized
  have hK := hg.1
  have hl := lv_entry ([.int n, .int f, .int t]) (n := 3) (Nat.le_of_ble_eq_true rfl)
  rw [lg_entry_eq]
  generalize (lg_sl ([.int n, .int f, .int t]) ++ List.replicate (3 - (lg_sl ([.int n, .int f, .int t])).length) Slot.unset).toArray = ls at hl ⊢
  have hl : lv_has ls 3 [(0, .int n), (1, .int f), (2, .int t)] := hl
  refine lv_iload_n hx hb dX5_isIn_0 rfl (lv_at hl 0 rfl) ?_
  refine lv_iload_n hx hb dX5_isIn_1 rfl (lv_at hl 1 rfl) ?_
  refine lv_icmp_lt (tgt := 14) hx hb dX5_isIn_2 (by decide) (fun c_2 => ?_) (fun c_2 => ?_)
  · skip
    refine lv_iconst (v := 0) hx hb dX5_isIn_14 (by decide) ?_
    exact W.zret (v := 0) hx hb hr (rfl) (fun t ht hW => ⟨0, rfl, (bI_f (fun q => by first | exact absurd q.1 (i_ltn c_2) | exact absurd q.2 (i_ltn c_7))), ht⟩) (fun q h => nomatch h) dX5_isIn_15
  · skip
    refine lv_iload_n hx hb dX5_isIn_5 rfl (lv_at hl 0 rfl) ?_
    refine lv_iload_n hx hb dX5_isIn_6 rfl (lv_at hl 2 rfl) ?_
    refine lv_icmp_gt (tgt := 14) hx hb dX5_isIn_7 (by decide) (fun c_7 => ?_) (fun c_7 => ?_)
    · skip
      refine lv_iconst (v := 0) hx hb dX5_isIn_14 (by decide) ?_
      exact W.zret (v := 0) hx hb hr (rfl) (fun t ht hW => ⟨0, rfl, (bI_f (fun q => by first | exact absurd q.1 (i_ltn c_2) | exact absurd q.2 (i_ltn c_7))), ht⟩) (fun q h => nomatch h) dX5_isIn_15
    · skip
      refine lv_iconst (v := 1) hx hb dX5_isIn_10 (by decide) ?_
      refine lv_goto (tgt := 15) hx hb dX5_isIn_11 (by decide) ?_
      exact W.zret (v := 1) hx hb hr (rfl) (fun t ht hW => ⟨1, rfl, (bI_t ⟨i_nlt c_2, i_nlt c_7⟩), ht⟩) (fun q h => nomatch h) dX5_isIn_15
set_option maxHeartbeats 4000000 in
set_option maxRecDepth 100000 in
/-- what was thrown last -/
theorem c5_thrown (l : Launch) (D : va_G) (cI cZ cO cL : ClassId) (dt : Nat) (A : Nat → Prop) (b : Nat → Nat) (mC mR mL mF : Nat) (mpar mwt mstk mflw : Nat → Int32) (mc mp mm mf md : Nat → Nat) (mv mder mkn : Nat → Int32) (thr : Int32) (R : va_W)   : Met l yX5_thrown wsX5_thrown ({ frames := 0, cells := 0, slots := 0, locals := 0 } : Room) (gP D cI cZ cO cL dt A [.ref (b 0)] (fun H => va_P D vwCl (WM cI cZ b mC mR mL mF mpar mwt mstk mflw mc mp mm mf md mv mder mkn thr ++ R) H)) (vp_Si (fun r => r = thr)) 0 0 (fun _ => False) := by
  refine Met.ofW (cc := cX5_thrown) (maxL := 1) (ret := (some .int)) (by decide) rfl ?_
  intro p9 e9 s m9 args below meth c9 s₁ B hml hv
  obtain ⟨rfl, hg, hP⟩ := hv
  have hx := B.exec
  have hb := B.bytes
  have hr := B.returns
  have hts := atoms_spec (ws := wsX5_thrown) B.pre
  have hown : s.vm.findClass RX5 = some m9.cls := findClass_of_methodNamed B.named
  have hlocks := B.notSynchronized
  have hK := hg.1
  have w_0 := hts (.fieldLink RX5 51 "DimfactsModel" "thrown" "I") (by decide +kernel)
  have win_X5 : ∀ w ∈ wsX50, w ∈ wsX5_thrown := by decide +kernel
  have hl := lv_entry ([.ref (b 0)]) (n := 1) (Nat.le_of_ble_eq_true rfl)
  rw [lg_entry_eq]
  generalize (lg_sl ([.ref (b 0)]) ++ List.replicate (1 - (lg_sl ([.ref (b 0)])).length) Slot.unset).toArray = ls at hl ⊢
  have hl : lv_has ls 1 [(0, .ref (b 0))] := hl
  refine lv_aload_n hx hb dX5_thrown_0 rfl (lv_at hl 0 rfl) ?_
  refine va_get (D := D) (ci := 4) (v := .int thr) (C := RX5) (T := TX5) (N := 17) hx hb hts win_X5 hown hK hP (0) (rfl) rfl 16 (by decide) w_0 (fun _ h9 => h9) rfl dX5_thrown_1 ?_
  exact W.iret (v := thr) hx hb hr (fun t ht hW => ⟨thr, rfl, rfl, ht⟩) (fun q h => nomatch h) dX5_thrown_4
set_option maxHeartbeats 4000000 in
set_option maxRecDepth 100000 in
/-- a concept -/
theorem c5_isConcept (l : Launch) (D : va_G) (cI cZ cO cL : ClassId) (dt : Nat) (A : Nat → Prop) (b : Nat → Nat) (mC mR mL mF : Nat) (mpar mwt mstk mflw : Nat → Int32) (mc mp mm mf md : Nat → Nat) (mv mder mkn : Nat → Int32) (thr : Int32) (R : va_W) (n : Int32)  : Met l yX5_isConcept wsX5_isConcept ({ frames := 1, cells := 0, slots := 0, locals := 22 } : Room) (gP D cI cZ cO cL dt A [.ref (b 0), .int n] (fun H => va_P D vwCl (WM cI cZ b mC mR mL mF mpar mwt mstk mflw mc mp mm mf md mv mder mkn thr ++ R) H)) (vp_Si (fun r => r = bI (0 ≤ n ∧ n ≤ nI mC - 1))) 0 0 (fun _ => False) := by
  refine Met.ofW (cc := cX5_isConcept) (maxL := 2) (ret := (some .boolean)) (by decide) rfl ?_
  intro p9 e9 s m9 args below meth c9 s₁ B hml hv
  obtain ⟨rfl, hg, hP⟩ := hv
  have hx := B.exec
  have hb := B.bytes
  have hr := B.returns
  have hts := atoms_spec (ws := wsX5_isConcept) B.pre
  have hown : s.vm.findClass RX5 = some m9.cls := findClass_of_methodNamed B.named
  have hlocks := B.notSynchronized
  have hK := hg.1
  have w_0 := hts (.fieldLink RX5 54 "DimfactsModel" "concepts" "I") (by decide +kernel)
  have win_X5 : ∀ w ∈ wsX50, w ∈ wsX5_isConcept := by decide +kernel
  have hl := lv_entry ([.ref (b 0), .int n]) (n := 2) (Nat.le_of_ble_eq_true rfl)
  rw [lg_entry_eq]
  generalize (lg_sl ([.ref (b 0), .int n]) ++ List.replicate (2 - (lg_sl ([.ref (b 0), .int n])).length) Slot.unset).toArray = ls at hl ⊢
  have hl : lv_has ls 2 [(0, .ref (b 0)), (1, .int n)] := hl
  refine lv_iload_n hx hb dX5_isConcept_0 rfl (lv_at hl 1 rfl) ?_
  refine lv_iconst (v := 0) hx hb dX5_isConcept_1 (by decide) ?_
  refine lv_aload_n hx hb dX5_isConcept_2 rfl (lv_at hl 0 rfl) ?_
  refine va_get (D := D) (ci := 4) (v := .int (nI mC)) (C := RX5) (T := TX5) (N := 17) hx hb hts win_X5 hown hK hP (0) (rfl) rfl 0 (by decide) w_0 (fun _ h9 => h9) rfl dX5_isConcept_3 ?_
  refine lv_iconst (v := 1) hx hb dX5_isConcept_6 (by decide) ?_
  refine lv_isub hx hb dX5_isConcept_7 ?_
  refine g_csi (va_runS (As := [.int n, .int 0, .int ((nI mC) - 1)]) (rest := []) ⟨hx, hb, hml, hown, hts⟩ (c5_isIn l D cI cZ cO cL dt A n 0 (nI mC - 1) (WM cI cZ b mC mR mL mF mpar mwt mstk mflw mc mp mm mf md mv mder mkn thr ++ R)) (va_cwS 3 hts gX5_isConcept_X5_isIn rfl rfl rfl (by decide +kernel) ⟨Nat.le_of_ble_eq_true rfl, Nat.le_of_ble_eq_true rfl⟩) (gP.s hg hP) rfl rfl hl.1 rfl (lv_room (Nat.le_of_ble_eq_true rfl)) dX5_isConcept_8 ⟨Nat.le_of_ble_eq_true rfl, Nat.le_of_ble_eq_true rfl⟩) (fun r_1 hr_1 => ?_)
  obtain rfl : r_1 = bI (0 ≤ n ∧ n ≤ nI mC - 1) := hr_1
  exact W.zret (v := bI (0 ≤ n ∧ n ≤ nI mC - 1)) hx hb hr (bI_nr _) (fun t ht hW => ⟨bI (0 ≤ n ∧ n ≤ nI mC - 1), rfl, rfl, ht⟩) (fun q h => nomatch h) dX5_isConcept_11
set_option maxHeartbeats 4000000 in
set_option maxRecDepth 100000 in
/-- a filing -/
theorem c5_isFiling (l : Launch) (D : va_G) (cI cZ cO cL : ClassId) (dt : Nat) (A : Nat → Prop) (b : Nat → Nat) (mC mR mL mF : Nat) (mpar mwt mstk mflw : Nat → Int32) (mc mp mm mf md : Nat → Nat) (mv mder mkn : Nat → Int32) (thr : Int32) (R : va_W) (n : Int32)  : Met l yX5_isFiling wsX5_isFiling ({ frames := 1, cells := 0, slots := 0, locals := 22 } : Room) (gP D cI cZ cO cL dt A [.ref (b 0), .int n] (fun H => va_P D vwCl (WM cI cZ b mC mR mL mF mpar mwt mstk mflw mc mp mm mf md mv mder mkn thr ++ R) H)) (vp_Si (fun r => r = bI (0 ≤ n ∧ n ≤ nI (mL + 1) - 1))) 0 0 (fun _ => False) := by
  refine Met.ofW (cc := cX5_isFiling) (maxL := 2) (ret := (some .boolean)) (by decide) rfl ?_
  intro p9 e9 s m9 args below meth c9 s₁ B hml hv
  obtain ⟨rfl, hg, hP⟩ := hv
  have hx := B.exec
  have hb := B.bytes
  have hr := B.returns
  have hts := atoms_spec (ws := wsX5_isFiling) B.pre
  have hown : s.vm.findClass RX5 = some m9.cls := findClass_of_methodNamed B.named
  have hlocks := B.notSynchronized
  have hK := hg.1
  have w_0 := hts (.fieldLink RX5 22 "DimfactsModel" "filings" "I") (by decide +kernel)
  have win_X5 : ∀ w ∈ wsX50, w ∈ wsX5_isFiling := by decide +kernel
  have hl := lv_entry ([.ref (b 0), .int n]) (n := 2) (Nat.le_of_ble_eq_true rfl)
  rw [lg_entry_eq]
  generalize (lg_sl ([.ref (b 0), .int n]) ++ List.replicate (2 - (lg_sl ([.ref (b 0), .int n])).length) Slot.unset).toArray = ls at hl ⊢
  have hl : lv_has ls 2 [(0, .ref (b 0)), (1, .int n)] := hl
  refine lv_iload_n hx hb dX5_isFiling_0 rfl (lv_at hl 1 rfl) ?_
  refine lv_iconst (v := 0) hx hb dX5_isFiling_1 (by decide) ?_
  refine lv_aload_n hx hb dX5_isFiling_2 rfl (lv_at hl 0 rfl) ?_
  refine va_get (D := D) (ci := 4) (v := .int (nI (mL + 1))) (C := RX5) (T := TX5) (N := 17) hx hb hts win_X5 hown hK hP (0) (rfl) rfl 6 (by decide) w_0 (fun _ h9 => h9) rfl dX5_isFiling_3 ?_
  refine lv_iconst (v := 1) hx hb dX5_isFiling_6 (by decide) ?_
  refine lv_isub hx hb dX5_isFiling_7 ?_
  refine g_csi (va_runS (As := [.int n, .int 0, .int ((nI (mL + 1)) - 1)]) (rest := []) ⟨hx, hb, hml, hown, hts⟩ (c5_isIn l D cI cZ cO cL dt A n 0 (nI (mL + 1) - 1) (WM cI cZ b mC mR mL mF mpar mwt mstk mflw mc mp mm mf md mv mder mkn thr ++ R)) (va_cwS 3 hts gX5_isFiling_X5_isIn rfl rfl rfl (by decide +kernel) ⟨Nat.le_of_ble_eq_true rfl, Nat.le_of_ble_eq_true rfl⟩) (gP.s hg hP) rfl rfl hl.1 rfl (lv_room (Nat.le_of_ble_eq_true rfl)) dX5_isFiling_8 ⟨Nat.le_of_ble_eq_true rfl, Nat.le_of_ble_eq_true rfl⟩) (fun r_1 hr_1 => ?_)
  obtain rfl : r_1 = bI (0 ≤ n ∧ n ≤ nI (mL + 1) - 1) := hr_1
  exact W.zret (v := bI (0 ≤ n ∧ n ≤ nI (mL + 1) - 1)) hx hb hr (bI_nr _) (fun t ht hW => ⟨bI (0 ≤ n ∧ n ≤ nI (mL + 1) - 1), rfl, rfl, ht⟩) (fun q h => nomatch h) dX5_isFiling_11
set_option maxHeartbeats 4000000 in
set_option maxRecDepth 100000 in
/-- a key -/
theorem c5_isKey (l : Launch) (D : va_G) (cI cZ cO cL : ClassId) (dt : Nat) (A : Nat → Prop) (b : Nat → Nat) (mC mR mL mF : Nat) (mpar mwt mstk mflw : Nat → Int32) (mc mp mm mf md : Nat → Nat) (mv mder mkn : Nat → Int32) (thr : Int32) (R : va_W) (c p m : Int32)  : Met l yX5_isKey wsX5_isKey ({ frames := 2, cells := 0, slots := 0, locals := 43 } : Room) (gP D cI cZ cO cL dt A [.ref (b 0), .int c, .int p, .int m] (fun H => va_P D vwCl (WM cI cZ b mC mR mL mF mpar mwt mstk mflw mc mp mm mf md mv mder mkn thr ++ R) H)) (vp_Si (fun r => r = bI ((0 ≤ c ∧ c ≤ nI mC - 1) ∧ (0 ≤ p ∧ p ≤ 9) ∧ (0 ≤ m ∧ m ≤ 3)))) 0 0 (fun _ => False) := by
  refine Met.ofW (cc := cX5_isKey) (maxL := 4) (ret := (some .boolean)) (by decide) rfl ?_
  intro p9 e9 s m9 args below meth c9 s₁ B hml hv
  obtain ⟨rfl, hg, hP⟩ := hv
  have hx := B.exec
  have hb := B.bytes
  have hr := B.returns
  have hts := atoms_spec (ws := wsX5_isKey) B.pre
  have hown : s.vm.findClass RX5 = some m9.cls := findClass_of_methodNamed B.named
  have hlocks := B.notSynchronized
  have hK := hg.1
  have hl := lv_entry ([.ref (b 0), .int c, .int p, .int m]) (n := 4) (Nat.le_of_ble_eq_true rfl)
  rw [lg_entry_eq]
  generalize (lg_sl ([.ref (b 0), .int c, .int p, .int m]) ++ List.replicate (4 - (lg_sl ([.ref (b 0), .int c, .int p, .int m])).length) Slot.unset).toArray = ls at hl ⊢
  have hl : lv_has ls 4 [(0, .ref (b 0)), (1, .int c), (2, .int p), (3, .int m)] := hl
  refine lv_aload_n hx hb dX5_isKey_0 rfl (lv_at hl 0 rfl) ?_
  refine lv_iload_n hx hb dX5_isKey_1 rfl (lv_at hl 1 rfl) ?_
  refine g_csi (va_runV (As := [.int c]) (rest := []) ⟨hx, hb, hml, hown, hts⟩ (c5_isConcept l D cI cZ cO cL dt A b mC mR mL mF mpar mwt mstk mflw mc mp mm mf md mv mder mkn thr R c) (cwV 1 hts gX5_isKey_X5_isConcept rfl rfl rfl (by decide +kernel) ⟨Nat.le_of_ble_eq_true rfl, Nat.le_of_ble_eq_true rfl⟩) (gP.v hg hP 4 rfl (0) (rfl) hP) rfl rfl hl.1 rfl (lv_room (Nat.le_of_ble_eq_true rfl)) dX5_isKey_2 ⟨Nat.le_of_ble_eq_true rfl, Nat.le_of_ble_eq_true rfl⟩) (fun r_1 hr_1 => ?_)
  obtain rfl : r_1 = bI (0 ≤ c ∧ c ≤ nI mC - 1) := hr_1
  refine lv_if_eq (tgt := 31) hx hb dX5_isKey_5 (by decide) (fun c_5 => ?_) (fun c_5 => ?_)
  · skip
    have c_5 := bI_z c_5
    refine lv_iconst (v := 0) hx hb dX5_isKey_31 (by decide) ?_
    exact W.zret (v := 0) hx hb hr (rfl) (fun t ht hW => ⟨0, rfl, (bI_f (fun q => by first | exact c_5 q.1 | exact c_15 q.2.1 | exact c_24 q.2.2)), ht⟩) (fun q h => nomatch h) dX5_isKey_32
  · skip
    have c_5 := bI_n c_5
    refine lv_iload_n hx hb dX5_isKey_8 rfl (lv_at hl 2 rfl) ?_
    refine lv_iconst (v := 0) hx hb dX5_isKey_9 (by decide) ?_
    refine lv_bipush (v := 9) hx hb dX5_isKey_10 (by decide) ?_
    refine g_csi (va_runS (As := [.int p, .int 0, .int 9]) (rest := []) ⟨hx, hb, hml, hown, hts⟩ (c5_isIn l D cI cZ cO cL dt A p 0 9 (WM cI cZ b mC mR mL mF mpar mwt mstk mflw mc mp mm mf md mv mder mkn thr ++ R)) (va_cwS 3 hts gX5_isKey_X5_isIn rfl rfl rfl (by decide +kernel) ⟨Nat.le_of_ble_eq_true rfl, Nat.le_of_ble_eq_true rfl⟩) (gP.s hg hP) rfl rfl hl.1 rfl (lv_room (Nat.le_of_ble_eq_true rfl)) dX5_isKey_12 ⟨Nat.le_of_ble_eq_true rfl, Nat.le_of_ble_eq_true rfl⟩) (fun r_2 hr_2 => ?_)
    obtain rfl : r_2 = bI (0 ≤ p ∧ p ≤ 9) := hr_2
    refine lv_if_eq (tgt := 31) hx hb dX5_isKey_15 (by decide) (fun c_15 => ?_) (fun c_15 => ?_)
    · skip
      have c_15 := bI_z c_15
      refine lv_iconst (v := 0) hx hb dX5_isKey_31 (by decide) ?_
      exact W.zret (v := 0) hx hb hr (rfl) (fun t ht hW => ⟨0, rfl, (bI_f (fun q => by first | exact c_5 q.1 | exact c_15 q.2.1 | exact c_24 q.2.2)), ht⟩) (fun q h => nomatch h) dX5_isKey_32
    · skip
      have c_15 := bI_n c_15
      refine lv_iload_n hx hb dX5_isKey_18 rfl (lv_at hl 3 rfl) ?_
      refine lv_iconst (v := 0) hx hb dX5_isKey_19 (by decide) ?_
      refine lv_iconst (v := 3) hx hb dX5_isKey_20 (by decide) ?_
      refine g_csi (va_runS (As := [.int m, .int 0, .int 3]) (rest := []) ⟨hx, hb, hml, hown, hts⟩ (c5_isIn l D cI cZ cO cL dt A m 0 3 (WM cI cZ b mC mR mL mF mpar mwt mstk mflw mc mp mm mf md mv mder mkn thr ++ R)) (va_cwS 3 hts gX5_isKey_X5_isIn rfl rfl rfl (by decide +kernel) ⟨Nat.le_of_ble_eq_true rfl, Nat.le_of_ble_eq_true rfl⟩) (gP.s hg hP) rfl rfl hl.1 rfl (lv_room (Nat.le_of_ble_eq_true rfl)) dX5_isKey_21 ⟨Nat.le_of_ble_eq_true rfl, Nat.le_of_ble_eq_true rfl⟩) (fun r_3 hr_3 => ?_)
      obtain rfl : r_3 = bI (0 ≤ m ∧ m ≤ 3) := hr_3
      refine lv_if_eq (tgt := 31) hx hb dX5_isKey_24 (by decide) (fun c_24 => ?_) (fun c_24 => ?_)
      · skip
        have c_24 := bI_z c_24
        refine lv_iconst (v := 0) hx hb dX5_isKey_31 (by decide) ?_
        exact W.zret (v := 0) hx hb hr (rfl) (fun t ht hW => ⟨0, rfl, (bI_f (fun q => by first | exact c_5 q.1 | exact c_15 q.2.1 | exact c_24 q.2.2)), ht⟩) (fun q h => nomatch h) dX5_isKey_32
      · skip
        have c_24 := bI_n c_24
        refine lv_iconst (v := 1) hx hb dX5_isKey_27 (by decide) ?_
        refine lv_goto (tgt := 32) hx hb dX5_isKey_28 (by decide) ?_
        exact W.zret (v := 1) hx hb hr (rfl) (fun t ht hW => ⟨1, rfl, (bI_t ⟨c_5, c_15, c_24⟩), ht⟩) (fun q h => nomatch h) dX5_isKey_32
set_option maxHeartbeats 4000000 in
set_option maxRecDepth 100000 in
/-- a key and a filing -/
theorem c5_isAsked (l : Launch) (D : va_G) (cI cZ cO cL : ClassId) (dt : Nat) (A : Nat → Prop) (b : Nat → Nat) (mC mR mL mF : Nat) (mpar mwt mstk mflw : Nat → Int32) (mc mp mm mf md : Nat → Nat) (mv mder mkn : Nat → Int32) (thr : Int32) (R : va_W) (c p m f : Int32)  : Met l yX5_isAsked wsX5_isAsked ({ frames := 3, cells := 0, slots := 0, locals := 66 } : Room) (gP D cI cZ cO cL dt A [.ref (b 0), .int c, .int p, .int m, .int f] (fun H => va_P D vwCl (WM cI cZ b mC mR mL mF mpar mwt mstk mflw mc mp mm mf md mv mder mkn thr ++ R) H)) (vp_Si (fun r => r = bI (((0 ≤ c ∧ c ≤ nI mC - 1) ∧ (0 ≤ p ∧ p ≤ 9) ∧ (0 ≤ m ∧ m ≤ 3)) ∧ (0 ≤ f ∧ f ≤ nI (mL + 1) - 1)))) 0 0 (fun _ => False) := by
  refine Met.ofW (cc := cX5_isAsked) (maxL := 5) (ret := (some .boolean)) (by decide) rfl ?_
  intro p9 e9 s m9 args below meth c9 s₁ B hml hv
  obtain ⟨rfl, hg, hP⟩ := hv
  have hx := B.exec
  have hb := B.bytes
  have hr := B.returns
  have hts := atoms_spec (ws := wsX5_isAsked) B.pre
  have hown : s.vm.findClass RX5 = some m9.cls := findClass_of_methodNamed B.named
  have hlocks := B.notSynchronized
  have hK := hg.1
  have hl := lv_entry ([.ref (b 0), .int c, .int p, .int m, .int f]) (n := 5) (Nat.le_of_ble_eq_true rfl)
  rw [lg_entry_eq]
  generalize (lg_sl ([.ref (b 0), .int c, .int p, .int m, .int f]) ++ List.replicate (5 - (lg_sl ([.ref (b 0), .int c, .int p, .int m, .int f])).length) Slot.unset).toArray = ls at hl ⊢
  have hl : lv_has ls 5 [(0, .ref (b 0)), (1, .int c), (2, .int p), (3, .int m), (4, .int f)] := hl
  refine lv_aload_n hx hb dX5_isAsked_0 rfl (lv_at hl 0 rfl) ?_
  refine lv_iload_n hx hb dX5_isAsked_1 rfl (lv_at hl 1 rfl) ?_
  refine lv_iload_n hx hb dX5_isAsked_2 rfl (lv_at hl 2 rfl) ?_
  refine lv_iload_n hx hb dX5_isAsked_3 rfl (lv_at hl 3 rfl) ?_
  refine g_csi (va_runV (As := [.int c, .int p, .int m]) (rest := []) ⟨hx, hb, hml, hown, hts⟩ (c5_isKey l D cI cZ cO cL dt A b mC mR mL mF mpar mwt mstk mflw mc mp mm mf md mv mder mkn thr R c p m) (cwV 3 hts gX5_isAsked_X5_isKey rfl rfl rfl (by decide +kernel) ⟨Nat.le_of_ble_eq_true rfl, Nat.le_of_ble_eq_true rfl⟩) (gP.v hg hP 4 rfl (0) (rfl) hP) rfl rfl hl.1 rfl (lv_room (Nat.le_of_ble_eq_true rfl)) dX5_isAsked_4 ⟨Nat.le_of_ble_eq_true rfl, Nat.le_of_ble_eq_true rfl⟩) (fun r_1 hr_1 => ?_)
  obtain rfl : r_1 = bI ((0 ≤ c ∧ c ≤ nI mC - 1) ∧ (0 ≤ p ∧ p ≤ 9) ∧ (0 ≤ m ∧ m ≤ 3)) := hr_1
  refine lv_if_eq (tgt := 23) hx hb dX5_isAsked_7 (by decide) (fun c_7 => ?_) (fun c_7 => ?_)
  · skip
    have c_7 := bI_z c_7
    refine lv_iconst (v := 0) hx hb dX5_isAsked_23 (by decide) ?_
    exact W.zret (v := 0) hx hb hr (rfl) (fun t ht hW => ⟨0, rfl, (bI_f (fun q => by first | exact c_7 q.1 | exact c_16 q.2)), ht⟩) (fun q h => nomatch h) dX5_isAsked_24
  · skip
    have c_7 := bI_n c_7
    refine lv_aload_n hx hb dX5_isAsked_10 rfl (lv_at hl 0 rfl) ?_
    refine lv_iload hx hb dX5_isAsked_11 (lv_at hl 4 rfl) ?_
    refine g_csi (va_runV (As := [.int f]) (rest := []) ⟨hx, hb, hml, hown, hts⟩ (c5_isFiling l D cI cZ cO cL dt A b mC mR mL mF mpar mwt mstk mflw mc mp mm mf md mv mder mkn thr R f) (cwV 1 hts gX5_isAsked_X5_isFiling rfl rfl rfl (by decide +kernel) ⟨Nat.le_of_ble_eq_true rfl, Nat.le_of_ble_eq_true rfl⟩) (gP.v hg hP 4 rfl (0) (rfl) hP) rfl rfl hl.1 rfl (lv_room (Nat.le_of_ble_eq_true rfl)) dX5_isAsked_13 ⟨Nat.le_of_ble_eq_true rfl, Nat.le_of_ble_eq_true rfl⟩) (fun r_2 hr_2 => ?_)
    obtain rfl : r_2 = bI (0 ≤ f ∧ f ≤ nI (mL + 1) - 1) := hr_2
    refine lv_if_eq (tgt := 23) hx hb dX5_isAsked_16 (by decide) (fun c_16 => ?_) (fun c_16 => ?_)
    · skip
      have c_16 := bI_z c_16
      refine lv_iconst (v := 0) hx hb dX5_isAsked_23 (by decide) ?_
      exact W.zret (v := 0) hx hb hr (rfl) (fun t ht hW => ⟨0, rfl, (bI_f (fun q => by first | exact c_7 q.1 | exact c_16 q.2)), ht⟩) (fun q h => nomatch h) dX5_isAsked_24
    · skip
      have c_16 := bI_n c_16
      refine lv_iconst (v := 1) hx hb dX5_isAsked_19 (by decide) ?_
      refine lv_goto (tgt := 24) hx hb dX5_isAsked_20 (by decide) ?_
      exact W.zret (v := 1) hx hb hr (rfl) (fun t ht hW => ⟨1, rfl, (bI_t ⟨c_7, c_16⟩), ht⟩) (fun q h => nomatch h) dX5_isAsked_24
set_option maxHeartbeats 4000000 in
set_option maxRecDepth 100000 in
/-- a fact of a key -/
theorem c5_isOf (l : Launch) (D : va_G) (cI cZ cO cL : ClassId) (dt : Nat) (A : Nat → Prop) (b : Nat → Nat) (mC mR mL mF : Nat) (mpar mwt mstk mflw : Nat → Int32) (mc mp mm mf md : Nat → Nat) (mv mder mkn : Nat → Int32) (thr : Int32) (R : va_W) (k : Nat) (c p m : Int32) (hk : k < 80) : Met l yX5_isOf wsX5_isOf ({ frames := 0, cells := 0, slots := 0, locals := 0 } : Room) (gP D cI cZ cO cL dt A [.ref (b 0), .int (nI k), .int c, .int p, .int m] (fun H => va_P D vwCl (WM cI cZ b mC mR mL mF mpar mwt mstk mflw mc mp mm mf md mv mder mkn thr ++ R) H)) (vp_Si (fun r => r = bI (nI (mc k) = c ∧ nI (mp k) = p ∧ nI (mm k) = m))) 0 0 (fun _ => False) := by
  refine Met.ofW (cc := cX5_isOf) (maxL := 5) (ret := (some .boolean)) (by decide) rfl ?_
  intro p9 e9 s m9 args below meth c9 s₁ B hml hv
  obtain ⟨rfl, hg, hP⟩ := hv
  have hx := B.exec
  have hb := B.bytes
  have hr := B.returns
  have hts := atoms_spec (ws := wsX5_isOf) B.pre
  have hown : s.vm.findClass RX5 = some m9.cls := findClass_of_methodNamed B.named
  have hlocks := B.notSynchronized
  have hK := hg.1
  have w_0 := hts (.fieldLink RX5 26 "DimfactsModel" "concept" "[I") (by decide +kernel)
  have win_X5 : ∀ w ∈ wsX50, w ∈ wsX5_isOf := by decide +kernel
  have w_2 := hts (.fieldLink RX5 29 "DimfactsModel" "period" "[I") (by decide +kernel)
  have w_3 := hts (.fieldLink RX5 32 "DimfactsModel" "member" "[I") (by decide +kernel)
  have hl := lv_entry ([.ref (b 0), .int (nI k), .int c, .int p, .int m]) (n := 5) (Nat.le_of_ble_eq_true rfl)
  rw [lg_entry_eq]
  generalize (lg_sl ([.ref (b 0), .int (nI k), .int c, .int p, .int m]) ++ List.replicate (5 - (lg_sl ([.ref (b 0), .int (nI k), .int c, .int p, .int m])).length) Slot.unset).toArray = ls at hl ⊢
  have hl : lv_has ls 5 [(0, .ref (b 0)), (1, .int (nI k)), (2, .int c), (3, .int p), (4, .int m)] := hl
  refine lv_aload_n hx hb dX5_isOf_0 rfl (lv_at hl 0 rfl) ?_
  refine va_get (D := D) (ci := 4) (v := .ref (b 5)) (C := RX5) (T := TX5) (N := 17) hx hb hts win_X5 hown hK hP (0) (rfl) rfl 8 (by decide) w_0 (fun _ h9 => h9) rfl dX5_isOf_1 ?_
  refine lv_iload_n hx hb dX5_isOf_4 rfl (lv_at hl 1 rfl) ?_
  refine g_iald hx hb hK hP (5) 0 (n := 80) (f := (fun k => nI (mc k))) (rfl) rfl k rfl (by omega) (by decide) dX5_isOf_5 ?_
  refine lv_iload_n hx hb dX5_isOf_6 rfl (lv_at hl 2 rfl) ?_
  refine lv_icmp_ne (tgt := 35) hx hb dX5_isOf_7 (by decide) (fun c_7 => ?_) (fun c_7 => ?_)
  · skip
    refine lv_iconst (v := 0) hx hb dX5_isOf_35 (by decide) ?_
    exact W.zret (v := 0) hx hb hr (rfl) (fun t ht hW => ⟨0, rfl, (bI_f (fun q => by first | exact c_7 q.1 | exact c_17 q.2.1 | exact c_28 q.2.2)), ht⟩) (fun q h => nomatch h) dX5_isOf_36
  · skip
    refine lv_aload_n hx hb dX5_isOf_10 rfl (lv_at hl 0 rfl) ?_
    refine va_get (D := D) (ci := 4) (v := .ref (b 6)) (C := RX5) (T := TX5) (N := 17) hx hb hts win_X5 hown hK hP (0) (rfl) rfl 9 (by decide) w_2 (fun _ h9 => h9) rfl dX5_isOf_11 ?_
    refine lv_iload_n hx hb dX5_isOf_14 rfl (lv_at hl 1 rfl) ?_
    refine g_iald hx hb hK hP (6) 0 (n := 80) (f := (fun k => nI (mp k))) (rfl) rfl k rfl (by omega) (by decide) dX5_isOf_15 ?_
    refine lv_iload_n hx hb dX5_isOf_16 rfl (lv_at hl 3 rfl) ?_
    refine lv_icmp_ne (tgt := 35) hx hb dX5_isOf_17 (by decide) (fun c_17 => ?_) (fun c_17 => ?_)
    · skip
      refine lv_iconst (v := 0) hx hb dX5_isOf_35 (by decide) ?_
      exact W.zret (v := 0) hx hb hr (rfl) (fun t ht hW => ⟨0, rfl, (bI_f (fun q => by first | exact c_7 q.1 | exact c_17 q.2.1 | exact c_28 q.2.2)), ht⟩) (fun q h => nomatch h) dX5_isOf_36
    · skip
      refine lv_aload_n hx hb dX5_isOf_20 rfl (lv_at hl 0 rfl) ?_
      refine va_get (D := D) (ci := 4) (v := .ref (b 7)) (C := RX5) (T := TX5) (N := 17) hx hb hts win_X5 hown hK hP (0) (rfl) rfl 10 (by decide) w_3 (fun _ h9 => h9) rfl dX5_isOf_21 ?_
      refine lv_iload_n hx hb dX5_isOf_24 rfl (lv_at hl 1 rfl) ?_
      refine g_iald hx hb hK hP (7) 0 (n := 80) (f := (fun k => nI (mm k))) (rfl) rfl k rfl (by omega) (by decide) dX5_isOf_25 ?_
      refine lv_iload hx hb dX5_isOf_26 (lv_at hl 4 rfl) ?_
      refine lv_icmp_ne (tgt := 35) hx hb dX5_isOf_28 (by decide) (fun c_28 => ?_) (fun c_28 => ?_)
      · skip
        refine lv_iconst (v := 0) hx hb dX5_isOf_35 (by decide) ?_
        exact W.zret (v := 0) hx hb hr (rfl) (fun t ht hW => ⟨0, rfl, (bI_f (fun q => by first | exact c_7 q.1 | exact c_17 q.2.1 | exact c_28 q.2.2)), ht⟩) (fun q h => nomatch h) dX5_isOf_36
      · skip
        refine lv_iconst (v := 1) hx hb dX5_isOf_31 (by decide) ?_
        refine lv_goto (tgt := 36) hx hb dX5_isOf_32 (by decide) ?_
        exact W.zret (v := 1) hx hb hr (rfl) (fun t ht hW => ⟨1, rfl, (bI_t ⟨c_7, c_17, c_28⟩), ht⟩) (fun q h => nomatch h) dX5_isOf_36
set_option maxHeartbeats 4000000 in
set_option maxRecDepth 100000 in
/-- what holds for a key as of a filing -/
theorem c5_holds (l : Launch) (D : va_G) (cI cZ cO cL : ClassId) (dt : Nat) (A : Nat → Prop) (b : Nat → Nat) (mC mR mL mF : Nat) (mpar mwt mstk mflw : Nat → Int32) (mc mp mm mf md : Nat → Nat) (mv mder mkn : Nat → Int32) (thr : Int32) (R : va_W) (c p m f : Int32) (hF : mF ≤ 80) (hmf : ∀ k, mf k < 2 ^ 31) (hmd : ∀ k, md k < 2 ^ 31) : Met l yX5_holds wsX5_holds ({ frames := 1, cells := 0, slots := 0, locals := 24 } : Room) (gP D cI cZ cO cL dt A [.ref (b 0), .int c, .int p, .int m, .int f] (fun H => va_P D vwCl (WM cI cZ b mC mR mL mF mpar mwt mstk mflw mc mp mm mf md mv mder mkn thr ++ R) H)) (vp_Si (fun r => r = oI (sel (qM mc mp mm mf c p m f) mf md mF))) 0 0 (fun _ => False) := by
  refine Met.ofW (cc := cX5_holds) (maxL := 8) (ret := (some .int)) (by decide) rfl ?_
  intro p9 e9 s m9 args below meth c9 s₁ B hml hv
  obtain ⟨rfl, hg, hP⟩ := hv
  have hx := B.exec
  have hb := B.bytes
  have hr := B.returns
  have hts := atoms_spec (ws := wsX5_holds) B.pre
  have hown : s.vm.findClass RX5 = some m9.cls := findClass_of_methodNamed B.named
  have hlocks := B.notSynchronized
  have hK := hg.1
  have w_0 := hts (.fieldLink RX5 80 "DimfactsModel" "facts" "I") (by decide +kernel)
  have win_X5 : ∀ w ∈ wsX50, w ∈ wsX5_holds := by decide +kernel
  have w_2 := hts (.fieldLink RX5 35 "DimfactsModel" "filed" "[I") (by decide +kernel)
  have w_3 := hts (.fieldLink RX5 41 "DimfactsModel" "decimals" "[I") (by decide +kernel)
  have hl := lv_entry ([.ref (b 0), .int c, .int p, .int m, .int f]) (n := 8) (Nat.le_of_ble_eq_true rfl)
  rw [lg_entry_eq]
  generalize (lg_sl ([.ref (b 0), .int c, .int p, .int m, .int f]) ++ List.replicate (8 - (lg_sl ([.ref (b 0), .int c, .int p, .int m, .int f])).length) Slot.unset).toArray = ls at hl ⊢
  have hl : lv_has ls 8 [(0, .ref (b 0)), (1, .int c), (2, .int p), (3, .int m), (4, .int f)] := hl
  have lp : ∀ (n k : Nat) (x5 : Int32), mF < k + n → k ≤ mF → x5 = oI (sel (qM mc mp mm mf c p m f) mf md k) → ∀ ls : Array Slot, lv_has ls 8 [(6, .int (nI k)), (5, .int x5), (4, .int f), (3, .int m), (2, .int p), (1, .int c), (0, .ref (b 0))] → W p9 l e9 (headSpec wsX5_holds ({ frames := 1, cells := 0, slots := 0, locals := 24 } : Room)).room s m9 ([.ref (b 0), .int c, .int p, .int m, .int f] : List Value).toArray below meth c9 s.heap [] 0 0 (MQ below (vp_Si (fun r => r = oI (sel (qM mc mp mm mf c p m f) mf md mF))) ([.ref (b 0), .int c, .int p, .int m, .int f] : List Value).toArray s 0 0 (fun _ => False)) (F0 m9 6 ls []) := by
    intro n
    induction n with
    | zero => intro k x5 h1 h2; exact absurd h1 (by omega)
    | succ n ih =>
      intro k x5 hn hk e5 ls hl
      refine lv_iload hx hb dX5_holds_6 (lv_at hl 0 rfl) ?_
      refine lv_aload_n hx hb dX5_holds_8 rfl (lv_at hl 6 rfl) ?_
      refine va_get (D := D) (ci := 4) (v := .int (nI mF)) (C := RX5) (T := TX5) (N := 17) hx hb hts win_X5 hown hK hP (0) (rfl) rfl 7 (by decide) w_0 (fun _ h9 => h9) rfl dX5_holds_9 ?_
      refine lv_icmp_ge (tgt := 123) hx hb dX5_holds_12 (by decide) (fun c_12 => ?_) (fun c_12 => ?_)
      · skip
        have hkF : k = mF := by have := (nI_leI (by omega) (by omega)).mp c_12; omega
        subst hkF
        refine lv_iload hx hb dX5_holds_123 (lv_at hl 1 rfl) ?_
        exact W.iret (v := x5) hx hb hr (fun t ht hW => ⟨x5, rfl, e5, ht⟩) (fun q h => nomatch h) dX5_holds_125
      · skip
        have hkF : k < mF := by have := mt (nI_leI (a := mF) (b := k) (by omega) (by omega)).mpr c_12; omega
        refine lv_aload_n hx hb dX5_holds_15 rfl (lv_at hl 6 rfl) ?_
        refine lv_iload hx hb dX5_holds_16 (lv_at hl 0 rfl) ?_
        refine lv_iload_n hx hb dX5_holds_18 rfl (lv_at hl 5 rfl) ?_
        refine lv_iload_n hx hb dX5_holds_19 rfl (lv_at hl 4 rfl) ?_
        refine lv_iload_n hx hb dX5_holds_20 rfl (lv_at hl 3 rfl) ?_
        refine g_csi (va_runV (As := [.int (nI k), .int c, .int p, .int m]) (rest := []) ⟨hx, hb, hml, hown, hts⟩ (c5_isOf l D cI cZ cO cL dt A b mC mR mL mF mpar mwt mstk mflw mc mp mm mf md mv mder mkn thr R k c p m (by omega)) (cwV 4 hts gX5_holds_X5_isOf rfl rfl rfl (by decide +kernel) ⟨Nat.le_of_ble_eq_true rfl, Nat.le_of_ble_eq_true rfl⟩) (gP.v hg hP 4 rfl (0) (rfl) hP) rfl rfl hl.1 rfl (lv_room (Nat.le_of_ble_eq_true rfl)) dX5_holds_21 ⟨Nat.le_of_ble_eq_true rfl, Nat.le_of_ble_eq_true rfl⟩) (fun r_1 hr_1 => ?_)
        obtain rfl : r_1 = bI (nI (mc k) = c ∧ nI (mp k) = p ∧ nI (mm k) = m) := hr_1
        refine lv_if_eq (tgt := 117) hx hb dX5_holds_24 (by decide) (fun c_24 => ?_) (fun c_24 => ?_)
        · skip
          have c_24 := bI_z c_24
          have hst : sel (qM mc mp mm mf c p m f) mf md (k + 1) = sel (qM mc mp mm mf c p m f) mf md k := sel_no (by unfold qM; exact decide_eq_false (fun q => c_24 ⟨q.1, q.2.1, q.2.2.1⟩))
          refine lv_iinc (v := nI (k + 1)) (lv' := [(6, .int (nI (k + 1))), (5, .int x5), (4, .int f), (3, .int m), (2, .int p), (1, .int c), (0, .ref (b 0))]) hx hb dX5_holds_117 hl (k := 0) rfl (nI_1 k) (by decide) rfl (fun ls hl => ?_)
          refine lv_goto (tgt := 6) hx hb dX5_holds_120 (by decide) ?_
          exact ih (k + 1) x5 (by omega) (by omega) (by rw [hst]; exact e5) _ (lv_sub hl [0, 1, 2, 3, 4, 5, 6] rfl)
        · skip
          have c_24 := bI_n c_24
          refine lv_aload_n hx hb dX5_holds_27 rfl (lv_at hl 6 rfl) ?_
          refine va_get (D := D) (ci := 4) (v := .ref (b 8)) (C := RX5) (T := TX5) (N := 17) hx hb hts win_X5 hown hK hP (0) (rfl) rfl 11 (by decide) w_2 (fun _ h9 => h9) rfl dX5_holds_28 ?_
          refine lv_iload hx hb dX5_holds_31 (lv_at hl 0 rfl) ?_
          refine g_iald hx hb hK hP (8) 0 (n := 80) (f := (fun k => nI (mf k))) (rfl) rfl k rfl (by omega) (by decide) dX5_holds_33 ?_
          refine lv_iload hx hb dX5_holds_34 (lv_at hl 2 rfl) ?_
          refine lv_icmp_gt (tgt := 117) hx hb dX5_holds_36 (by decide) (fun c_36 => ?_) (fun c_36 => ?_)
          · skip
            have hst : sel (qM mc mp mm mf c p m f) mf md (k + 1) = sel (qM mc mp mm mf c p m f) mf md k := sel_no (by unfold qM; exact decide_eq_false (fun q => i_ltn c_36 q.2.2.2))
            refine lv_iinc (v := nI (k + 1)) (lv' := [(6, .int (nI (k + 1))), (5, .int x5), (4, .int f), (3, .int m), (2, .int p), (1, .int c), (0, .ref (b 0))]) hx hb dX5_holds_117 hl (k := 0) rfl (nI_1 k) (by decide) rfl (fun ls hl => ?_)
            refine lv_goto (tgt := 6) hx hb dX5_holds_120 (by decide) ?_
            exact ih (k + 1) x5 (by omega) (by omega) (by rw [hst]; exact e5) _ (lv_sub hl [0, 1, 2, 3, 4, 5, 6] rfl)
          · skip
            have hq : qM mc mp mm mf c p m f k = true := by unfold qM; exact decide_eq_true ⟨c_24.1, c_24.2.1, c_24.2.2, i_nlt c_36⟩
            rcases hS : sel (qM mc mp mm mf c p m f) mf md k with _ | b0
            · skip
              obtain rfl : x5 = -1 := by rw [e5, hS]; rfl
              have hst := sel_new0 hS hq
              refine lv_iload hx hb dX5_holds_39 (lv_at hl 1 rfl) ?_
              refine lv_iconst (v := (-1)) hx hb dX5_holds_41 (by decide) ?_
              refine lv_icmp_eq (tgt := 62) hx hb dX5_holds_42 (by decide) (fun c_42 => ?_) (fun c_42 => ?_)
              · skip
                refine lv_iconst (v := 1) hx hb dX5_holds_62 (by decide) ?_
                refine lv_goto (tgt := 67) hx hb dX5_holds_63 (by decide) ?_
                refine lv_istore (lv' := [(7, .int 1), (6, .int (nI k)), (5, .int (-1)), (4, .int f), (3, .int m), (2, .int p), (1, .int c), (0, .ref (b 0))]) hx hb dX5_holds_67 hl (by decide) rfl (fun ls hl => ?_)
                refine lv_iload hx hb dX5_holds_69 (lv_at hl 0 rfl) ?_
                refine lv_if_ne (tgt := 108) hx hb dX5_holds_71 (by decide) (fun c_71 => ?_) (fun c_71 => ?_)
                · skip
                  refine lv_iload hx hb dX5_holds_108 (lv_at hl 1 rfl) ?_
                  refine lv_goto (tgt := 115) hx hb dX5_holds_110 (by decide) ?_
                  refine lv_istore (lv' := [(5, .int (nI k)), (7, .int 1), (6, .int (nI k)), (4, .int f), (3, .int m), (2, .int p), (1, .int c), (0, .ref (b 0))]) hx hb dX5_holds_115 hl (by decide) rfl (fun ls hl => ?_)
                  refine lv_iinc (v := nI (k + 1)) (lv' := [(6, .int (nI (k + 1))), (5, .int (nI k)), (7, .int 1), (4, .int f), (3, .int m), (2, .int p), (1, .int c), (0, .ref (b 0))]) hx hb dX5_holds_117 hl (k := 2) rfl (nI_1 k) (by decide) rfl (fun ls hl => ?_)
                  refine lv_goto (tgt := 6) hx hb dX5_holds_120 (by decide) ?_
                  exact ih (k + 1) (nI k) (by omega) (by omega) (by rw [hst]; rfl) _ (lv_sub hl [0, 1, 3, 4, 5, 6, 7] rfl)
                · skip
                  exact absurd c_71 (by decide)
              · skip
                exact absurd c_42 (by decide)
            · skip
              obtain rfl : x5 = nI b0 := by rw [e5, hS]; rfl
              have hb0 := (sel_lt hS).1
              refine lv_iload hx hb dX5_holds_39 (lv_at hl 1 rfl) ?_
              refine lv_iconst (v := (-1)) hx hb dX5_holds_41 (by decide) ?_
              refine lv_icmp_eq (tgt := 62) hx hb dX5_holds_42 (by decide) (fun c_42 => ?_) (fun c_42 => ?_)
              · skip
                exact absurd c_42 (nI_nm1 (by omega))
              · skip
                refine lv_aload_n hx hb dX5_holds_45 rfl (lv_at hl 6 rfl) ?_
                refine va_get (D := D) (ci := 4) (v := .ref (b 8)) (C := RX5) (T := TX5) (N := 17) hx hb hts win_X5 hown hK hP (0) (rfl) rfl 11 (by decide) w_2 (fun _ h9 => h9) rfl dX5_holds_46 ?_
                refine lv_iload hx hb dX5_holds_49 (lv_at hl 0 rfl) ?_
                refine g_iald hx hb hK hP (8) 0 (n := 80) (f := (fun k => nI (mf k))) (rfl) rfl k rfl (by omega) (by decide) dX5_holds_51 ?_
                refine lv_aload_n hx hb dX5_holds_52 rfl (lv_at hl 6 rfl) ?_
                refine va_get (D := D) (ci := 4) (v := .ref (b 8)) (C := RX5) (T := TX5) (N := 17) hx hb hts win_X5 hown hK hP (0) (rfl) rfl 11 (by decide) w_2 (fun _ h9 => h9) rfl dX5_holds_53 ?_
                refine lv_iload hx hb dX5_holds_56 (lv_at hl 1 rfl) ?_
                refine g_iald hx hb hK hP (8) 0 (n := 80) (f := (fun k => nI (mf k))) (rfl) rfl b0 rfl (by omega) (by decide) dX5_holds_58 ?_
                refine lv_icmp_le (tgt := 66) hx hb dX5_holds_59 (by decide) (fun c_59 => ?_) (fun c_59 => ?_)
                · skip
                  have c_59 := (nI_leI (hmf _) (hmf _)).mp c_59
                  refine lv_iconst (v := 0) hx hb dX5_holds_66 (by decide) ?_
                  refine lv_istore (lv' := [(7, .int 0), (6, .int (nI k)), (5, .int (nI b0)), (4, .int f), (3, .int m), (2, .int p), (1, .int c), (0, .ref (b 0))]) hx hb dX5_holds_67 hl (by decide) rfl (fun ls hl => ?_)
                  refine lv_iload hx hb dX5_holds_69 (lv_at hl 0 rfl) ?_
                  refine lv_if_ne (tgt := 108) hx hb dX5_holds_71 (by decide) (fun c_71 => ?_) (fun c_71 => ?_)
                  · skip
                    exact absurd c_71 (by decide)
                  · skip
                    refine lv_aload_n hx hb dX5_holds_74 rfl (lv_at hl 7 rfl) ?_
                    refine va_get (D := D) (ci := 4) (v := .ref (b 8)) (C := RX5) (T := TX5) (N := 17) hx hb hts win_X5 hown hK hP (0) (rfl) rfl 11 (by decide) w_2 (fun _ h9 => h9) rfl dX5_holds_75 ?_
                    refine lv_iload hx hb dX5_holds_78 (lv_at hl 1 rfl) ?_
                    refine g_iald hx hb hK hP (8) 0 (n := 80) (f := (fun k => nI (mf k))) (rfl) rfl k rfl (by omega) (by decide) dX5_holds_80 ?_
                    refine lv_aload_n hx hb dX5_holds_81 rfl (lv_at hl 7 rfl) ?_
                    refine va_get (D := D) (ci := 4) (v := .ref (b 8)) (C := RX5) (T := TX5) (N := 17) hx hb hts win_X5 hown hK hP (0) (rfl) rfl 11 (by decide) w_2 (fun _ h9 => h9) rfl dX5_holds_82 ?_
                    refine lv_iload hx hb dX5_holds_85 (lv_at hl 2 rfl) ?_
                    refine g_iald hx hb hK hP (8) 0 (n := 80) (f := (fun k => nI (mf k))) (rfl) rfl b0 rfl (by omega) (by decide) dX5_holds_87 ?_
                    refine lv_icmp_ne (tgt := 113) hx hb dX5_holds_88 (by decide) (fun c_88 => ?_) (fun c_88 => ?_)
                    · skip
                      have c_88 := mt (nI_eq (hmf _) (hmf _)).mpr c_88
                      have hst := sel_keep hS (by omega : ¬ (mf b0 < mf k ∨ mf b0 = mf k ∧ md k < md b0))
                      refine lv_iload hx hb dX5_holds_113 (lv_at hl 2 rfl) ?_
                      refine lv_istore (lv' := [(5, .int (nI b0)), (7, .int 0), (6, .int (nI k)), (4, .int f), (3, .int m), (2, .int p), (1, .int c), (0, .ref (b 0))]) hx hb dX5_holds_115 hl (by decide) rfl (fun ls hl => ?_)
                      refine lv_iinc (v := nI (k + 1)) (lv' := [(6, .int (nI (k + 1))), (5, .int (nI b0)), (7, .int 0), (4, .int f), (3, .int m), (2, .int p), (1, .int c), (0, .ref (b 0))]) hx hb dX5_holds_117 hl (k := 2) rfl (nI_1 k) (by decide) rfl (fun ls hl => ?_)
                      refine lv_goto (tgt := 6) hx hb dX5_holds_120 (by decide) ?_
                      exact ih (k + 1) (nI b0) (by omega) (by omega) (by rw [hst]; rfl) _ (lv_sub hl [0, 1, 3, 4, 5, 6, 7] rfl)
                    · skip
                      have c_88 := (nI_eq (hmf _) (hmf _)).mp c_88
                      refine lv_aload_n hx hb dX5_holds_91 rfl (lv_at hl 7 rfl) ?_
                      refine va_get (D := D) (ci := 4) (v := .ref (b 10)) (C := RX5) (T := TX5) (N := 17) hx hb hts win_X5 hown hK hP (0) (rfl) rfl 13 (by decide) w_3 (fun _ h9 => h9) rfl dX5_holds_92 ?_
                      refine lv_iload hx hb dX5_holds_95 (lv_at hl 1 rfl) ?_
                      refine g_iald hx hb hK hP (10) 0 (n := 80) (f := (fun k => nI (md k))) (rfl) rfl k rfl (by omega) (by decide) dX5_holds_97 ?_
                      refine lv_aload_n hx hb dX5_holds_98 rfl (lv_at hl 7 rfl) ?_
                      refine va_get (D := D) (ci := 4) (v := .ref (b 10)) (C := RX5) (T := TX5) (N := 17) hx hb hts win_X5 hown hK hP (0) (rfl) rfl 13 (by decide) w_3 (fun _ h9 => h9) rfl dX5_holds_99 ?_
                      refine lv_iload hx hb dX5_holds_102 (lv_at hl 2 rfl) ?_
                      refine g_iald hx hb hK hP (10) 0 (n := 80) (f := (fun k => nI (md k))) (rfl) rfl b0 rfl (by omega) (by decide) dX5_holds_104 ?_
                      refine lv_icmp_ge (tgt := 113) hx hb dX5_holds_105 (by decide) (fun c_105 => ?_) (fun c_105 => ?_)
                      · skip
                        have c_105 := (nI_leI (hmd _) (hmd _)).mp c_105
                        have hst := sel_keep hS (by omega : ¬ (mf b0 < mf k ∨ mf b0 = mf k ∧ md k < md b0))
                        refine lv_iload hx hb dX5_holds_113 (lv_at hl 2 rfl) ?_
                        refine lv_istore (lv' := [(5, .int (nI b0)), (7, .int 0), (6, .int (nI k)), (4, .int f), (3, .int m), (2, .int p), (1, .int c), (0, .ref (b 0))]) hx hb dX5_holds_115 hl (by decide) rfl (fun ls hl => ?_)
                        refine lv_iinc (v := nI (k + 1)) (lv' := [(6, .int (nI (k + 1))), (5, .int (nI b0)), (7, .int 0), (4, .int f), (3, .int m), (2, .int p), (1, .int c), (0, .ref (b 0))]) hx hb dX5_holds_117 hl (k := 2) rfl (nI_1 k) (by decide) rfl (fun ls hl => ?_)
                        refine lv_goto (tgt := 6) hx hb dX5_holds_120 (by decide) ?_
                        exact ih (k + 1) (nI b0) (by omega) (by omega) (by rw [hst]; rfl) _ (lv_sub hl [0, 1, 3, 4, 5, 6, 7] rfl)
                      · skip
                        have c_105 := mt (nI_leI (hmd _) (hmd _)).mpr c_105
                        have hst := sel_newer hS hq (Or.inr (by omega))
                        refine lv_iload hx hb dX5_holds_108 (lv_at hl 1 rfl) ?_
                        refine lv_goto (tgt := 115) hx hb dX5_holds_110 (by decide) ?_
                        refine lv_istore (lv' := [(5, .int (nI k)), (7, .int 0), (6, .int (nI k)), (4, .int f), (3, .int m), (2, .int p), (1, .int c), (0, .ref (b 0))]) hx hb dX5_holds_115 hl (by decide) rfl (fun ls hl => ?_)
                        refine lv_iinc (v := nI (k + 1)) (lv' := [(6, .int (nI (k + 1))), (5, .int (nI k)), (7, .int 0), (4, .int f), (3, .int m), (2, .int p), (1, .int c), (0, .ref (b 0))]) hx hb dX5_holds_117 hl (k := 2) rfl (nI_1 k) (by decide) rfl (fun ls hl => ?_)
                        refine lv_goto (tgt := 6) hx hb dX5_holds_120 (by decide) ?_
                        exact ih (k + 1) (nI k) (by omega) (by omega) (by rw [hst]; rfl) _ (lv_sub hl [0, 1, 3, 4, 5, 6, 7] rfl)
                · skip
                  have c_59 := mt (nI_leI (hmf _) (hmf _)).mpr c_59
                  have hst := sel_newer hS hq (Or.inl (by omega))
                  refine lv_iconst (v := 1) hx hb dX5_holds_62 (by decide) ?_
                  refine lv_goto (tgt := 67) hx hb dX5_holds_63 (by decide) ?_
                  refine lv_istore (lv' := [(7, .int 1), (6, .int (nI k)), (5, .int (nI b0)), (4, .int f), (3, .int m), (2, .int p), (1, .int c), (0, .ref (b 0))]) hx hb dX5_holds_67 hl (by decide) rfl (fun ls hl => ?_)
                  refine lv_iload hx hb dX5_holds_69 (lv_at hl 0 rfl) ?_
                  refine lv_if_ne (tgt := 108) hx hb dX5_holds_71 (by decide) (fun c_71 => ?_) (fun c_71 => ?_)
                  · skip
                    refine lv_iload hx hb dX5_holds_108 (lv_at hl 1 rfl) ?_
                    refine lv_goto (tgt := 115) hx hb dX5_holds_110 (by decide) ?_
                    refine lv_istore (lv' := [(5, .int (nI k)), (7, .int 1), (6, .int (nI k)), (4, .int f), (3, .int m), (2, .int p), (1, .int c), (0, .ref (b 0))]) hx hb dX5_holds_115 hl (by decide) rfl (fun ls hl => ?_)
                    refine lv_iinc (v := nI (k + 1)) (lv' := [(6, .int (nI (k + 1))), (5, .int (nI k)), (7, .int 1), (4, .int f), (3, .int m), (2, .int p), (1, .int c), (0, .ref (b 0))]) hx hb dX5_holds_117 hl (k := 2) rfl (nI_1 k) (by decide) rfl (fun ls hl => ?_)
                    refine lv_goto (tgt := 6) hx hb dX5_holds_120 (by decide) ?_
                    exact ih (k + 1) (nI k) (by omega) (by omega) (by rw [hst]; rfl) _ (lv_sub hl [0, 1, 3, 4, 5, 6, 7] rfl)
                  · skip
                    exact absurd c_71 (by decide)
  refine lv_iconst (v := (-1)) hx hb dX5_holds_0 (by decide) ?_
  refine lv_istore (lv' := [(5, .int (-1)), (0, .ref (b 0)), (1, .int c), (2, .int p), (3, .int m), (4, .int f)]) hx hb dX5_holds_1 hl (by decide) rfl (fun ls hl => ?_)
  refine lv_iconst (v := 0) hx hb dX5_holds_3 (by decide) ?_
  refine lv_istore (lv' := [(6, .int 0), (5, .int (-1)), (0, .ref (b 0)), (1, .int c), (2, .int p), (3, .int m), (4, .int f)]) hx hb dX5_holds_4 hl (by decide) rfl (fun ls hl => ?_)
  exact lp (mF + 1) 0 (-1) (by omega) (Nat.zero_le _) rfl _ (lv_sub hl [0, 1, 6, 5, 4, 3, 2] rfl)
