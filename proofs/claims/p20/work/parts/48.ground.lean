/-- what every contract stands on, at the law's entry -/
theorem law_ground {s : State} {b0 : Nat} (hts : ∀ w ∈ lw_tbl, w.before #[Value.ref b0] s = true) (hgv : (Jvm.Cond.and given_1 narrow_1).before #[Value.ref b0] s = true) :
    ∃ (D : va_G) (cI cO : ClassId) (dt : Nat), gG D cI cI cO cI dt (fun q : Nat => s.heap.size ≤ q) s s.heap := by
  have hnv := flat_of_before _ hgv
  have hA : ∀ a : Nat, a < s.heap.size → ¬ (fun q : Nat => s.heap.size ≤ q) a := fun a h => Nat.not_le.mpr h
  obtain ⟨c0, i0, hKn0⟩ := u_known (C := RX0) (T := TX0) (N := 5) (n := 5) hts lm_X0 (hts (.instantiable RX0 5) (by decide +kernel))
  obtain ⟨c1, i1, hKn1⟩ := u_known (C := RX2) (T := TX2) (N := 1) (n := 1) hts lm_X2 (hts (.instantiable RX2 1) (by decide +kernel))
  obtain ⟨c2, i2, hKn2⟩ := u_known (C := RX3) (T := TX3) (N := 2) (n := 2) hts lm_X3 (hts (.instantiable RX3 2) (by decide +kernel))
  obtain ⟨c3, i3, hKn3⟩ := u_known (C := RX4) (T := TX4) (N := 11) (n := 11) hts lm_X4 (hts (.instantiable RX4 11) (by decide +kernel))
  obtain ⟨cI, kI, mI, f1, f2, f3⟩ := Cond.arrayClass_spec (hts (.arrayClass .int) (by decide +kernel))
  obtain ⟨mO, cO, kO, o1, -, o3, o4, o5⟩ := Cond.arrayOver_spec (hts (.arrayOver (.object RX0)) (by decide +kernel))
  have hK : va_K ((fun k => match k with | 0 => c0 | 1 => c1 | 2 => c2 | _ => c3), (fun k => match k with | 0 => i0 | 1 => i1 | 2 => i2 | _ => i3)) vwCl (gTys cI cI cO cI) s := by
    refine ⟨fun k q hq => ?_, fun k q hq => ?_⟩
    · match k, hq with
      | 0, hq => cases hq; exact hKn0
      | 1, hq => cases hq; exact hKn1
      | 2, hq => cases hq; exact hKn2
      | 3, hq => cases hq; exact hKn3
      | k + 4, hq => simp [vwCl] at hq
    · match k, hq with
      | 0, hq => cases hq; exact ⟨fun n z => ⟨fun k h => (by cases h), kI, f2, mI, f3⟩, f1⟩
      | 1, hq => cases hq; exact ⟨fun n z => ⟨fun k h => (by cases h), kI, f2, mI, f3⟩, f1⟩
      | 2, hq => cases hq; exact ⟨fun n z => ⟨fun k h => (by cases h), kO, o3, mO, o4⟩, kO, mO, o3, o4, o1, o5⟩
      | 3, hq => cases hq; exact ⟨fun n z => ⟨fun k h => (by cases h), kI, f2, mI, f3⟩, f1⟩
      | k + 4, hq => simp [gTys] at hq
  have tx : ∀ (k : Nat) (text : String), Cond.stringRef RX4 k text ∈ lw_tbl → Cond.exactly (.string RX4 k) "java/lang/String" ∈ flatC (Jvm.Cond.and given_1 narrow_1) → ∃ a : Nat, vk_R RX4 k text a s := fun k text h1 h2 => by
    obtain ⟨a, c, cell, kk, q1, -⟩ := Cond.exactly_spec (hnv _ h2)
    exact ⟨a, vk_R.of (hts _ h1) q1⟩
  have hT : gT s := List.forall_mem_cons.mpr ⟨tx 48 "there are 12 concepts" (by decide +kernel) (by decide +kernel), List.forall_mem_cons.mpr ⟨tx 63 "the parent is the concept or hangs under it" (by decide +kernel) (by decide +kernel), List.forall_mem_cons.mpr ⟨tx 66 "stock and flow are the same" (by decide +kernel) (by decide +kernel), List.forall_mem_cons.mpr ⟨tx 71 "there are 5 rules" (by decide +kernel) (by decide +kernel), List.forall_mem_cons.mpr ⟨tx 76 "there are 8 filings" (by decide +kernel) (by decide +kernel), List.forall_mem_cons.mpr ⟨tx 84 "the value is out of range" (by decide +kernel) (by decide +kernel), List.forall_mem_cons.mpr ⟨tx 86 "the decimals are out of range" (by decide +kernel) (by decide +kernel), List.forall_mem_cons.mpr ⟨tx 92 "there are 80 facts" (by decide +kernel) (by decide +kernel), List.forall_mem_cons.mpr ⟨tx 155 "a value neither holds nor is derived" (by decide +kernel) (by decide +kernel), List.forall_mem_cons.mpr ⟨tx 168 "no such rule" (by decide +kernel) (by decide +kernel), List.forall_mem_cons.mpr ⟨tx 186 "no such concept" (by decide +kernel) (by decide +kernel), List.forall_mem_cons.mpr ⟨tx 188 "no such period" (by decide +kernel) (by decide +kernel), List.forall_mem_cons.mpr ⟨tx 190 "no such member" (by decide +kernel) (by decide +kernel), List.forall_mem_cons.mpr ⟨tx 192 "no such filing" (by decide +kernel) (by decide +kernel), List.forall_mem_cons.mpr ⟨tx 194 "no fact holds" (by decide +kernel) (by decide +kernel), fun _ h => absurd h List.not_mem_nil⟩⟩⟩⟩⟩⟩⟩⟩⟩⟩⟩⟩⟩⟩⟩
  have hN : gN s := ⟨va_Nw.of rfl (hts (.methodLinkNest RX4 24 yX3_init RX4) (by decide +kernel)), va_Nw.of rfl (hts (.methodLinkNest RX4 31 yX2_init RX4) (by decide +kernel)), va_Nw.of rfl (hts (.methodLinkNest RX0 22 yX4_isApart RX4) (by decide +kernel)), va_Nw.of rfl (hts (.methodLinkNest RX2 3 yX1_init RX4) (by decide +kernel)), va_Nw.of rfl (hts (.methodLinkNest RX3 3 yX1_init RX4) (by decide +kernel)), va_Nw.of rfl (hts (.declares gHold) (by decide +kernel)), va_Nw.of rfl (hts (.castable "java/lang/IllegalStateException" "java/lang/IllegalStateException") (by decide +kernel)), va_Nw.of rfl (hts (.castable "java/lang/IllegalArgumentException" "java/lang/IllegalArgumentException") (by decide +kernel)), va_Nw.of rfl (hts (.castable "java/lang/IndexOutOfBoundsException" "java/lang/IndexOutOfBoundsException") (by decide +kernel)), va_Nw.of rfl (hts (.castable "java/util/NoSuchElementException" "java/util/NoSuchElementException") (by decide +kernel)), trivial, trivial, va_Nc.of (hnv (.not (.castable "java/lang/IllegalStateException" "java/lang/IllegalArgumentException")) (by decide +kernel)), trivial, va_Nw.of rfl (hts (.declares (Bundle.initS "java/lang/RuntimeException")) (by decide +kernel)), va_Nw.of rfl (hts (.declares (Bundle.initS "java/lang/Exception")) (by decide +kernel)), va_Nw.of rfl (hts (.declares (Bundle.initS "java/lang/Throwable")) (by decide +kernel))⟩
  have hU : vx_Zq Bundle.tN "UNASSIGNED_STACK" Bundle.steD (fun q : Nat => s.heap.size ≤ q) s s.heap := vx_Zqof (hts (.laysStatic Bundle.tN "UNASSIGNED_STACK" Bundle.steD) (by decide +kernel)) (hts (.initialized Bundle.tN) (by decide +kernel)) (hnv (.isRef (.static Bundle.tN "UNASSIGNED_STACK" Bundle.steD)) (by decide +kernel)) hA
  have hV : vx_Zq Bundle.tN "SUPPRESSED_SENTINEL" Bundle.listD (fun q : Nat => s.heap.size ≤ q) s s.heap := vx_Zqof (hts (.laysStatic Bundle.tN "SUPPRESSED_SENTINEL" Bundle.listD) (by decide +kernel)) (hts (.initialized Bundle.tN) (by decide +kernel)) (hnv (.isRef (.static Bundle.tN "SUPPRESSED_SENTINEL" Bundle.listD)) (by decide +kernel)) hA
  obtain ⟨dt, hd1, hd2⟩ := va_Tof (tm := .static RX4 "DOUBTS" "[I") (ty := .int) (N := 5) (f := fun j => .int (nI (10 ^ j))) (A := fun q : Nat => s.heap.size ≤ q) (by decide) (hnv (.arrayOf (.static RX4 "DOUBTS" "[I") .int) (by decide +kernel)) (va_eqt (hnv (.eq (.length (.static RX4 "DOUBTS" "[I")) (.int 5)) (by decide +kernel))) (fun j hj => by
    match j, hj with
    | 0, _ => exact va_eqt (z := 1) (hnv (.eq (.elem (.static RX4 "DOUBTS" "[I") (.int 0)) (.int 1)) (by decide +kernel))
    | 1, _ => exact va_eqt (z := 10) (hnv (.eq (.elem (.static RX4 "DOUBTS" "[I") (.int 1)) (.int 10)) (by decide +kernel))
    | 2, _ => exact va_eqt (z := 100) (hnv (.eq (.elem (.static RX4 "DOUBTS" "[I") (.int 2)) (.int 100)) (by decide +kernel))
    | 3, _ => exact va_eqt (z := 1000) (hnv (.eq (.elem (.static RX4 "DOUBTS" "[I") (.int 3)) (.int 1000)) (by decide +kernel))
    | 4, _ => exact va_eqt (z := 10000) (hnv (.eq (.elem (.static RX4 "DOUBTS" "[I") (.int 4)) (.int 10000)) (by decide +kernel))
    | j + 5, hj => exact absurd hj (by omega)) hA
  exact ⟨_, cI, cO, dt, hK, hN, hT, hU, hV, va_Zof (hts (.laysStatic RX4 "DOUBTS" "[I") (by decide +kernel)) (hts (.initialized RX4) (by decide +kernel)) hd1 hA, hd2, fun _ h => h⟩
