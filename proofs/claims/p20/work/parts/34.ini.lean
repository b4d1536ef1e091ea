-- NEW OBJECTS AND ROWS
/-- a method's start, where rows of facts are made -/
def gPA (D : va_G) (cI cZ cO cL : ClassId) (dt : Nat) (A : Nat → Prop) (av : List Value) (G : Heap → Prop) : Array Value → State → Prop := va_Pc av (fun U => gG D cI cZ cO cL dt A U U.heap ∧ va_AO RX0 U ∧ G U.heap)
theorem gPA.s {D : va_G} {cI cZ cO cL : ClassId} {dt : Nat} {A : Nat → Prop} {av : List Value} {G : Heap → Prop} {s : State} {H : Heap} (hg : gG D cI cZ cO cL dt A s H) (ha : va_AO RX0 s) (hG : G H) : PreS s H (gPA D cI cZ cO cL dt A av G) av :=
  ⟨fun a U g mk h => ⟨h.1, h.2.1.warm (s := U) (U := U.calling g mk a) (State.WarmedH.refl U), va_AO.moved (u := U) (U := U.calling g mk a) (Vm.Alike.refl U.vm) h.2.2.1, h.2.2.2⟩, fun U hU hW => ⟨rfl, by rw [hU]; exact hg.warm hW, va_AO.moved hW.alike ha, by rw [hU]; exact hG⟩⟩
section
variable {p : Program} {l : Launch} {e : Env} {R : Room} {s : State} {m : MethodId} {args : Array Value} {below : List Frame} {meth : Method} {c : Code} {H : Heap} {locs : List Loc} {cells slots : Nat} {Q : State → Prop}
variable {pc : Nat} {ls : Array Slot} {rest : List Value} {cc : ByteArray} {D : va_G} {cl : List vw_C} {tys : List (ClassId × FieldType)} {ws : va_W} {A : Nat → Prop} {H0 : Heap}
theorem g_last {k : Nat} {x : ClassId × FieldType} (hK : va_K D cl (tys ++ [x]) s) : va_RA s x.1 x.2 := by
  have := hK.2 tys.length x (by simp)
  exact this.2
theorem g_newa (hexec : p.tables.exec = Jvm.exec) (hb : c.code = cc) {atype : ArrayType} (harr : (Cond.arrayClass (newarray.typeOf atype)).before args s = true) {ty : FieldType} (hty : newarray.typeOf atype = ty)
    (hra : ∀ k : ClassId, va_RA s k ty = (s.vm.findClass ("[" ++ ty.toString) = some k)) (t0 : Nat) {cB : ClassId} (ht : tys[t0]? = some (cB, ty)) (hK : va_K D cl tys s) (hP : va_P D cl ws H) (hD : va_D A ws) (hS : va_S A H0 H locs) (hA : ∀ q, H0.size ≤ q → A q)
    {n : Int32} {N1 : Nat} {a0 : vp_A} (ha : ∀ cA : ClassId, vp_cell cA a0 = arrV cA N1 (fun _ => defaultValue ty)) (hn : ¬ n < 0) (hN : n.toNatClampNeg = N1) (hbytes : N1 * componentBytes ty ≤ 536870912) (hcells : cells + 1 ≤ R.cells) (hslots : slots + N1 ≤ R.slots) (hdg : decode cc pc = .ok (.newarray atype, 2))
    (kk : ∀ (q : Nat) (H1 : Heap), va_P D cl ((q, .inl (cB, a0)) :: ws) H1 → va_D A ((q, .inl (cB, a0)) :: ws) → va_S A H0 H1 locs →
      W p l e R s m args below meth c H1 locs (cells + 1) (slots + N1) Q (F0 m (pc + 2) ls (.ref q :: rest))) : W p l e R s m args below meth c H locs cells slots Q (F0 m pc ls (.int n :: rest)) := by
  refine va_newa hexec hb harr hty hK hP hD hS hA ha hn hN hbytes hcells hslots hdg (fun q cA H1 hK1 hP1 hD1 hS1 => ?_)
  have h1 := g_last (k := 0) hK1
  have h2 := (hK.2 t0 _ ht).2
  rw [hra] at h1 h2
  have he : cA = cB := Option.some.inj (h1.symm.trans h2)
  subst he
  exact kk q H1 (va_P_perm hP1 (List.perm_append_singleton _ _).symm) (va_D_perm hD1 (List.perm_append_singleton _ _).symm) hS1
theorem g_newq (hexec : p.tables.exec = Jvm.exec) (hb : c.code = cc) {own C : String} {index : Nat} (hown : s.vm.findClass own = some m.cls) (hclink : (Cond.classLink own index C).before args s = true) (hover : va_AO C s) (t0 : Nat) {cB : ClassId} (ht : tys[t0]? = some (cB, .object C)) (hK : va_K D cl tys s) (hP : va_P D cl ws H) (hD : va_D A ws) (hS : va_S A H0 H locs) (hA : ∀ q, H0.size ≤ q → A q)
    {n : Int32} {N1 : Nat} (hn : ¬ n < 0) (hN : n.toNatClampNeg = N1) (hbytes : N1 * 4 ≤ 536870912) (hcells : cells + 1 ≤ R.cells) (hslots : slots + N1 ≤ R.slots) (hdg : decode cc pc = .ok (.anewarray index, 3))
    (kk : ∀ (q : Nat) (H1 : Heap), va_P D cl ((q, .inl (cB, N1, .inr (.inr (.inr (.inr (fun _ => none)))))) :: ws) H1 → va_D A ((q, .inl (cB, N1, .inr (.inr (.inr (.inr (fun _ => none)))))) :: ws) → va_S A H0 H1 locs →
      W p l e R s m args below meth c H1 locs (cells + 1) (slots + N1) Q (F0 m (pc + 3) ls (.ref q :: rest))) : W p l e R s m args below meth c H locs cells slots Q (F0 m pc ls (.int n :: rest)) := by
  refine va_newq hexec hb hown hclink hover hK hP hD hS hA hn hN hbytes hcells hslots hdg (fun q cA H1 hK1 hP1 hD1 hS1 => ?_)
  obtain ⟨-, -, -, -, -, h1⟩ := g_last (k := 0) hK1
  obtain ⟨-, -, -, -, -, h2⟩ := (hK.2 t0 _ ht).2
  have he : cA = cB := Option.some.inj (h1.symm.trans h2)
  subst he
  exact kk q H1 (va_P_perm hP1 (List.perm_append_singleton _ _).symm) (va_D_perm hD1 (List.perm_append_singleton _ _).symm) hS1
end
/-- the class's cells at the start -/
theorem WD_0 {cI cO : ClassId} {a : Nat → Nat} : WD cI cO a (fun _ => 0) 0 0 0 0 (fun _ => 0) (fun _ => 0) (fun _ => 0) (fun _ => 0) (fun _ => none) (fun _ => 0) (fun _ => 0) =
  [(a 0, .inr (3, [.ref (a 1), .ref (a 2), .int 0, .ref (a 3), .ref (a 4), .int 0, .int 0, .ref (a 5), .ref (a 6), .ref (a 7), .ref (a 8)])),
   (a 1, .inl (cI, 12, .inl (fun _ => 0))), (a 2, .inl (cI, 12, .inl (fun _ => 0))), (a 3, .inl (cI, 5, .inl (fun _ => 0))), (a 4, .inl (cI, 5, .inl (fun _ => 0))),
   (a 5, .inr (2, [.ref (a 9), .int 0])), (a 6, .inr (1, [.ref (a 10)])), (a 7, .inl (cI, 12, .inl (fun _ => 0))), (a 8, .inl (cI, 12, .inl (fun _ => 0))),
   (a 9, .inl (cO, 80, .inr (.inr (.inr (.inr (fun _ => none)))))), (a 10, .inl (cO, 480, .inr (.inr (.inr (.inr (fun _ => none))))))] := by
  unfold WD
  simp
  rfl
set_option maxHeartbeats 4000000 in
set_option maxRecDepth 100000 in
/-- a store -/
theorem c1_init (l : Launch) (D : va_G) (cI cZ cO cL : ClassId) (dt : Nat) (A : Nat → Prop) (ws : va_W) (q : Nat)  : Met l yX1_init wsX1_init ({ frames := 1, cells := 0, slots := 0, locals := 12 } : Room) (gP D cI cZ cO cL dt A [.ref q] (fun H => va_P D vwCl (ws) H ∧ va_D A (ws))) (va_Qv (fun (_ : Unit) => True) (fun _ t => va_P D vwCl (ws) t.heap ∧ va_D A (ws)) A) 0 0 A := by
  refine Met.ofW (cc := cX1_init) (maxL := 1) (ret := none) (by decide) rfl ?_
  intro p9 e9 s m9 args below meth c9 s₁ B hml hv
  obtain ⟨rfl, hg, hP, hD⟩ := hv
  have hx := B.exec
  have hb := B.bytes
  have hr := B.returns
  have hts := atoms_spec (ws := wsX1_init) B.pre
  have hown : s.vm.findClass RX1 = some m9.cls := findClass_of_methodNamed B.named
  have hin : meth.name = "<init>" := (name_of_methodNamed B.named B.method).1
  have hlocks := B.notSynchronized
  have hK := hg.1
  have hS : va_S A s.heap s.heap [] := va_S.rf
  have w_0 := hts (.methodLink RX1 1 objectInit) (by decide +kernel)
  have w_1 := hts (.instanceMethod objectInit) (by decide +kernel)
  have w_2 := hts (.code objectInit ⟨#[0xb1]⟩ 1 none) (by decide +kernel)
  have hl := lv_entry ([.ref q]) (n := 1) (Nat.le_of_ble_eq_true rfl)
  rw [lg_entry_eq]
  generalize (lg_sl ([.ref q]) ++ List.replicate (1 - (lg_sl ([.ref q])).length) Slot.unset).toArray = ls at hl ⊢
  have hl : lv_has ls 1 [(0, .ref q)] := hl
  refine lv_aload_n hx hb dX1_init_0 rfl (lv_at hl 0 rfl) ?_
  refine W.objInit hx hb hown w_0 w_1 w_2 rfl (by rw [hml]; exact hl.1) rfl dX1_init_1 (Nat.le_of_ble_eq_true rfl) (Nat.le_of_ble_eq_true rfl) ?_
  refine W.eq (g2 := F0 m9 4 ls []) rfl ?_
  exact W.vret hx hb hr (fun t ht hW => ⟨⟨(), rfl, trivial, g_PD ht hP hD⟩, hS.F ht⟩) hS.2.2 dX1_init_4
set_option maxHeartbeats 4000000 in
set_option maxRecDepth 100000 in
/-- a store -/
theorem c3_init (l : Launch) (D : va_G) (cI cZ cO cL : ClassId) (dt : Nat) (A : Nat → Prop) (ws : va_W) (q : Nat)  : Met l yX3_init wsX3_init ({ frames := 2, cells := 1, slots := 80, locals := 32 } : Room) (gPA D cI cZ cO cL dt A [.ref q] (fun H => va_P D vwCl ((q, .inr (2, [.null, .int 0])) :: ws) H ∧ va_D A ((q, .inr (2, [.null, .int 0])) :: ws))) (va_Qv (fun (u : Nat) => True) (fun u t => va_P D vwCl ((u, .inl (cO, 80, .inr (.inr (.inr (.inr (fun _ => none)))))) :: (q, .inr (2, [.ref u, .int 0])) :: ws) t.heap ∧ va_D A ((u, .inl (cO, 80, .inr (.inr (.inr (.inr (fun _ => none)))))) :: (q, .inr (2, [.ref u, .int 0])) :: ws)) A) 1 80 A := by
  refine Met.ofW (cc := cX3_init) (maxL := 1) (ret := none) (by decide) rfl ?_
  intro p9 e9 s m9 args below meth c9 s₁ B hml hv
  obtain ⟨rfl, hg, hao, hP, hD⟩ := hv
  have hx := B.exec
  have hb := B.bytes
  have hr := B.returns
  have hts := atoms_spec (ws := wsX3_init) B.pre
  have hown : s.vm.findClass RX3 = some m9.cls := findClass_of_methodNamed B.named
  have hin : meth.name = "<init>" := (name_of_methodNamed B.named B.method).1
  have hlocks := B.notSynchronized
  have hK := hg.1
  have hS : va_S A s.heap s.heap [] := va_S.rf
  have w_0 := hts (.initialized RX1) (by decide +kernel)
  have w_1 := hts (.instanceMethod yX1_init) (by decide +kernel)
  have w_2 := hts (.classLink RX3 9 RX0) (by decide +kernel)
  have w_3 := hts (.fieldLink RX3 11 "Dimfacts$ListedFacts" "facts" "[LDimfacts$Fact;") (by decide +kernel)
  have win_X3 : ∀ w ∈ wsX30, w ∈ wsX3_init := by decide +kernel
  have hl := lv_entry ([.ref q]) (n := 1) (Nat.le_of_ble_eq_true rfl)
  rw [lg_entry_eq]
  generalize (lg_sl ([.ref q]) ++ List.replicate (1 - (lg_sl ([.ref q])).length) Slot.unset).toArray = ls at hl ⊢
  have hl : lv_has ls 1 [(0, .ref q)] := hl
  refine lv_aload_n hx hb dX3_init_0 rfl (lv_at hl 0 rfl) ?_
  refine va_callv (va_runIN (As := []) (rest := []) ⟨hx, hb, hml, hown, hts⟩ (c1_init l D cI cZ cO cL dt A ((q, .inr (2, [.null, .int 0])) :: ws) q) (⟨va_cnB 0 hts gX3_init_X1_init_n3 rfl rfl rfl hg.2.1.2.2.2.2.1 w_0 (by decide +kernel) ⟨Nat.le_of_ble_eq_true rfl, Nat.le_of_ble_eq_true rfl⟩, rfl, w_1⟩) (gP.s hg (⟨hP, hD⟩)) rfl rfl hl.1 rfl (lv_room (Nat.le_of_ble_eq_true rfl)) dX3_init_1 ⟨Nat.le_of_ble_eq_true rfl, Nat.le_of_ble_eq_true rfl⟩) hS (fun q _ h => h) (fun q h => h) (fun ur_1 tr_1 H locs htr_1 hvmr_1 hwr_1 hB hzr_1 hkr_1 hS => ?_)
  rw [htr_1] at hB
  obtain ⟨hP, hD⟩ := hB
  have hP : va_P D vwCl ((q, .inr (2, [.null, .int 0])) :: ws) H := hP
  have hD : va_D A ((q, .inr (2, [.null, .int 0])) :: ws) := hD
  refine lv_aload_n hx hb dX3_init_4 rfl (lv_at hl 0 rfl) ?_
  refine lv_bipush (v := 80) hx hb dX3_init_5 (by decide) ?_
  refine g_newq hx hb hown w_2 hao 2 rfl hK hP hD hS hg.2.2.2.2.2.2.2 (N1 := 80) (by decide) rfl (by decide) (Nat.le_of_ble_eq_true rfl) (Nat.le_of_ble_eq_true rfl) dX3_init_7 (fun q7 H hP hD hS => ?_)
  refine W.widen (k := 1) (n := 80) (Nat.le_of_ble_eq_true rfl) (Nat.le_of_ble_eq_true rfl) ?_
  have hP : va_P D vwCl ((q7, .inl (cO, 80, .inr (.inr (.inr (.inr (fun _ => none)))))) :: (q, .inr (2, [.null, .int 0])) :: ws) H := hP
  have hD : va_D A ((q7, .inl (cO, 80, .inr (.inr (.inr (.inr (fun _ => none)))))) :: (q, .inr (2, [.null, .int 0])) :: ws) := hD
  refine va_putF (D := D) (ci := 2) (v := .ref q7) (ty := .array (.object "Dimfacts$Fact")) (C := RX3) (T := TX3) (N := 2) hx hb hts win_X3 tyX3 tyX3_ok nmX3 hown hK hP hD hS (1) (rfl) rfl 0 (by decide) w_3 (fun _ h9 => h9) rfl hin rfl (by decide +kernel) rfl rfl (Nat.le_of_ble_eq_true rfl) dX3_init_10 (fun H locs hP hD hS => ?_)
  have hP : va_P D vwCl ((q7, .inl (cO, 80, .inr (.inr (.inr (.inr (fun _ => none)))))) :: (q, .inr (2, [.ref q7, .int 0])) :: ws) H := hP
  have hD : va_D A ((q7, .inl (cO, 80, .inr (.inr (.inr (.inr (fun _ => none)))))) :: (q, .inr (2, [.ref q7, .int 0])) :: ws) := hD
  exact W.widen (k := 1) (n := 80) (Nat.le_of_ble_eq_true rfl) (Nat.le_of_ble_eq_true rfl) (W.vret hx hb hr (fun t ht hW => ⟨⟨q7, rfl, trivial, g_PD ht hP hD⟩, hS.F ht⟩) hS.2.2 dX3_init_13)
set_option maxHeartbeats 4000000 in
set_option maxRecDepth 100000 in
/-- a store -/
theorem c2_init (l : Launch) (D : va_G) (cI cZ cO cL : ClassId) (dt : Nat) (A : Nat → Prop) (ws : va_W) (q : Nat)  : Met l yX2_init wsX2_init ({ frames := 2, cells := 1, slots := 480, locals := 32 } : Room) (gPA D cI cZ cO cL dt A [.ref q] (fun H => va_P D vwCl ((q, .inr (1, [.null])) :: ws) H ∧ va_D A ((q, .inr (1, [.null])) :: ws))) (va_Qv (fun (u : Nat) => True) (fun u t => va_P D vwCl ((u, .inl (cO, 480, .inr (.inr (.inr (.inr (fun _ => none)))))) :: (q, .inr (1, [.ref u])) :: ws) t.heap ∧ va_D A ((u, .inl (cO, 480, .inr (.inr (.inr (.inr (fun _ => none)))))) :: (q, .inr (1, [.ref u])) :: ws)) A) 1 480 A := by
  refine Met.ofW (cc := cX2_init) (maxL := 1) (ret := none) (by decide) rfl ?_
  intro p9 e9 s m9 args below meth c9 s₁ B hml hv
  obtain ⟨rfl, hg, hao, hP, hD⟩ := hv
  have hx := B.exec
  have hb := B.bytes
  have hr := B.returns
  have hts := atoms_spec (ws := wsX2_init) B.pre
  have hown : s.vm.findClass RX2 = some m9.cls := findClass_of_methodNamed B.named
  have hin : meth.name = "<init>" := (name_of_methodNamed B.named B.method).1
  have hlocks := B.notSynchronized
  have hK := hg.1
  have hS : va_S A s.heap s.heap [] := va_S.rf
  have w_0 := hts (.initialized RX1) (by decide +kernel)
  have w_1 := hts (.instanceMethod yX1_init) (by decide +kernel)
  have w_2 := hts (.classLink RX2 9 RX0) (by decide +kernel)
  have w_3 := hts (.fieldLink RX2 11 "Dimfacts$KeyedFacts" "firsts" "[LDimfacts$Fact;") (by decide +kernel)
  have win_X2 : ∀ w ∈ wsX20, w ∈ wsX2_init := by decide +kernel
  have hl := lv_entry ([.ref q]) (n := 1) (Nat.le_of_ble_eq_true rfl)
  rw [lg_entry_eq]
  generalize (lg_sl ([.ref q]) ++ List.replicate (1 - (lg_sl ([.ref q])).length) Slot.unset).toArray = ls at hl ⊢
  have hl : lv_has ls 1 [(0, .ref q)] := hl
  refine lv_aload_n hx hb dX2_init_0 rfl (lv_at hl 0 rfl) ?_
  refine va_callv (va_runIN (As := []) (rest := []) ⟨hx, hb, hml, hown, hts⟩ (c1_init l D cI cZ cO cL dt A ((q, .inr (1, [.null])) :: ws) q) (⟨va_cnB 0 hts gX2_init_X1_init_n3 rfl rfl rfl hg.2.1.2.2.2.1 w_0 (by decide +kernel) ⟨Nat.le_of_ble_eq_true rfl, Nat.le_of_ble_eq_true rfl⟩, rfl, w_1⟩) (gP.s hg (⟨hP, hD⟩)) rfl rfl hl.1 rfl (lv_room (Nat.le_of_ble_eq_true rfl)) dX2_init_1 ⟨Nat.le_of_ble_eq_true rfl, Nat.le_of_ble_eq_true rfl⟩) hS (fun q _ h => h) (fun q h => h) (fun ur_1 tr_1 H locs htr_1 hvmr_1 hwr_1 hB hzr_1 hkr_1 hS => ?_)
  rw [htr_1] at hB
  obtain ⟨hP, hD⟩ := hB
  have hP : va_P D vwCl ((q, .inr (1, [.null])) :: ws) H := hP
  have hD : va_D A ((q, .inr (1, [.null])) :: ws) := hD
  refine lv_aload_n hx hb dX2_init_4 rfl (lv_at hl 0 rfl) ?_
  refine lv_sipush (v := 480) hx hb dX2_init_5 (by decide) ?_
  refine g_newq hx hb hown w_2 hao 2 rfl hK hP hD hS hg.2.2.2.2.2.2.2 (N1 := 480) (by decide) rfl (by decide) (Nat.le_of_ble_eq_true rfl) (Nat.le_of_ble_eq_true rfl) dX2_init_8 (fun q8 H hP hD hS => ?_)
  refine W.widen (k := 1) (n := 480) (Nat.le_of_ble_eq_true rfl) (Nat.le_of_ble_eq_true rfl) ?_
  have hP : va_P D vwCl ((q8, .inl (cO, 480, .inr (.inr (.inr (.inr (fun _ => none)))))) :: (q, .inr (1, [.null])) :: ws) H := hP
  have hD : va_D A ((q8, .inl (cO, 480, .inr (.inr (.inr (.inr (fun _ => none)))))) :: (q, .inr (1, [.null])) :: ws) := hD
  refine va_putF (D := D) (ci := 1) (v := .ref q8) (ty := .array (.object "Dimfacts$Fact")) (C := RX2) (T := TX2) (N := 1) hx hb hts win_X2 tyX2 tyX2_ok nmX2 hown hK hP hD hS (1) (rfl) rfl 0 (by decide) w_3 (fun _ h9 => h9) rfl hin rfl (by decide +kernel) rfl rfl (Nat.le_of_ble_eq_true rfl) dX2_init_11 (fun H locs hP hD hS => ?_)
  have hP : va_P D vwCl ((q8, .inl (cO, 480, .inr (.inr (.inr (.inr (fun _ => none)))))) :: (q, .inr (1, [.ref q8])) :: ws) H := hP
  have hD : va_D A ((q8, .inl (cO, 480, .inr (.inr (.inr (.inr (fun _ => none)))))) :: (q, .inr (1, [.ref q8])) :: ws) := hD
  exact W.widen (k := 1) (n := 480) (Nat.le_of_ble_eq_true rfl) (Nat.le_of_ble_eq_true rfl) (W.vret hx hb hr (fun t ht hW => ⟨⟨q8, rfl, trivial, g_PD ht hP hD⟩, hS.F ht⟩) hS.2.2 dX2_init_14)
set_option maxHeartbeats 4000000 in
set_option maxRecDepth 100000 in
/-- a checker -/
theorem c4_init (l : Launch) (D : va_G) (cI cZ cO cL : ClassId) (dt : Nat) (A : Nat → Prop) (q : Nat)  : Met l yX4_init wsX4_init ({ frames := 3, cells := 10, slots := 621, locals := 52 } : Room) (gPA D cI cZ cO cL dt A [.ref q] (fun H => va_P D vwCl ((q, .inr (3, [.null, .null, .int 0, .null, .null, .int 0, .int 0, .null, .null, .null, .null])) :: []) H ∧ va_D A ((q, .inr (3, [.null, .null, .int 0, .null, .null, .int 0, .int 0, .null, .null, .null, .null])) :: []))) (va_Qv (fun (u : Nat → Nat) => u 0 = q) (fun u t => va_P D vwCl (WD cI cO u (fun _ => 0) 0 0 0 0 (fun _ => 0) (fun _ => 0) (fun _ => 0) (fun _ => 0) (fun _ => none) (fun _ => 0) (fun _ => 0) ++ (WF (fun _ => 0) (fun _ => 0) (fun _ => 0) (fun _ => 0) (fun _ => 0) (fun _ => none) 0 ++ [])) t.heap ∧ va_D A (WD cI cO u (fun _ => 0) 0 0 0 0 (fun _ => 0) (fun _ => 0) (fun _ => 0) (fun _ => 0) (fun _ => none) (fun _ => 0) (fun _ => 0) ++ (WF (fun _ => 0) (fun _ => 0) (fun _ => 0) (fun _ => 0) (fun _ => 0) (fun _ => none) 0 ++ []))) A) 10 621 A := by
  refine Met.ofW (cc := cX4_init) (maxL := 1) (ret := none) (by decide) rfl ?_
  intro p9 e9 s m9 args below meth c9 s₁ B hml hv
  obtain ⟨rfl, hg, hao, hP, hD⟩ := hv
  have hx := B.exec
  have hb := B.bytes
  have hr := B.returns
  have hts := atoms_spec (ws := wsX4_init) B.pre
  have hown : s.vm.findClass RX4 = some m9.cls := findClass_of_methodNamed B.named
  have hin : meth.name = "<init>" := (name_of_methodNamed B.named B.method).1
  have hlocks := B.notSynchronized
  have hK := hg.1
  have hS : va_S A s.heap s.heap [] := va_S.rf
  have w_0 := hts (.methodLink RX4 3 objectInit) (by decide +kernel)
  have w_1 := hts (.instanceMethod objectInit) (by decide +kernel)
  have w_2 := hts (.code objectInit ⟨#[0xb1]⟩ 1 none) (by decide +kernel)
  have w_3 := hts (.arrayClass .int) (by decide +kernel)
  have w_4 := hts (.fieldLink RX4 9 "Dimfacts" "parents" "[I") (by decide +kernel)
  have win_X4 : ∀ w ∈ wsX40, w ∈ wsX4_init := by decide +kernel
  have w_6 := hts (.fieldLink RX4 13 "Dimfacts" "weights" "[I") (by decide +kernel)
  have w_7 := hts (.fieldLink RX4 16 "Dimfacts" "stocks" "[I") (by decide +kernel)
  have w_8 := hts (.fieldLink RX4 19 "Dimfacts" "flows" "[I") (by decide +kernel)
  have win_X3 : ∀ w ∈ wsX30, w ∈ wsX4_init := by decide +kernel
  have w_10 := hts (.classLink RX4 22 RX3) (by decide +kernel)
  have w_11 := hts (.instantiable RX3 2) (by decide +kernel)
  have w_12 := hts (.initialized RX3) (by decide +kernel)
  have w_13 := hts (.instanceMethod yX3_init) (by decide +kernel)
  have w_14 := hts (.fieldLink RX4 25 "Dimfacts" "listed" "LDimfacts$ListedFacts;") (by decide +kernel)
  have win_X2 : ∀ w ∈ wsX20, w ∈ wsX4_init := by decide +kernel
  have w_16 := hts (.classLink RX4 29 RX2) (by decide +kernel)
  have w_17 := hts (.instantiable RX2 1) (by decide +kernel)
  have w_18 := hts (.initialized RX2) (by decide +kernel)
  have w_19 := hts (.instanceMethod yX2_init) (by decide +kernel)
  have w_20 := hts (.fieldLink RX4 32 "Dimfacts" "keyed" "LDimfacts$KeyedFacts;") (by decide +kernel)
  have w_21 := hts (.fieldLink RX4 36 "Dimfacts" "reached" "[I") (by decide +kernel)
  have w_22 := hts (.fieldLink RX4 39 "Dimfacts" "signs" "[I") (by decide +kernel)
  have hl := lv_entry ([.ref q]) (n := 1) (Nat.le_of_ble_eq_true rfl)
  rw [lg_entry_eq]
  generalize (lg_sl ([.ref q]) ++ List.replicate (1 - (lg_sl ([.ref q])).length) Slot.unset).toArray = ls at hl ⊢
  have hl : lv_has ls 1 [(0, .ref q)] := hl
  refine lv_aload_n hx hb dX4_init_0 rfl (lv_at hl 0 rfl) ?_
  refine W.objInit hx hb hown w_0 w_1 w_2 rfl (by rw [hml]; exact hl.1) rfl dX4_init_1 (Nat.le_of_ble_eq_true rfl) (Nat.le_of_ble_eq_true rfl) ?_
  refine W.eq (g2 := F0 m9 4 ls []) rfl ?_
  refine lv_aload_n hx hb dX4_init_4 rfl (lv_at hl 0 rfl) ?_
  refine lv_bipush (v := 12) hx hb dX4_init_5 (by decide) ?_
  refine g_newa hx hb (atype := .int) w_3 rfl (fun _ => rfl) 0 rfl hK hP hD hS hg.2.2.2.2.2.2.2 (a0 := (12, .inl (fun _ => 0))) (fun _ => rfl) (by decide) rfl (by decide) (Nat.le_of_ble_eq_true rfl) (Nat.le_of_ble_eq_true rfl) dX4_init_7 (fun q7 H hP hD hS => ?_)
  refine W.widen (k := 1) (n := 12) (Nat.le_of_ble_eq_true rfl) (Nat.le_of_ble_eq_true rfl) ?_
  have hP : va_P D vwCl ((q7, .inl (cI, 12, .inl (fun _ => 0))) :: (q, .inr (3, [.null, .null, .int 0, .null, .null, .int 0, .int 0, .null, .null, .null, .null])) :: []) H := hP
  have hD : va_D A ((q7, .inl (cI, 12, .inl (fun _ => 0))) :: (q, .inr (3, [.null, .null, .int 0, .null, .null, .int 0, .int 0, .null, .null, .null, .null])) :: []) := hD
  refine va_putF (D := D) (ci := 3) (v := .ref q7) (ty := .array .int) (C := RX4) (T := TX4) (N := 11) hx hb hts win_X4 tyX4 tyX4_ok nmX4 hown hK hP hD hS (1) (rfl) rfl 0 (by decide) w_4 (fun _ h9 => h9) rfl hin rfl (by decide +kernel) rfl rfl (Nat.le_of_ble_eq_true rfl) dX4_init_9 (fun H locs hP hD hS => ?_)
  have hP : va_P D vwCl ((q7, .inl (cI, 12, .inl (fun _ => 0))) :: (q, .inr (3, [.ref q7, .null, .int 0, .null, .null, .int 0, .int 0, .null, .null, .null, .null])) :: []) H := hP
  have hD : va_D A ((q7, .inl (cI, 12, .inl (fun _ => 0))) :: (q, .inr (3, [.ref q7, .null, .int 0, .null, .null, .int 0, .int 0, .null, .null, .null, .null])) :: []) := hD
  refine lv_aload_n hx hb dX4_init_12 rfl (lv_at hl 0 rfl) ?_
  refine lv_bipush (v := 12) hx hb dX4_init_13 (by decide) ?_
  refine g_newa hx hb (atype := .int) w_3 rfl (fun _ => rfl) 0 rfl hK hP hD hS hg.2.2.2.2.2.2.2 (a0 := (12, .inl (fun _ => 0))) (fun _ => rfl) (by decide) rfl (by decide) (Nat.le_of_ble_eq_true rfl) (Nat.le_of_ble_eq_true rfl) dX4_init_15 (fun q15 H hP hD hS => ?_)
  refine W.widen (k := 2) (n := 24) (Nat.le_of_ble_eq_true rfl) (Nat.le_of_ble_eq_true rfl) ?_
  have hP : va_P D vwCl ((q15, .inl (cI, 12, .inl (fun _ => 0))) :: (q7, .inl (cI, 12, .inl (fun _ => 0))) :: (q, .inr (3, [.ref q7, .null, .int 0, .null, .null, .int 0, .int 0, .null, .null, .null, .null])) :: []) H := hP
  have hD : va_D A ((q15, .inl (cI, 12, .inl (fun _ => 0))) :: (q7, .inl (cI, 12, .inl (fun _ => 0))) :: (q, .inr (3, [.ref q7, .null, .int 0, .null, .null, .int 0, .int 0, .null, .null, .null, .null])) :: []) := hD
  refine va_putF (D := D) (ci := 3) (v := .ref q15) (ty := .array .int) (C := RX4) (T := TX4) (N := 11) hx hb hts win_X4 tyX4 tyX4_ok nmX4 hown hK hP hD hS (2) (rfl) rfl 1 (by decide) w_6 (fun _ h9 => h9) rfl hin rfl (by decide +kernel) rfl rfl (Nat.le_of_ble_eq_true rfl) dX4_init_17 (fun H locs hP hD hS => ?_)
  have hP : va_P D vwCl ((q15, .inl (cI, 12, .inl (fun _ => 0))) :: (q7, .inl (cI, 12, .inl (fun _ => 0))) :: (q, .inr (3, [.ref q7, .ref q15, .int 0, .null, .null, .int 0, .int 0, .null, .null, .null, .null])) :: []) H := hP
  have hD : va_D A ((q15, .inl (cI, 12, .inl (fun _ => 0))) :: (q7, .inl (cI, 12, .inl (fun _ => 0))) :: (q, .inr (3, [.ref q7, .ref q15, .int 0, .null, .null, .int 0, .int 0, .null, .null, .null, .null])) :: []) := hD
  refine lv_aload_n hx hb dX4_init_20 rfl (lv_at hl 0 rfl) ?_
  refine lv_iconst (v := 5) hx hb dX4_init_21 (by decide) ?_
  refine g_newa hx hb (atype := .int) w_3 rfl (fun _ => rfl) 0 rfl hK hP hD hS hg.2.2.2.2.2.2.2 (a0 := (5, .inl (fun _ => 0))) (fun _ => rfl) (by decide) rfl (by decide) (Nat.le_of_ble_eq_true rfl) (Nat.le_of_ble_eq_true rfl) dX4_init_22 (fun q22 H hP hD hS => ?_)
  refine W.widen (k := 3) (n := 29) (Nat.le_of_ble_eq_true rfl) (Nat.le_of_ble_eq_true rfl) ?_
  have hP : va_P D vwCl ((q22, .inl (cI, 5, .inl (fun _ => 0))) :: (q15, .inl (cI, 12, .inl (fun _ => 0))) :: (q7, .inl (cI, 12, .inl (fun _ => 0))) :: (q, .inr (3, [.ref q7, .ref q15, .int 0, .null, .null, .int 0, .int 0, .null, .null, .null, .null])) :: []) H := hP
  have hD : va_D A ((q22, .inl (cI, 5, .inl (fun _ => 0))) :: (q15, .inl (cI, 12, .inl (fun _ => 0))) :: (q7, .inl (cI, 12, .inl (fun _ => 0))) :: (q, .inr (3, [.ref q7, .ref q15, .int 0, .null, .null, .int 0, .int 0, .null, .null, .null, .null])) :: []) := hD
  refine va_putF (D := D) (ci := 3) (v := .ref q22) (ty := .array .int) (C := RX4) (T := TX4) (N := 11) hx hb hts win_X4 tyX4 tyX4_ok nmX4 hown hK hP hD hS (3) (rfl) rfl 3 (by decide) w_7 (fun _ h9 => h9) rfl hin rfl (by decide +kernel) rfl rfl (Nat.le_of_ble_eq_true rfl) dX4_init_24 (fun H locs hP hD hS => ?_)
  have hP : va_P D vwCl ((q22, .inl (cI, 5, .inl (fun _ => 0))) :: (q15, .inl (cI, 12, .inl (fun _ => 0))) :: (q7, .inl (cI, 12, .inl (fun _ => 0))) :: (q, .inr (3, [.ref q7, .ref q15, .int 0, .ref q22, .null, .int 0, .int 0, .null, .null, .null, .null])) :: []) H := hP
  have hD : va_D A ((q22, .inl (cI, 5, .inl (fun _ => 0))) :: (q15, .inl (cI, 12, .inl (fun _ => 0))) :: (q7, .inl (cI, 12, .inl (fun _ => 0))) :: (q, .inr (3, [.ref q7, .ref q15, .int 0, .ref q22, .null, .int 0, .int 0, .null, .null, .null, .null])) :: []) := hD
  refine lv_aload_n hx hb dX4_init_27 rfl (lv_at hl 0 rfl) ?_
  refine lv_iconst (v := 5) hx hb dX4_init_28 (by decide) ?_
  refine g_newa hx hb (atype := .int) w_3 rfl (fun _ => rfl) 0 rfl hK hP hD hS hg.2.2.2.2.2.2.2 (a0 := (5, .inl (fun _ => 0))) (fun _ => rfl) (by decide) rfl (by decide) (Nat.le_of_ble_eq_true rfl) (Nat.le_of_ble_eq_true rfl) dX4_init_29 (fun q29 H hP hD hS => ?_)
  refine W.widen (k := 4) (n := 34) (Nat.le_of_ble_eq_true rfl) (Nat.le_of_ble_eq_true rfl) ?_
  have hP : va_P D vwCl ((q29, .inl (cI, 5, .inl (fun _ => 0))) :: (q22, .inl (cI, 5, .inl (fun _ => 0))) :: (q15, .inl (cI, 12, .inl (fun _ => 0))) :: (q7, .inl (cI, 12, .inl (fun _ => 0))) :: (q, .inr (3, [.ref q7, .ref q15, .int 0, .ref q22, .null, .int 0, .int 0, .null, .null, .null, .null])) :: []) H := hP
  have hD : va_D A ((q29, .inl (cI, 5, .inl (fun _ => 0))) :: (q22, .inl (cI, 5, .inl (fun _ => 0))) :: (q15, .inl (cI, 12, .inl (fun _ => 0))) :: (q7, .inl (cI, 12, .inl (fun _ => 0))) :: (q, .inr (3, [.ref q7, .ref q15, .int 0, .ref q22, .null, .int 0, .int 0, .null, .null, .null, .null])) :: []) := hD
  refine va_putF (D := D) (ci := 3) (v := .ref q29) (ty := .array .int) (C := RX4) (T := TX4) (N := 11) hx hb hts win_X4 tyX4 tyX4_ok nmX4 hown hK hP hD hS (4) (rfl) rfl 4 (by decide) w_8 (fun _ h9 => h9) rfl hin rfl (by decide +kernel) rfl rfl (Nat.le_of_ble_eq_true rfl) dX4_init_31 (fun H locs hP hD hS => ?_)
  have hP : va_P D vwCl ((q29, .inl (cI, 5, .inl (fun _ => 0))) :: (q22, .inl (cI, 5, .inl (fun _ => 0))) :: (q15, .inl (cI, 12, .inl (fun _ => 0))) :: (q7, .inl (cI, 12, .inl (fun _ => 0))) :: (q, .inr (3, [.ref q7, .ref q15, .int 0, .ref q22, .ref q29, .int 0, .int 0, .null, .null, .null, .null])) :: []) H := hP
  have hD : va_D A ((q29, .inl (cI, 5, .inl (fun _ => 0))) :: (q22, .inl (cI, 5, .inl (fun _ => 0))) :: (q15, .inl (cI, 12, .inl (fun _ => 0))) :: (q7, .inl (cI, 12, .inl (fun _ => 0))) :: (q, .inr (3, [.ref q7, .ref q15, .int 0, .ref q22, .ref q29, .int 0, .int 0, .null, .null, .null, .null])) :: []) := hD
  refine lv_aload_n hx hb dX4_init_34 rfl (lv_at hl 0 rfl) ?_
  refine va_new (ci := 2) (fs := [.null, .int 0]) (C := RX3) (T := TX3) (N := 2) hx hb hts win_X3 tyX3 tyX3_ok hown w_10 w_11 w_12 hK hP hD hS hg.2.2.2.2.2.2.2 rfl (fun j hj => by rcases (show j = 0 ∨ j = 1 by omega) with rfl | rfl <;> rfl) (Nat.le_of_ble_eq_true rfl) (Nat.le_of_ble_eq_true rfl) dX4_init_35 (fun q35 H hP hD hS => ?_)
  refine W.widen (k := 5) (n := 36) (Nat.le_of_ble_eq_true rfl) (Nat.le_of_ble_eq_true rfl) ?_
  have hP := va_P_perm hP (List.perm_append_singleton _ _).symm
  have hD := va_D_perm hD (List.perm_append_singleton _ _).symm
  have hP : va_P D vwCl ((q35, .inr (2, [.null, .int 0])) :: (q29, .inl (cI, 5, .inl (fun _ => 0))) :: (q22, .inl (cI, 5, .inl (fun _ => 0))) :: (q15, .inl (cI, 12, .inl (fun _ => 0))) :: (q7, .inl (cI, 12, .inl (fun _ => 0))) :: (q, .inr (3, [.ref q7, .ref q15, .int 0, .ref q22, .ref q29, .int 0, .int 0, .null, .null, .null, .null])) :: []) H := hP
  have hD : va_D A ((q35, .inr (2, [.null, .int 0])) :: (q29, .inl (cI, 5, .inl (fun _ => 0))) :: (q22, .inl (cI, 5, .inl (fun _ => 0))) :: (q15, .inl (cI, 12, .inl (fun _ => 0))) :: (q7, .inl (cI, 12, .inl (fun _ => 0))) :: (q, .inr (3, [.ref q7, .ref q15, .int 0, .ref q22, .ref q29, .int 0, .int 0, .null, .null, .null, .null])) :: []) := hD
  refine lv_dup hx hb dX4_init_38 rfl ?_
  refine va_callv (va_runIN (As := []) (rest := [.ref q35, .ref q]) ⟨hx, hb, hml, hown, hts⟩ (c3_init l D cI cZ cO cL dt A ((q29, .inl (cI, 5, .inl (fun _ => 0))) :: (q22, .inl (cI, 5, .inl (fun _ => 0))) :: (q15, .inl (cI, 12, .inl (fun _ => 0))) :: (q7, .inl (cI, 12, .inl (fun _ => 0))) :: (q, .inr (3, [.ref q7, .ref q15, .int 0, .ref q22, .ref q29, .int 0, .int 0, .null, .null, .null, .null])) :: []) q35) (⟨va_cnB 0 hts gX4_init_X3_init_n24 rfl rfl rfl hg.2.1.1 w_12 (by decide +kernel) ⟨Nat.le_of_ble_eq_true rfl, Nat.le_of_ble_eq_true rfl⟩, rfl, w_13⟩) (gPA.s (hg.on hS) hao ⟨hP, hD⟩) rfl rfl hl.1 rfl (lv_room (Nat.le_of_ble_eq_true rfl)) dX4_init_39 ⟨Nat.le_of_ble_eq_true rfl, Nat.le_of_ble_eq_true rfl⟩) hS (fun q _ h => h) (fun q h => h) (fun ur_1 tr_1 H locs htr_1 hvmr_1 hwr_1 hB hzr_1 hkr_1 hS => ?_)
  rw [htr_1] at hB
  obtain ⟨hP, hD⟩ := hB
  refine W.widen (k := 6) (n := 116) (Nat.le_of_ble_eq_true rfl) (Nat.le_of_ble_eq_true rfl) ?_
  have hP : va_P D vwCl ((ur_1, .inl (cO, 80, .inr (.inr (.inr (.inr (fun _ => none)))))) :: (q35, .inr (2, [.ref ur_1, .int 0])) :: (q29, .inl (cI, 5, .inl (fun _ => 0))) :: (q22, .inl (cI, 5, .inl (fun _ => 0))) :: (q15, .inl (cI, 12, .inl (fun _ => 0))) :: (q7, .inl (cI, 12, .inl (fun _ => 0))) :: (q, .inr (3, [.ref q7, .ref q15, .int 0, .ref q22, .ref q29, .int 0, .int 0, .null, .null, .null, .null])) :: []) H := hP
  have hD : va_D A ((ur_1, .inl (cO, 80, .inr (.inr (.inr (.inr (fun _ => none)))))) :: (q35, .inr (2, [.ref ur_1, .int 0])) :: (q29, .inl (cI, 5, .inl (fun _ => 0))) :: (q22, .inl (cI, 5, .inl (fun _ => 0))) :: (q15, .inl (cI, 12, .inl (fun _ => 0))) :: (q7, .inl (cI, 12, .inl (fun _ => 0))) :: (q, .inr (3, [.ref q7, .ref q15, .int 0, .ref q22, .ref q29, .int 0, .int 0, .null, .null, .null, .null])) :: []) := hD
  refine va_putF (D := D) (ci := 3) (v := .ref q35) (ty := .object "Dimfacts$ListedFacts") (C := RX4) (T := TX4) (N := 11) hx hb hts win_X4 tyX4 tyX4_ok nmX4 hown hK hP hD hS (6) (rfl) rfl 7 (by decide) w_14 (fun _ h9 => h9) rfl hin rfl (by decide +kernel) rfl rfl (Nat.le_of_ble_eq_true rfl) dX4_init_42 (fun H locs hP hD hS => ?_)
  have hP : va_P D vwCl ((ur_1, .inl (cO, 80, .inr (.inr (.inr (.inr (fun _ => none)))))) :: (q35, .inr (2, [.ref ur_1, .int 0])) :: (q29, .inl (cI, 5, .inl (fun _ => 0))) :: (q22, .inl (cI, 5, .inl (fun _ => 0))) :: (q15, .inl (cI, 12, .inl (fun _ => 0))) :: (q7, .inl (cI, 12, .inl (fun _ => 0))) :: (q, .inr (3, [.ref q7, .ref q15, .int 0, .ref q22, .ref q29, .int 0, .int 0, .ref q35, .null, .null, .null])) :: []) H := hP
  have hD : va_D A ((ur_1, .inl (cO, 80, .inr (.inr (.inr (.inr (fun _ => none)))))) :: (q35, .inr (2, [.ref ur_1, .int 0])) :: (q29, .inl (cI, 5, .inl (fun _ => 0))) :: (q22, .inl (cI, 5, .inl (fun _ => 0))) :: (q15, .inl (cI, 12, .inl (fun _ => 0))) :: (q7, .inl (cI, 12, .inl (fun _ => 0))) :: (q, .inr (3, [.ref q7, .ref q15, .int 0, .ref q22, .ref q29, .int 0, .int 0, .ref q35, .null, .null, .null])) :: []) := hD
  refine lv_aload_n hx hb dX4_init_45 rfl (lv_at hl 0 rfl) ?_
  refine va_new (ci := 1) (fs := [.null]) (C := RX2) (T := TX2) (N := 1) hx hb hts win_X2 tyX2 tyX2_ok hown w_16 w_17 w_18 hK hP hD hS hg.2.2.2.2.2.2.2 rfl (fun j hj => by rcases (show j = 0 by omega) with rfl <;> rfl) (Nat.le_of_ble_eq_true rfl) (Nat.le_of_ble_eq_true rfl) dX4_init_46 (fun q46 H hP hD hS => ?_)
  refine W.widen (k := 7) (n := 117) (Nat.le_of_ble_eq_true rfl) (Nat.le_of_ble_eq_true rfl) ?_
  have hP := va_P_perm hP (List.perm_append_singleton _ _).symm
  have hD := va_D_perm hD (List.perm_append_singleton _ _).symm
  have hP : va_P D vwCl ((q46, .inr (1, [.null])) :: (ur_1, .inl (cO, 80, .inr (.inr (.inr (.inr (fun _ => none)))))) :: (q35, .inr (2, [.ref ur_1, .int 0])) :: (q29, .inl (cI, 5, .inl (fun _ => 0))) :: (q22, .inl (cI, 5, .inl (fun _ => 0))) :: (q15, .inl (cI, 12, .inl (fun _ => 0))) :: (q7, .inl (cI, 12, .inl (fun _ => 0))) :: (q, .inr (3, [.ref q7, .ref q15, .int 0, .ref q22, .ref q29, .int 0, .int 0, .ref q35, .null, .null, .null])) :: []) H := hP
  have hD : va_D A ((q46, .inr (1, [.null])) :: (ur_1, .inl (cO, 80, .inr (.inr (.inr (.inr (fun _ => none)))))) :: (q35, .inr (2, [.ref ur_1, .int 0])) :: (q29, .inl (cI, 5, .inl (fun _ => 0))) :: (q22, .inl (cI, 5, .inl (fun _ => 0))) :: (q15, .inl (cI, 12, .inl (fun _ => 0))) :: (q7, .inl (cI, 12, .inl (fun _ => 0))) :: (q, .inr (3, [.ref q7, .ref q15, .int 0, .ref q22, .ref q29, .int 0, .int 0, .ref q35, .null, .null, .null])) :: []) := hD
  refine lv_dup hx hb dX4_init_49 rfl ?_
  refine va_callv (va_runIN (As := []) (rest := [.ref q46, .ref q]) ⟨hx, hb, hml, hown, hts⟩ (c2_init l D cI cZ cO cL dt A ((ur_1, .inl (cO, 80, .inr (.inr (.inr (.inr (fun _ => none)))))) :: (q35, .inr (2, [.ref ur_1, .int 0])) :: (q29, .inl (cI, 5, .inl (fun _ => 0))) :: (q22, .inl (cI, 5, .inl (fun _ => 0))) :: (q15, .inl (cI, 12, .inl (fun _ => 0))) :: (q7, .inl (cI, 12, .inl (fun _ => 0))) :: (q, .inr (3, [.ref q7, .ref q15, .int 0, .ref q22, .ref q29, .int 0, .int 0, .ref q35, .null, .null, .null])) :: []) q46) (⟨va_cnB 0 hts gX4_init_X2_init_n31 rfl rfl rfl hg.2.1.2.1 w_18 (by decide +kernel) ⟨Nat.le_of_ble_eq_true rfl, Nat.le_of_ble_eq_true rfl⟩, rfl, w_19⟩) (gPA.s (hg.on hS) hao ⟨hP, hD⟩) rfl rfl hl.1 rfl (lv_room (Nat.le_of_ble_eq_true rfl)) dX4_init_50 ⟨Nat.le_of_ble_eq_true rfl, Nat.le_of_ble_eq_true rfl⟩) hS (fun q _ h => h) (fun q h => h) (fun ur_2 tr_2 H locs htr_2 hvmr_2 hwr_2 hB hzr_2 hkr_2 hS => ?_)
  rw [htr_2] at hB
  obtain ⟨hP, hD⟩ := hB
  refine W.widen (k := 8) (n := 597) (Nat.le_of_ble_eq_true rfl) (Nat.le_of_ble_eq_true rfl) ?_
  have hP : va_P D vwCl ((ur_2, .inl (cO, 480, .inr (.inr (.inr (.inr (fun _ => none)))))) :: (q46, .inr (1, [.ref ur_2])) :: (ur_1, .inl (cO, 80, .inr (.inr (.inr (.inr (fun _ => none)))))) :: (q35, .inr (2, [.ref ur_1, .int 0])) :: (q29, .inl (cI, 5, .inl (fun _ => 0))) :: (q22, .inl (cI, 5, .inl (fun _ => 0))) :: (q15, .inl (cI, 12, .inl (fun _ => 0))) :: (q7, .inl (cI, 12, .inl (fun _ => 0))) :: (q, .inr (3, [.ref q7, .ref q15, .int 0, .ref q22, .ref q29, .int 0, .int 0, .ref q35, .null, .null, .null])) :: []) H := hP
  have hD : va_D A ((ur_2, .inl (cO, 480, .inr (.inr (.inr (.inr (fun _ => none)))))) :: (q46, .inr (1, [.ref ur_2])) :: (ur_1, .inl (cO, 80, .inr (.inr (.inr (.inr (fun _ => none)))))) :: (q35, .inr (2, [.ref ur_1, .int 0])) :: (q29, .inl (cI, 5, .inl (fun _ => 0))) :: (q22, .inl (cI, 5, .inl (fun _ => 0))) :: (q15, .inl (cI, 12, .inl (fun _ => 0))) :: (q7, .inl (cI, 12, .inl (fun _ => 0))) :: (q, .inr (3, [.ref q7, .ref q15, .int 0, .ref q22, .ref q29, .int 0, .int 0, .ref q35, .null, .null, .null])) :: []) := hD
  refine va_putF (D := D) (ci := 3) (v := .ref q46) (ty := .object "Dimfacts$KeyedFacts") (C := RX4) (T := TX4) (N := 11) hx hb hts win_X4 tyX4 tyX4_ok nmX4 hown hK hP hD hS (8) (rfl) rfl 8 (by decide) w_20 (fun _ h9 => h9) rfl hin rfl (by decide +kernel) rfl rfl (Nat.le_of_ble_eq_true rfl) dX4_init_53 (fun H locs hP hD hS => ?_)
  have hP : va_P D vwCl ((ur_2, .inl (cO, 480, .inr (.inr (.inr (.inr (fun _ => none)))))) :: (q46, .inr (1, [.ref ur_2])) :: (ur_1, .inl (cO, 80, .inr (.inr (.inr (.inr (fun _ => none)))))) :: (q35, .inr (2, [.ref ur_1, .int 0])) :: (q29, .inl (cI, 5, .inl (fun _ => 0))) :: (q22, .inl (cI, 5, .inl (fun _ => 0))) :: (q15, .inl (cI, 12, .inl (fun _ => 0))) :: (q7, .inl (cI, 12, .inl (fun _ => 0))) :: (q, .inr (3, [.ref q7, .ref q15, .int 0, .ref q22, .ref q29, .int 0, .int 0, .ref q35, .ref q46, .null, .null])) :: []) H := hP
  have hD : va_D A ((ur_2, .inl (cO, 480, .inr (.inr (.inr (.inr (fun _ => none)))))) :: (q46, .inr (1, [.ref ur_2])) :: (ur_1, .inl (cO, 80, .inr (.inr (.inr (.inr (fun _ => none)))))) :: (q35, .inr (2, [.ref ur_1, .int 0])) :: (q29, .inl (cI, 5, .inl (fun _ => 0))) :: (q22, .inl (cI, 5, .inl (fun _ => 0))) :: (q15, .inl (cI, 12, .inl (fun _ => 0))) :: (q7, .inl (cI, 12, .inl (fun _ => 0))) :: (q, .inr (3, [.ref q7, .ref q15, .int 0, .ref q22, .ref q29, .int 0, .int 0, .ref q35, .ref q46, .null, .null])) :: []) := hD
  refine lv_aload_n hx hb dX4_init_56 rfl (lv_at hl 0 rfl) ?_
  refine lv_bipush (v := 12) hx hb dX4_init_57 (by decide) ?_
  refine g_newa hx hb (atype := .int) w_3 rfl (fun _ => rfl) 0 rfl hK hP hD hS hg.2.2.2.2.2.2.2 (a0 := (12, .inl (fun _ => 0))) (fun _ => rfl) (by decide) rfl (by decide) (Nat.le_of_ble_eq_true rfl) (Nat.le_of_ble_eq_true rfl) dX4_init_59 (fun q59 H hP hD hS => ?_)
  refine W.widen (k := 9) (n := 609) (Nat.le_of_ble_eq_true rfl) (Nat.le_of_ble_eq_true rfl) ?_
  have hP : va_P D vwCl ((q59, .inl (cI, 12, .inl (fun _ => 0))) :: (ur_2, .inl (cO, 480, .inr (.inr (.inr (.inr (fun _ => none)))))) :: (q46, .inr (1, [.ref ur_2])) :: (ur_1, .inl (cO, 80, .inr (.inr (.inr (.inr (fun _ => none)))))) :: (q35, .inr (2, [.ref ur_1, .int 0])) :: (q29, .inl (cI, 5, .inl (fun _ => 0))) :: (q22, .inl (cI, 5, .inl (fun _ => 0))) :: (q15, .inl (cI, 12, .inl (fun _ => 0))) :: (q7, .inl (cI, 12, .inl (fun _ => 0))) :: (q, .inr (3, [.ref q7, .ref q15, .int 0, .ref q22, .ref q29, .int 0, .int 0, .ref q35, .ref q46, .null, .null])) :: []) H := hP
  have hD : va_D A ((q59, .inl (cI, 12, .inl (fun _ => 0))) :: (ur_2, .inl (cO, 480, .inr (.inr (.inr (.inr (fun _ => none)))))) :: (q46, .inr (1, [.ref ur_2])) :: (ur_1, .inl (cO, 80, .inr (.inr (.inr (.inr (fun _ => none)))))) :: (q35, .inr (2, [.ref ur_1, .int 0])) :: (q29, .inl (cI, 5, .inl (fun _ => 0))) :: (q22, .inl (cI, 5, .inl (fun _ => 0))) :: (q15, .inl (cI, 12, .inl (fun _ => 0))) :: (q7, .inl (cI, 12, .inl (fun _ => 0))) :: (q, .inr (3, [.ref q7, .ref q15, .int 0, .ref q22, .ref q29, .int 0, .int 0, .ref q35, .ref q46, .null, .null])) :: []) := hD
  refine va_putF (D := D) (ci := 3) (v := .ref q59) (ty := .array .int) (C := RX4) (T := TX4) (N := 11) hx hb hts win_X4 tyX4 tyX4_ok nmX4 hown hK hP hD hS (9) (rfl) rfl 9 (by decide) w_21 (fun _ h9 => h9) rfl hin rfl (by decide +kernel) rfl rfl (Nat.le_of_ble_eq_true rfl) dX4_init_61 (fun H locs hP hD hS => ?_)
  have hP : va_P D vwCl ((q59, .inl (cI, 12, .inl (fun _ => 0))) :: (ur_2, .inl (cO, 480, .inr (.inr (.inr (.inr (fun _ => none)))))) :: (q46, .inr (1, [.ref ur_2])) :: (ur_1, .inl (cO, 80, .inr (.inr (.inr (.inr (fun _ => none)))))) :: (q35, .inr (2, [.ref ur_1, .int 0])) :: (q29, .inl (cI, 5, .inl (fun _ => 0))) :: (q22, .inl (cI, 5, .inl (fun _ => 0))) :: (q15, .inl (cI, 12, .inl (fun _ => 0))) :: (q7, .inl (cI, 12, .inl (fun _ => 0))) :: (q, .inr (3, [.ref q7, .ref q15, .int 0, .ref q22, .ref q29, .int 0, .int 0, .ref q35, .ref q46, .ref q59, .null])) :: []) H := hP
  have hD : va_D A ((q59, .inl (cI, 12, .inl (fun _ => 0))) :: (ur_2, .inl (cO, 480, .inr (.inr (.inr (.inr (fun _ => none)))))) :: (q46, .inr (1, [.ref ur_2])) :: (ur_1, .inl (cO, 80, .inr (.inr (.inr (.inr (fun _ => none)))))) :: (q35, .inr (2, [.ref ur_1, .int 0])) :: (q29, .inl (cI, 5, .inl (fun _ => 0))) :: (q22, .inl (cI, 5, .inl (fun _ => 0))) :: (q15, .inl (cI, 12, .inl (fun _ => 0))) :: (q7, .inl (cI, 12, .inl (fun _ => 0))) :: (q, .inr (3, [.ref q7, .ref q15, .int 0, .ref q22, .ref q29, .int 0, .int 0, .ref q35, .ref q46, .ref q59, .null])) :: []) := hD
  refine lv_aload_n hx hb dX4_init_64 rfl (lv_at hl 0 rfl) ?_
  refine lv_bipush (v := 12) hx hb dX4_init_65 (by decide) ?_
  refine g_newa hx hb (atype := .int) w_3 rfl (fun _ => rfl) 0 rfl hK hP hD hS hg.2.2.2.2.2.2.2 (a0 := (12, .inl (fun _ => 0))) (fun _ => rfl) (by decide) rfl (by decide) (Nat.le_of_ble_eq_true rfl) (Nat.le_of_ble_eq_true rfl) dX4_init_67 (fun q67 H hP hD hS => ?_)
  refine W.widen (k := 10) (n := 621) (Nat.le_of_ble_eq_true rfl) (Nat.le_of_ble_eq_true rfl) ?_
  have hP : va_P D vwCl ((q67, .inl (cI, 12, .inl (fun _ => 0))) :: (q59, .inl (cI, 12, .inl (fun _ => 0))) :: (ur_2, .inl (cO, 480, .inr (.inr (.inr (.inr (fun _ => none)))))) :: (q46, .inr (1, [.ref ur_2])) :: (ur_1, .inl (cO, 80, .inr (.inr (.inr (.inr (fun _ => none)))))) :: (q35, .inr (2, [.ref ur_1, .int 0])) :: (q29, .inl (cI, 5, .inl (fun _ => 0))) :: (q22, .inl (cI, 5, .inl (fun _ => 0))) :: (q15, .inl (cI, 12, .inl (fun _ => 0))) :: (q7, .inl (cI, 12, .inl (fun _ => 0))) :: (q, .inr (3, [.ref q7, .ref q15, .int 0, .ref q22, .ref q29, .int 0, .int 0, .ref q35, .ref q46, .ref q59, .null])) :: []) H := hP
  have hD : va_D A ((q67, .inl (cI, 12, .inl (fun _ => 0))) :: (q59, .inl (cI, 12, .inl (fun _ => 0))) :: (ur_2, .inl (cO, 480, .inr (.inr (.inr (.inr (fun _ => none)))))) :: (q46, .inr (1, [.ref ur_2])) :: (ur_1, .inl (cO, 80, .inr (.inr (.inr (.inr (fun _ => none)))))) :: (q35, .inr (2, [.ref ur_1, .int 0])) :: (q29, .inl (cI, 5, .inl (fun _ => 0))) :: (q22, .inl (cI, 5, .inl (fun _ => 0))) :: (q15, .inl (cI, 12, .inl (fun _ => 0))) :: (q7, .inl (cI, 12, .inl (fun _ => 0))) :: (q, .inr (3, [.ref q7, .ref q15, .int 0, .ref q22, .ref q29, .int 0, .int 0, .ref q35, .ref q46, .ref q59, .null])) :: []) := hD
  refine va_putF (D := D) (ci := 3) (v := .ref q67) (ty := .array .int) (C := RX4) (T := TX4) (N := 11) hx hb hts win_X4 tyX4 tyX4_ok nmX4 hown hK hP hD hS (10) (rfl) rfl 10 (by decide) w_22 (fun _ h9 => h9) rfl hin rfl (by decide +kernel) rfl rfl (Nat.le_of_ble_eq_true rfl) dX4_init_69 (fun H locs hP hD hS => ?_)
  have hP : va_P D vwCl ((q67, .inl (cI, 12, .inl (fun _ => 0))) :: (q59, .inl (cI, 12, .inl (fun _ => 0))) :: (ur_2, .inl (cO, 480, .inr (.inr (.inr (.inr (fun _ => none)))))) :: (q46, .inr (1, [.ref ur_2])) :: (ur_1, .inl (cO, 80, .inr (.inr (.inr (.inr (fun _ => none)))))) :: (q35, .inr (2, [.ref ur_1, .int 0])) :: (q29, .inl (cI, 5, .inl (fun _ => 0))) :: (q22, .inl (cI, 5, .inl (fun _ => 0))) :: (q15, .inl (cI, 12, .inl (fun _ => 0))) :: (q7, .inl (cI, 12, .inl (fun _ => 0))) :: (q, .inr (3, [.ref q7, .ref q15, .int 0, .ref q22, .ref q29, .int 0, .int 0, .ref q35, .ref q46, .ref q59, .ref q67])) :: []) H := hP
  have hD : va_D A ((q67, .inl (cI, 12, .inl (fun _ => 0))) :: (q59, .inl (cI, 12, .inl (fun _ => 0))) :: (ur_2, .inl (cO, 480, .inr (.inr (.inr (.inr (fun _ => none)))))) :: (q46, .inr (1, [.ref ur_2])) :: (ur_1, .inl (cO, 80, .inr (.inr (.inr (.inr (fun _ => none)))))) :: (q35, .inr (2, [.ref ur_1, .int 0])) :: (q29, .inl (cI, 5, .inl (fun _ => 0))) :: (q22, .inl (cI, 5, .inl (fun _ => 0))) :: (q15, .inl (cI, 12, .inl (fun _ => 0))) :: (q7, .inl (cI, 12, .inl (fun _ => 0))) :: (q, .inr (3, [.ref q7, .ref q15, .int 0, .ref q22, .ref q29, .int 0, .int 0, .ref q35, .ref q46, .ref q59, .ref q67])) :: []) := hD
  have hWD : [10, 9, 8, 7, 6, 5, 3, 1, 0, 4, 2].filterMap (fun i => ((q67, .inl (cI, 12, .inl (fun _ => 0))) :: (q59, .inl (cI, 12, .inl (fun _ => 0))) :: (ur_2, .inl (cO, 480, .inr (.inr (.inr (.inr (fun _ => none)))))) :: (q46, .inr (1, [.ref ur_2])) :: (ur_1, .inl (cO, 80, .inr (.inr (.inr (.inr (fun _ => none)))))) :: (q35, .inr (2, [.ref ur_1, .int 0])) :: (q29, .inl (cI, 5, .inl (fun _ => 0))) :: (q22, .inl (cI, 5, .inl (fun _ => 0))) :: (q15, .inl (cI, 12, .inl (fun _ => 0))) :: (q7, .inl (cI, 12, .inl (fun _ => 0))) :: (q, .inr (3, [.ref q7, .ref q15, .int 0, .ref q22, .ref q29, .int 0, .int 0, .ref q35, .ref q46, .ref q59, .ref q67])) :: [])[i]?) = WD cI cO (fun k => ([q, q7, q15, q22, q29, q35, q46, q59, q67, ur_1, ur_2] : List Nat).getD k 0) (fun _ => 0) 0 0 0 0 (fun _ => 0) (fun _ => 0) (fun _ => 0) (fun _ => 0) (fun _ => none) (fun _ => 0) (fun _ => 0) ++ (WF (fun _ => 0) (fun _ => 0) (fun _ => 0) (fun _ => 0) (fun _ => 0) (fun _ => none) 0 ++ []) := by rw [WD_0]; rfl
  have hP := hP.sub [10, 9, 8, 7, 6, 5, 3, 1, 0, 4, 2] hWD
  have hD := va_D.sub hD [10, 9, 8, 7, 6, 5, 3, 1, 0, 4, 2] (by decide) (ws' := WD cI cO (fun k => ([q, q7, q15, q22, q29, q35, q46, q59, q67, ur_1, ur_2] : List Nat).getD k 0) (fun _ => 0) 0 0 0 0 (fun _ => 0) (fun _ => 0) (fun _ => 0) (fun _ => 0) (fun _ => none) (fun _ => 0) (fun _ => 0) ++ (WF (fun _ => 0) (fun _ => 0) (fun _ => 0) (fun _ => 0) (fun _ => 0) (fun _ => none) 0 ++ [])) (by rw [WD_0]; rfl)
  exact W.widen (k := 10) (n := 621) (Nat.le_of_ble_eq_true rfl) (Nat.le_of_ble_eq_true rfl) (W.vret hx hb hr (fun t ht hW => ⟨⟨(fun k => ([q, q7, q15, q22, q29, q35, q46, q59, q67, ur_1, ur_2] : List Nat).getD k 0), rfl, rfl, g_PD ht hP hD⟩, hS.F ht⟩) hS.2.2 dX4_init_72)
