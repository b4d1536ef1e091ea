-- THE LAW'S OWN METHODS: from what the class's methods say to what they say of a world that may change
theorem vx_mono {l : Launch} {y : MethodName} {ws : List Cond} {rm : Room} {Pc Pc' : Array Value → State → Prop} {Qc Qc' : Array Value → State → Outcome → State → Prop} {XC XC' : String → State → State → Prop} {mc ms : Nat} {free free' : Addr → Prop}
    (h : vx_Met l y ws rm Pc Qc XC mc ms free) (hP : ∀ a s, Pc' a s → Pc a s) (hQ : ∀ a s o t, Pc' a s → Qc a s o t → Qc' a s o t) (hX : ∀ a s E t, Pc' a s → XC E s t → XC' E s t) (hf : ∀ q, free q → free' q) : vx_Met l y ws rm Pc' Qc' XC' mc ms free' := by
  intro p e ha hc hk s m args below hfr happ hpre hK
  obtain ⟨n, o, h1, h2, h3, h4⟩ := h p e ha hc hk s m args below hfr happ (hP _ _ hpre) hK
  refine ⟨n, o, h1, h2, h3, ?_⟩
  rcases h4 with ⟨hq, L, hF, hL⟩ | ⟨q, ho, E, ce, L, hx, r1, r2, r3, r4, r5, r6⟩
  · exact Or.inl ⟨hQ _ _ _ _ hpre hq, L, hF, fun q hq => hf _ (hL q hq)⟩
  · exact Or.inr ⟨q, ho, E, ce, L, hX _ _ _ _ hpre hx, r1, r2, r3, r4, r5, fun z hz => hf _ (r6 z hz)⟩
section
variable {l : Launch} {y : MethodName} {wsy : List Cond} {rm : Room} {D : va_G} {cI cZ cO cL : ClassId} {dt : Nat} {A : Nat → Prop} {av : List Value} {W : va_W} {mc ms : Nat} {PE : String → Prop}
theorem vx_pure {post : Int32 → Prop} (h : vx_Met l y wsy rm (gP D cI cZ cO cL dt A av (fun H => va_P D vwCl W H)) (vp_Si post) (xU PE) mc ms (fun _ => False)) :
    vx_Met l y wsy rm (gP D cI cZ cO cL dt A av (fun H => va_P D vwCl W H ∧ va_D A W)) (va_Qi (fun r (_ : Unit) => post r) (fun _ t => va_P D vwCl W t.heap ∧ va_D A W) A) (vx_X (fun _ : Unit => True) (fun E _ t => PE E ∧ va_P D vwCl W t.heap ∧ va_D A W) A) mc ms A := by
  refine vx_mono h (fun a s hp => ⟨hp.1, hp.2.1, hp.2.2.1⟩) (fun a s o t hp hq => ?_) (fun a s E t hp hx => ?_) (fun _ hq => hq.elim)
  · obtain ⟨r, ho, hr, hh⟩ := hq
    exact ⟨⟨r, (), ho, hr, by rw [hh]; exact hp.2.2.1, hp.2.2.2⟩, by rw [hh]; exact Nat.le_refl _, fun q _ _ => by rw [hh]⟩
  · obtain ⟨hE, hz, hk⟩ := hx
    exact ⟨(), trivial, ⟨hE, hp.2.2.1.kept (fun k q hq => hk _ (hp.2.2.1 k q hq).lt), hp.2.2.2⟩, hz, fun q hq _ => hk q hq⟩
theorem vx_mut {S : Type} {post : Int32 → S → Prop} {B : S → State → Prop} (h : vx_Met l y wsy rm (gP D cI cZ cO cL dt A av (fun H => va_P D vwCl W H ∧ va_D A W)) (va_Qi post B A) (xU PE) mc ms A) :
    vx_Met l y wsy rm (gP D cI cZ cO cL dt A av (fun H => va_P D vwCl W H ∧ va_D A W)) (va_Qi post B A) (vx_X (fun _ : Unit => True) (fun E _ t => PE E ∧ va_P D vwCl W t.heap ∧ va_D A W) A) mc ms A := by
  refine vx_mono h (fun _ _ hp => hp) (fun _ _ _ _ _ hq => hq) (fun a s E t hp hx => ?_) (fun _ hq => hq)
  obtain ⟨hE, hz, hk⟩ := hx
  exact ⟨(), trivial, ⟨hE, hp.2.2.1.kept (fun k q hq => hk _ (hp.2.2.1 k q hq).lt), hp.2.2.2⟩, hz, fun q hq _ => hk q hq⟩
theorem vx_same {Pc : Array Value → State → Prop} {Qc : Array Value → State → Outcome → State → Prop} {XC : String → State → State → Prop} {free : Addr → Prop} (h : vx_Met l y wsy rm Pc Qc XC mc ms free) : vx_Met l y wsy rm Pc Qc XC mc ms free := h
end
theorem e_z0 : (0 : Int32).toNatClampNeg = 0 := by decide
theorem e_u0 {f : Nat → Int64} {v : Int64} : vp_updL f 0 v 0 = v := by simp [vp_updL]
theorem e_in0 : vp_in 0 1 := vp_in_nI (n := 0) (N := 1) (by decide) (by decide)
set_option maxHeartbeats 4000000 in
set_option maxRecDepth 100000 in
/-- addConcept, of the law -/
theorem kL_addConcept (l : Launch) (D : va_G) (cI cZ cO cL : ClassId) (dt : Nat) (A : Nat → Prop) (a FA : Nat → Nat) (nC nR nL nF : Nat) (par wt stk flw : Nat → Int32) (hd : Nat → Option Nat) (rea sig : Nat → Int32) (ck cf cd : Nat → Nat) (cv : Nat → Int32) (nx : Nat → Option Nat) (R : va_W) (ob : Nat) (ov : Nat → Int64) (hlt : l.stackTraces = false) (hC12 : nC ≤ 12) (hL8 : nL < 8) : Met l yL_addConcept wsL_addConcept ({ frames := 7, cells := 1, slots := 6, locals := 111 } : Room) (gP D cI cZ cO cL dt A [.ref (a 0), .ref ob] (fun H => va_P D vwCl (WD cI cO a FA nC nR nL nF par wt stk flw hd rea sig ++ (WF FA ck cf cd cv nx nF ++ ((ob, .inl (cL, 1, .inr (.inl ov))) :: R))) H ∧ va_D A (WD cI cO a FA nC nR nL nF par wt stk flw hd rea sig ++ (WF FA ck cf cd cv nx nF ++ ((ob, .inl (cL, 1, .inr (.inl ov))) :: R))))) (va_Qi (fun (k : Int32) (u : (Nat → Int64) × Option (Unit)) => (k = 0 ∧ ∃ (r : Int32) (x : Unit), u.2 = some x ∧ u.1 0 = r.toInt64 ∧ (fun (r : Int32) (u : Unit) => nC < 12 ∧ r = nI nC) r x) ∨ (u.2 = none ∧ ((k = 1 ∧ ¬ nC < 12)))) (fun u t => match u.2 with | none => va_P D vwCl (WD cI cO a FA nC nR nL nF par wt stk flw hd rea sig ++ (WF FA ck cf cd cv nx nF ++ ((ob, .inl (cL, 1, .inr (.inl u.1))) :: R))) t.heap ∧ va_D A (WD cI cO a FA nC nR nL nF par wt stk flw hd rea sig ++ (WF FA ck cf cd cv nx nF ++ ((ob, .inl (cL, 1, .inr (.inl u.1))) :: R))) | some x => va_P D vwCl (WD cI cO a FA (nC + 1) nR nL nF (upd par nC (-1)) wt stk flw hd rea sig ++ (WF FA ck cf cd cv nx nF ++ ((ob, .inl (cL, 1, .inr (.inl (u.1)))) :: R))) t.heap ∧ va_D A (WD cI cO a FA (nC + 1) nR nL nF (upd par nC (-1)) wt stk flw hd rea sig ++ (WF FA ck cf cd cv nx nF ++ ((ob, .inl (cL, 1, .inr (.inl (u.1)))) :: R)))) A) 1 6 A := by
  refine va_MetW (cc := cL_addConcept) (maxL := 3) (ret := some .int) (hh := [(0, 8, 11, 13)]) (by decide) rfl ?_
  intro p9 e9 s m9 args below meth c9 s₁ B hml hv
  obtain ⟨rfl, hg, hP, hD⟩ := hv
  have hx := B.exec
  have hb := B.bytes
  have hr := B.returns
  have hts := atoms_spec (ws := wsL_addConcept) B.pre
  have htab : c9.exceptionTable.toList = tableOf [(0, 8, 11, 13)] := vx_table (x := yL_addConcept) B (hts _ List.mem_cons_self)
  have hown : s.vm.findClass RL = some m9.cls := findClass_of_methodNamed B.named
  have hlocks := B.notSynchronized
  have hK := hg.1
  have hS : va_S A s.heap s.heap [] := va_S.rf
  have w_0 := hts (.classLink RL 13 "java/lang/IllegalStateException") (by decide +kernel)
  have hl := lv_entry ([.ref (a 0), .ref ob]) (n := 3) (Nat.le_of_ble_eq_true rfl)
  rw [lg_entry_eq]
  generalize (lg_sl ([.ref (a 0), .ref ob]) ++ List.replicate (3 - (lg_sl ([.ref (a 0), .ref ob])).length) Slot.unset).toArray = ls at hl ⊢
  have hl : lv_has ls 3 [(0, .ref (a 0)), (1, .ref ob)] := hl
  refine lv_aload_n hx hb dL_addConcept_0 rfl (lv_at hl 1 rfl) ?_
  refine lv_iconst (v := 0) hx hb dL_addConcept_1 (by decide) ?_
  refine lv_aload_n hx hb dL_addConcept_2 rfl (lv_at hl 0 rfl) ?_
  refine vx_calli (vx_runV (As := []) (rest := [.int 0, .ref ob]) ⟨hx, hb, hml, hown, hts⟩ (vx_mut (c4_addConcept l D cI cZ cO cL dt A a FA nC nR nL nF par wt stk flw hd rea sig ck cf cd cv nx ((ob, .inl (cL, 1, .inr (.inl ov))) :: R) hlt hC12 hL8)) (cwV 0 hts gL_addConcept_X4_addConcept rfl rfl rfl (by decide +kernel) ⟨(Nat.le_of_ble_eq_true rfl), (Nat.le_of_ble_eq_true rfl)⟩) (gP.v hg hP 3 rfl 0 rfl ⟨hP, hD⟩) rfl rfl hl.1 rfl (lv_room (Nat.le_of_ble_eq_true rfl)) dL_addConcept_3 ⟨(Nat.le_of_ble_eq_true rfl), (Nat.le_of_ble_eq_true rfl)⟩) hS (fun q _ h => h) (fun q h => h) (fun q _ h => h) (fun E9 ce9 q9 u9 t9 H9 locs9 ht9 hvm9 _ hB9 hz9 hk9 hS9 hc9 hv9 hf9 => ?_) (fun r x t H locs ht hvm hw hB hz hk hS => ?_)
  · skip
    obtain ⟨hE9, hP9, hD9⟩ := hB9
    rw [ht9] at hP9
    refine vx_widen (k := 1) (n := 6) (Nat.le_of_ble_eq_true rfl) (Nat.le_of_ble_eq_true rfl) ?_
    rcases hE9 with ⟨rfl, hR9⟩
    · skip
      refine vx_catch (name := "java/lang/IllegalStateException") (E := "java/lang/IllegalStateException") hown [] (⟨0, 8, 11, 13⟩ : ExceptionTableEntry) [] (htab.trans rfl) (fun z hz => absurd hz List.not_mem_nil) (by decide) (by decide) w_0 (gCast hg.2.1.2.2.2.2.2.2.1) hc9 hv9 hf9 ?_
      refine lv_astore_n (lv' := [(2, .ref q9), (0, .ref (a 0)), (1, .ref ob)]) hx hb dL_addConcept_11 rfl hl (by decide) rfl (fun ls hl => ?_)
      refine lv_iconst (v := 1) hx hb dL_addConcept_12 (by decide) ?_
      exact W.iret (v := 1) hx hb hr (fun t ht hW => ⟨⟨1, (ov, none), rfl, Or.inr ⟨rfl, ⟨rfl, hR9⟩⟩, g_PD ht hP9 hD9⟩, hS9.F ht⟩) hS9.2.2 dL_addConcept_13
  rw [ht] at hB
  obtain ⟨hP, hD⟩ := hB
  refine W.widen (k := 1) (n := 6) (Nat.le_of_ble_eq_true rfl) (Nat.le_of_ble_eq_true rfl) ?_
  refine lv_i2l (v := (r).toInt64) hx hb dL_addConcept_6 rfl ?_
  refine va_last hx hb hK hP hD hS (11 + nF) 3 (WDR_at) rfl e_in0 dL_addConcept_7 (fun H locs hP hD hS => ?_)
  rw [WDR_set, e_z0] at hP hD
  refine lv_goto (tgt := 14) hx hb dL_addConcept_8 (by decide) ?_
  refine lv_iconst (v := 0) hx hb dL_addConcept_14 (by decide) ?_
  exact W.iret (v := 0) hx hb hr (fun t ht hW => ⟨⟨0, ((vp_updL ov 0 ((r).toInt64)), some x), rfl, Or.inl ⟨rfl, r, x, rfl, (e_u0 (f := ov) (v := (r).toInt64)), hw⟩, g_PD ht hP hD⟩, hS.F ht⟩) hS.2.2 dL_addConcept_15
set_option maxHeartbeats 4000000 in
set_option maxRecDepth 100000 in
/-- hang, of the law -/
theorem kL_hang (l : Launch) (D : va_G) (cI cZ cO cL : ClassId) (dt : Nat) (A : Nat → Prop) (a FA : Nat → Nat) (nC nR nL nF : Nat) (par wt stk flw : Nat → Int32) (hd : Nat → Option Nat) (rea sig : Nat → Int32) (ck cf cd : Nat → Nat) (cv : Nat → Int32) (nx : Nat → Option Nat) (R : va_W) (ob : Nat) (ov : Nat → Int64) (L : List Nat) (ci pi ui : Int32) (hlt : l.stackTraces = false) (hC12 : nC ≤ 12) (hL8 : nL < 8) (hT : tree nC par L) : Met l yL_hang wsL_hang ({ frames := 8, cells := 3, slots := 18, locals := 135 } : Room) (gP D cI cZ cO cL dt A [.ref (a 0), .int ci, .int pi, .int ui, .ref ob] (fun H => va_P D vwCl (WD cI cO a FA nC nR nL nF par wt stk flw hd rea sig ++ (WF FA ck cf cd cv nx nF ++ ((ob, .inl (cL, 1, .inr (.inl ov))) :: R))) H ∧ va_D A (WD cI cO a FA nC nR nL nF par wt stk flw hd rea sig ++ (WF FA ck cf cd cv nx nF ++ ((ob, .inl (cL, 1, .inr (.inl ov))) :: R))))) (va_Qi (fun (k : Int32) (u : (Nat → Int64) × Option (Nat × Nat)) => (k = 0 ∧ ∃ (r : Int32) (x : Nat × Nat), u.2 = some x ∧ u.1 0 = r.toInt64 ∧ (fun (r : Int32) (u : Nat × Nat) => (ci = nI u.1 ∧ u.1 < nC) ∧ (pi = nI u.2 ∧ u.2 < nC) ∧ anc par (nI u.1) L (nI u.2) = false ∧ r = par u.1) r x) ∨ (u.2 = none ∧ ((k = 1 ∧ ¬ (cOk nC ci ∧ cOk nC pi)) ∨ (k = 2 ∧ ∃ c p : Nat, (ci = nI c ∧ c < nC) ∧ (pi = nI p ∧ p < nC) ∧ anc par (nI c) L (nI p) = true)))) (fun u t => match u.2 with | none => va_P D vwCl (WD cI cO a FA nC nR nL nF par wt stk flw hd rea sig ++ (WF FA ck cf cd cv nx nF ++ ((ob, .inl (cL, 1, .inr (.inl u.1))) :: R))) t.heap ∧ va_D A (WD cI cO a FA nC nR nL nF par wt stk flw hd rea sig ++ (WF FA ck cf cd cv nx nF ++ ((ob, .inl (cL, 1, .inr (.inl u.1))) :: R))) | some x => va_P D vwCl (WD cI cO a FA nC nR nL nF (upd par x.1 (nI x.2)) (upd wt x.1 (if ui = 0 then -1 else 1)) stk flw hd rea sig ++ (WF FA ck cf cd cv nx nF ++ ((ob, .inl (cL, 1, .inr (.inl (u.1)))) :: R))) t.heap ∧ va_D A (WD cI cO a FA nC nR nL nF (upd par x.1 (nI x.2)) (upd wt x.1 (if ui = 0 then -1 else 1)) stk flw hd rea sig ++ (WF FA ck cf cd cv nx nF ++ ((ob, .inl (cL, 1, .inr (.inl (u.1)))) :: R)))) A) 3 18 A := by
  refine va_MetW (cc := cL_hang) (maxL := 6) (ret := some .int) (hh := [(0, 12, 15, 19), (0, 12, 19, 21)]) (by decide) rfl ?_
  intro p9 e9 s m9 args below meth c9 s₁ B hml hv
  obtain ⟨rfl, hg, hP, hD⟩ := hv
  have hx := B.exec
  have hb := B.bytes
  have hr := B.returns
  have hts := atoms_spec (ws := wsL_hang) B.pre
  have htab : c9.exceptionTable.toList = tableOf [(0, 12, 15, 19), (0, 12, 19, 21)] := vx_table (x := yL_hang) B (hts _ List.mem_cons_self)
  have hown : s.vm.findClass RL = some m9.cls := findClass_of_methodNamed B.named
  have hlocks := B.notSynchronized
  have hK := hg.1
  have hS : va_S A s.heap s.heap [] := va_S.rf
  have w_0 := hts (.classLink RL 19 "java/lang/IndexOutOfBoundsException") (by decide +kernel)
  have w_1 := hts (.classLink RL 21 "java/lang/IllegalArgumentException") (by decide +kernel)
  have hl := lv_entry ([.ref (a 0), .int ci, .int pi, .int ui, .ref ob]) (n := 6) (Nat.le_of_ble_eq_true rfl)
  rw [lg_entry_eq]
  generalize (lg_sl ([.ref (a 0), .int ci, .int pi, .int ui, .ref ob]) ++ List.replicate (6 - (lg_sl ([.ref (a 0), .int ci, .int pi, .int ui, .ref ob])).length) Slot.unset).toArray = ls at hl ⊢
  have hl : lv_has ls 6 [(0, .ref (a 0)), (1, .int ci), (2, .int pi), (3, .int ui), (4, .ref ob)] := hl
  refine lv_aload hx hb dL_hang_0 (lv_at hl 4 rfl) ?_
  refine lv_iconst (v := 0) hx hb dL_hang_2 (by decide) ?_
  refine lv_aload_n hx hb dL_hang_3 rfl (lv_at hl 0 rfl) ?_
  refine lv_iload_n hx hb dL_hang_4 rfl (lv_at hl 1 rfl) ?_
  refine lv_iload_n hx hb dL_hang_5 rfl (lv_at hl 2 rfl) ?_
  refine lv_iload_n hx hb dL_hang_6 rfl (lv_at hl 3 rfl) ?_
  refine vx_calli (vx_runV (As := [.int ci, .int pi, .int ui]) (rest := [.int 0, .ref ob]) ⟨hx, hb, hml, hown, hts⟩ (vx_mut (c4_hang l D cI cZ cO cL dt A a FA nC nR nL nF par wt stk flw hd rea sig ck cf cd cv nx ((ob, .inl (cL, 1, .inr (.inl ov))) :: R) L ci pi ui hlt hC12 hL8 hT)) (cwV 3 hts gL_hang_X4_hang rfl rfl rfl (by decide +kernel) ⟨(Nat.le_of_ble_eq_true rfl), (Nat.le_of_ble_eq_true rfl)⟩) (gP.v hg hP 3 rfl 0 rfl ⟨hP, hD⟩) rfl rfl hl.1 rfl (lv_room (Nat.le_of_ble_eq_true rfl)) dL_hang_7 ⟨(Nat.le_of_ble_eq_true rfl), (Nat.le_of_ble_eq_true rfl)⟩) hS (fun q _ h => h) (fun q h => h) (fun q _ h => h) (fun E9 ce9 q9 u9 t9 H9 locs9 ht9 hvm9 _ hB9 hz9 hk9 hS9 hc9 hv9 hf9 => ?_) (fun r x t H locs ht hvm hw hB hz hk hS => ?_)
  · skip
    obtain ⟨hE9, hP9, hD9⟩ := hB9
    rw [ht9] at hP9
    refine vx_widen (k := 3) (n := 18) (Nat.le_of_ble_eq_true rfl) (Nat.le_of_ble_eq_true rfl) ?_
    rcases hE9 with ⟨rfl, hR9⟩ | ⟨rfl, hR9⟩
    · skip
      refine vx_catch (name := "java/lang/IndexOutOfBoundsException") (E := "java/lang/IndexOutOfBoundsException") hown [] (⟨0, 12, 15, 19⟩ : ExceptionTableEntry) [(⟨0, 12, 19, 21⟩ : ExceptionTableEntry)] (htab.trans rfl) (fun z hz => absurd hz List.not_mem_nil) (by decide) (by decide) w_0 (gCast hg.2.1.2.2.2.2.2.2.2.2.1) hc9 hv9 hf9 ?_
      refine lv_astore (lv' := [(5, .ref q9), (0, .ref (a 0)), (1, .int ci), (2, .int pi), (3, .int ui), (4, .ref ob)]) hx hb dL_hang_15 hl (by decide) rfl (fun ls hl => ?_)
      refine lv_iconst (v := 1) hx hb dL_hang_17 (by decide) ?_
      exact W.iret (v := 1) hx hb hr (fun t ht hW => ⟨⟨1, (ov, none), rfl, Or.inr ⟨rfl, Or.inl ⟨rfl, hR9⟩⟩, g_PD ht hP9 hD9⟩, hS9.F ht⟩) hS9.2.2 dL_hang_18
    · skip
      refine vx_catch (name := "java/lang/IllegalArgumentException") (E := "java/lang/IllegalArgumentException") hown [(⟨0, 12, 15, 19⟩ : ExceptionTableEntry)] (⟨0, 12, 19, 21⟩ : ExceptionTableEntry) [] (htab.trans rfl) (fun z hz => by rw [List.mem_singleton.mp hz]; exact Or.inr ⟨by decide, "java/lang/IndexOutOfBoundsException", w_0, hg.2.1.2.2.2.2.2.2.2.2.2.2.1⟩) (by decide) (by decide) w_1 (gCast hg.2.1.2.2.2.2.2.2.2.1) hc9 hv9 hf9 ?_
      refine lv_astore (lv' := [(5, .ref q9), (0, .ref (a 0)), (1, .int ci), (2, .int pi), (3, .int ui), (4, .ref ob)]) hx hb dL_hang_19 hl (by decide) rfl (fun ls hl => ?_)
      refine lv_iconst (v := 2) hx hb dL_hang_21 (by decide) ?_
      exact W.iret (v := 2) hx hb hr (fun t ht hW => ⟨⟨2, (ov, none), rfl, Or.inr ⟨rfl, Or.inr (⟨rfl, hR9⟩)⟩, g_PD ht hP9 hD9⟩, hS9.F ht⟩) hS9.2.2 dL_hang_22
  rw [ht] at hB
  obtain ⟨hP, hD⟩ := hB
  refine W.widen (k := 3) (n := 18) (Nat.le_of_ble_eq_true rfl) (Nat.le_of_ble_eq_true rfl) ?_
  refine lv_i2l (v := (r).toInt64) hx hb dL_hang_10 rfl ?_
  refine va_last hx hb hK hP hD hS (11 + nF) 3 (WDR_at) rfl e_in0 dL_hang_11 (fun H locs hP hD hS => ?_)
  rw [WDR_set, e_z0] at hP hD
  refine lv_goto (tgt := 23) hx hb dL_hang_12 (by decide) ?_
  refine lv_iconst (v := 0) hx hb dL_hang_23 (by decide) ?_
  exact W.iret (v := 0) hx hb hr (fun t ht hW => ⟨⟨0, ((vp_updL ov 0 ((r).toInt64)), some x), rfl, Or.inl ⟨rfl, r, x, rfl, (e_u0 (f := ov) (v := (r).toInt64)), hw⟩, g_PD ht hP hD⟩, hS.F ht⟩) hS.2.2 dL_hang_24
set_option maxHeartbeats 4000000 in
set_option maxRecDepth 100000 in
/-- unhang, of the law -/
theorem kL_unhang (l : Launch) (D : va_G) (cI cZ cO cL : ClassId) (dt : Nat) (A : Nat → Prop) (a FA : Nat → Nat) (nC nR nL nF : Nat) (par wt stk flw : Nat → Int32) (hd : Nat → Option Nat) (rea sig : Nat → Int32) (ck cf cd : Nat → Nat) (cv : Nat → Int32) (nx : Nat → Option Nat) (R : va_W) (ob : Nat) (ov : Nat → Int64) (ci : Int32) (hlt : l.stackTraces = false) (hC12 : nC ≤ 12) (hL8 : nL < 8) : Met l yL_unhang wsL_unhang ({ frames := 8, cells := 1, slots := 6, locals := 133 } : Room) (gP D cI cZ cO cL dt A [.ref (a 0), .int ci, .ref ob] (fun H => va_P D vwCl (WD cI cO a FA nC nR nL nF par wt stk flw hd rea sig ++ (WF FA ck cf cd cv nx nF ++ ((ob, .inl (cL, 1, .inr (.inl ov))) :: R))) H ∧ va_D A (WD cI cO a FA nC nR nL nF par wt stk flw hd rea sig ++ (WF FA ck cf cd cv nx nF ++ ((ob, .inl (cL, 1, .inr (.inl ov))) :: R))))) (va_Qi (fun (k : Int32) (u : (Nat → Int64) × Option (Nat)) => (k = 0 ∧ ∃ (r : Int32) (x : Nat), u.2 = some x ∧ u.1 0 = r.toInt64 ∧ (fun (r : Int32) (u : Nat) => (ci = nI u ∧ u < nC) ∧ r = par u) r x) ∨ (u.2 = none ∧ ((k = 1 ∧ ¬ cOk nC ci)))) (fun u t => match u.2 with | none => va_P D vwCl (WD cI cO a FA nC nR nL nF par wt stk flw hd rea sig ++ (WF FA ck cf cd cv nx nF ++ ((ob, .inl (cL, 1, .inr (.inl u.1))) :: R))) t.heap ∧ va_D A (WD cI cO a FA nC nR nL nF par wt stk flw hd rea sig ++ (WF FA ck cf cd cv nx nF ++ ((ob, .inl (cL, 1, .inr (.inl u.1))) :: R))) | some x => va_P D vwCl (WD cI cO a FA nC nR nL nF (upd par x (-1)) wt stk flw hd rea sig ++ (WF FA ck cf cd cv nx nF ++ ((ob, .inl (cL, 1, .inr (.inl (u.1)))) :: R))) t.heap ∧ va_D A (WD cI cO a FA nC nR nL nF (upd par x (-1)) wt stk flw hd rea sig ++ (WF FA ck cf cd cv nx nF ++ ((ob, .inl (cL, 1, .inr (.inl (u.1)))) :: R)))) A) 1 6 A := by
  refine va_MetW (cc := cL_unhang) (maxL := 4) (ret := some .int) (hh := [(0, 9, 12, 19)]) (by decide) rfl ?_
  intro p9 e9 s m9 args below meth c9 s₁ B hml hv
  obtain ⟨rfl, hg, hP, hD⟩ := hv
  have hx := B.exec
  have hb := B.bytes
  have hr := B.returns
  have hts := atoms_spec (ws := wsL_unhang) B.pre
  have htab : c9.exceptionTable.toList = tableOf [(0, 9, 12, 19)] := vx_table (x := yL_unhang) B (hts _ List.mem_cons_self)
  have hown : s.vm.findClass RL = some m9.cls := findClass_of_methodNamed B.named
  have hlocks := B.notSynchronized
  have hK := hg.1
  have hS : va_S A s.heap s.heap [] := va_S.rf
  have w_0 := hts (.classLink RL 19 "java/lang/IndexOutOfBoundsException") (by decide +kernel)
  have hl := lv_entry ([.ref (a 0), .int ci, .ref ob]) (n := 4) (Nat.le_of_ble_eq_true rfl)
  rw [lg_entry_eq]
  generalize (lg_sl ([.ref (a 0), .int ci, .ref ob]) ++ List.replicate (4 - (lg_sl ([.ref (a 0), .int ci, .ref ob])).length) Slot.unset).toArray = ls at hl ⊢
  have hl : lv_has ls 4 [(0, .ref (a 0)), (1, .int ci), (2, .ref ob)] := hl
  refine lv_aload_n hx hb dL_unhang_0 rfl (lv_at hl 2 rfl) ?_
  refine lv_iconst (v := 0) hx hb dL_unhang_1 (by decide) ?_
  refine lv_aload_n hx hb dL_unhang_2 rfl (lv_at hl 0 rfl) ?_
  refine lv_iload_n hx hb dL_unhang_3 rfl (lv_at hl 1 rfl) ?_
  refine vx_calli (vx_runV (As := [.int ci]) (rest := [.int 0, .ref ob]) ⟨hx, hb, hml, hown, hts⟩ (vx_mut (c4_unhang l D cI cZ cO cL dt A a FA nC nR nL nF par wt stk flw hd rea sig ck cf cd cv nx ((ob, .inl (cL, 1, .inr (.inl ov))) :: R) ci hlt hC12 hL8)) (cwV 1 hts gL_unhang_X4_unhang rfl rfl rfl (by decide +kernel) ⟨(Nat.le_of_ble_eq_true rfl), (Nat.le_of_ble_eq_true rfl)⟩) (gP.v hg hP 3 rfl 0 rfl ⟨hP, hD⟩) rfl rfl hl.1 rfl (lv_room (Nat.le_of_ble_eq_true rfl)) dL_unhang_4 ⟨(Nat.le_of_ble_eq_true rfl), (Nat.le_of_ble_eq_true rfl)⟩) hS (fun q _ h => h) (fun q h => h) (fun q _ h => h) (fun E9 ce9 q9 u9 t9 H9 locs9 ht9 hvm9 _ hB9 hz9 hk9 hS9 hc9 hv9 hf9 => ?_) (fun r x t H locs ht hvm hw hB hz hk hS => ?_)
  · skip
    obtain ⟨hE9, hP9, hD9⟩ := hB9
    rw [ht9] at hP9
    refine vx_widen (k := 1) (n := 6) (Nat.le_of_ble_eq_true rfl) (Nat.le_of_ble_eq_true rfl) ?_
    rcases hE9 with ⟨rfl, hR9⟩
    · skip
      refine vx_catch (name := "java/lang/IndexOutOfBoundsException") (E := "java/lang/IndexOutOfBoundsException") hown [] (⟨0, 9, 12, 19⟩ : ExceptionTableEntry) [] (htab.trans rfl) (fun z hz => absurd hz List.not_mem_nil) (by decide) (by decide) w_0 (gCast hg.2.1.2.2.2.2.2.2.2.2.1) hc9 hv9 hf9 ?_
      refine lv_astore_n (lv' := [(3, .ref q9), (0, .ref (a 0)), (1, .int ci), (2, .ref ob)]) hx hb dL_unhang_12 rfl hl (by decide) rfl (fun ls hl => ?_)
      refine lv_iconst (v := 1) hx hb dL_unhang_13 (by decide) ?_
      exact W.iret (v := 1) hx hb hr (fun t ht hW => ⟨⟨1, (ov, none), rfl, Or.inr ⟨rfl, ⟨rfl, hR9⟩⟩, g_PD ht hP9 hD9⟩, hS9.F ht⟩) hS9.2.2 dL_unhang_14
  rw [ht] at hB
  obtain ⟨hP, hD⟩ := hB
  refine W.widen (k := 1) (n := 6) (Nat.le_of_ble_eq_true rfl) (Nat.le_of_ble_eq_true rfl) ?_
  refine lv_i2l (v := (r).toInt64) hx hb dL_unhang_7 rfl ?_
  refine va_last hx hb hK hP hD hS (11 + nF) 3 (WDR_at) rfl e_in0 dL_unhang_8 (fun H locs hP hD hS => ?_)
  rw [WDR_set, e_z0] at hP hD
  refine lv_goto (tgt := 15) hx hb dL_unhang_9 (by decide) ?_
  refine lv_iconst (v := 0) hx hb dL_unhang_15 (by decide) ?_
  exact W.iret (v := 0) hx hb hr (fun t ht hW => ⟨⟨0, ((vp_updL ov 0 ((r).toInt64)), some x), rfl, Or.inl ⟨rfl, r, x, rfl, (e_u0 (f := ov) (v := (r).toInt64)), hw⟩, g_PD ht hP hD⟩, hS.F ht⟩) hS.2.2 dL_unhang_16
set_option maxHeartbeats 4000000 in
set_option maxRecDepth 100000 in
/-- addRoll, of the law -/
theorem kL_addRoll (l : Launch) (D : va_G) (cI cZ cO cL : ClassId) (dt : Nat) (A : Nat → Prop) (a FA : Nat → Nat) (nC nR nL nF : Nat) (par wt stk flw : Nat → Int32) (hd : Nat → Option Nat) (rea sig : Nat → Int32) (ck cf cd : Nat → Nat) (cv : Nat → Int32) (nx : Nat → Option Nat) (R : va_W) (ob : Nat) (ov : Nat → Int64) (si fi : Int32) (hlt : l.stackTraces = false) (hC12 : nC ≤ 12) (hL8 : nL < 8) (hR : nR ≤ 5) : Met l yL_addRoll wsL_addRoll ({ frames := 8, cells := 3, slots := 18, locals := 134 } : Room) (gP D cI cZ cO cL dt A [.ref (a 0), .int si, .int fi, .ref ob] (fun H => va_P D vwCl (WD cI cO a FA nC nR nL nF par wt stk flw hd rea sig ++ (WF FA ck cf cd cv nx nF ++ ((ob, .inl (cL, 1, .inr (.inl ov))) :: R))) H ∧ va_D A (WD cI cO a FA nC nR nL nF par wt stk flw hd rea sig ++ (WF FA ck cf cd cv nx nF ++ ((ob, .inl (cL, 1, .inr (.inl ov))) :: R))))) (va_Qi (fun (k : Int32) (u : (Nat → Int64) × Option (Nat × Nat)) => (k = 0 ∧ ∃ (r : Int32) (x : Nat × Nat), u.2 = some x ∧ u.1 0 = r.toInt64 ∧ (fun (r : Int32) (u : Nat × Nat) => (si = nI u.1 ∧ u.1 < nC) ∧ (fi = nI u.2 ∧ u.2 < nC) ∧ ¬ si = fi ∧ nR < 5 ∧ r = nI nR) r x) ∨ (u.2 = none ∧ ((k = 1 ∧ ¬ (cOk nC si ∧ cOk nC fi)) ∨ (k = 2 ∧ (cOk nC si ∧ cOk nC fi) ∧ si = fi) ∨ (k = 3 ∧ (cOk nC si ∧ cOk nC fi) ∧ ¬ si = fi ∧ ¬ nR < 5)))) (fun u t => match u.2 with | none => va_P D vwCl (WD cI cO a FA nC nR nL nF par wt stk flw hd rea sig ++ (WF FA ck cf cd cv nx nF ++ ((ob, .inl (cL, 1, .inr (.inl u.1))) :: R))) t.heap ∧ va_D A (WD cI cO a FA nC nR nL nF par wt stk flw hd rea sig ++ (WF FA ck cf cd cv nx nF ++ ((ob, .inl (cL, 1, .inr (.inl u.1))) :: R))) | some x => va_P D vwCl (WD cI cO a FA nC (nR + 1) nL nF par wt (upd stk nR (nI x.1)) (upd flw nR (nI x.2)) hd rea sig ++ (WF FA ck cf cd cv nx nF ++ ((ob, .inl (cL, 1, .inr (.inl (u.1)))) :: R))) t.heap ∧ va_D A (WD cI cO a FA nC (nR + 1) nL nF par wt (upd stk nR (nI x.1)) (upd flw nR (nI x.2)) hd rea sig ++ (WF FA ck cf cd cv nx nF ++ ((ob, .inl (cL, 1, .inr (.inl (u.1)))) :: R)))) A) 3 18 A := by
  refine va_MetW (cc := cL_addRoll) (maxL := 5) (ret := some .int) (hh := [(0, 10, 13, 19), (0, 10, 17, 21), (0, 10, 21, 13)]) (by decide) rfl ?_
  intro p9 e9 s m9 args below meth c9 s₁ B hml hv
  obtain ⟨rfl, hg, hP, hD⟩ := hv
  have hx := B.exec
  have hb := B.bytes
  have hr := B.returns
  have hts := atoms_spec (ws := wsL_addRoll) B.pre
  have htab : c9.exceptionTable.toList = tableOf [(0, 10, 13, 19), (0, 10, 17, 21), (0, 10, 21, 13)] := vx_table (x := yL_addRoll) B (hts _ List.mem_cons_self)
  have hown : s.vm.findClass RL = some m9.cls := findClass_of_methodNamed B.named
  have hlocks := B.notSynchronized
  have hK := hg.1
  have hS : va_S A s.heap s.heap [] := va_S.rf
  have w_0 := hts (.classLink RL 19 "java/lang/IndexOutOfBoundsException") (by decide +kernel)
  have w_1 := hts (.classLink RL 21 "java/lang/IllegalArgumentException") (by decide +kernel)
  have w_2 := hts (.classLink RL 13 "java/lang/IllegalStateException") (by decide +kernel)
  have hl := lv_entry ([.ref (a 0), .int si, .int fi, .ref ob]) (n := 5) (Nat.le_of_ble_eq_true rfl)
  rw [lg_entry_eq]
  generalize (lg_sl ([.ref (a 0), .int si, .int fi, .ref ob]) ++ List.replicate (5 - (lg_sl ([.ref (a 0), .int si, .int fi, .ref ob])).length) Slot.unset).toArray = ls at hl ⊢
  have hl : lv_has ls 5 [(0, .ref (a 0)), (1, .int si), (2, .int fi), (3, .ref ob)] := hl
  refine lv_aload_n hx hb dL_addRoll_0 rfl (lv_at hl 3 rfl) ?_
  refine lv_iconst (v := 0) hx hb dL_addRoll_1 (by decide) ?_
  refine lv_aload_n hx hb dL_addRoll_2 rfl (lv_at hl 0 rfl) ?_
  refine lv_iload_n hx hb dL_addRoll_3 rfl (lv_at hl 1 rfl) ?_
  refine lv_iload_n hx hb dL_addRoll_4 rfl (lv_at hl 2 rfl) ?_
  refine vx_calli (vx_runV (As := [.int si, .int fi]) (rest := [.int 0, .ref ob]) ⟨hx, hb, hml, hown, hts⟩ (vx_mut (c4_addRoll l D cI cZ cO cL dt A a FA nC nR nL nF par wt stk flw hd rea sig ck cf cd cv nx ((ob, .inl (cL, 1, .inr (.inl ov))) :: R) si fi hlt hC12 hL8 hR)) (cwV 2 hts gL_addRoll_X4_addRoll rfl rfl rfl (by decide +kernel) ⟨(Nat.le_of_ble_eq_true rfl), (Nat.le_of_ble_eq_true rfl)⟩) (gP.v hg hP 3 rfl 0 rfl ⟨hP, hD⟩) rfl rfl hl.1 rfl (lv_room (Nat.le_of_ble_eq_true rfl)) dL_addRoll_5 ⟨(Nat.le_of_ble_eq_true rfl), (Nat.le_of_ble_eq_true rfl)⟩) hS (fun q _ h => h) (fun q h => h) (fun q _ h => h) (fun E9 ce9 q9 u9 t9 H9 locs9 ht9 hvm9 _ hB9 hz9 hk9 hS9 hc9 hv9 hf9 => ?_) (fun r x t H locs ht hvm hw hB hz hk hS => ?_)
  · skip
    obtain ⟨hE9, hP9, hD9⟩ := hB9
    rw [ht9] at hP9
    refine vx_widen (k := 3) (n := 18) (Nat.le_of_ble_eq_true rfl) (Nat.le_of_ble_eq_true rfl) ?_
    rcases hE9 with ⟨rfl, hR9⟩ | ⟨rfl, hR9⟩ | ⟨rfl, hR9⟩
    · skip
      refine vx_catch (name := "java/lang/IndexOutOfBoundsException") (E := "java/lang/IndexOutOfBoundsException") hown [] (⟨0, 10, 13, 19⟩ : ExceptionTableEntry) [(⟨0, 10, 17, 21⟩ : ExceptionTableEntry), (⟨0, 10, 21, 13⟩ : ExceptionTableEntry)] (htab.trans rfl) (fun z hz => absurd hz List.not_mem_nil) (by decide) (by decide) w_0 (gCast hg.2.1.2.2.2.2.2.2.2.2.1) hc9 hv9 hf9 ?_
      refine lv_astore (lv' := [(4, .ref q9), (0, .ref (a 0)), (1, .int si), (2, .int fi), (3, .ref ob)]) hx hb dL_addRoll_13 hl (by decide) rfl (fun ls hl => ?_)
      refine lv_iconst (v := 1) hx hb dL_addRoll_15 (by decide) ?_
      exact W.iret (v := 1) hx hb hr (fun t ht hW => ⟨⟨1, (ov, none), rfl, Or.inr ⟨rfl, Or.inl ⟨rfl, hR9⟩⟩, g_PD ht hP9 hD9⟩, hS9.F ht⟩) hS9.2.2 dL_addRoll_16
    · skip
      refine vx_catch (name := "java/lang/IllegalArgumentException") (E := "java/lang/IllegalArgumentException") hown [(⟨0, 10, 13, 19⟩ : ExceptionTableEntry)] (⟨0, 10, 17, 21⟩ : ExceptionTableEntry) [(⟨0, 10, 21, 13⟩ : ExceptionTableEntry)] (htab.trans rfl) (fun z hz => by rw [List.mem_singleton.mp hz]; exact Or.inr ⟨by decide, "java/lang/IndexOutOfBoundsException", w_0, hg.2.1.2.2.2.2.2.2.2.2.2.2.1⟩) (by decide) (by decide) w_1 (gCast hg.2.1.2.2.2.2.2.2.2.1) hc9 hv9 hf9 ?_
      refine lv_astore (lv' := [(4, .ref q9), (0, .ref (a 0)), (1, .int si), (2, .int fi), (3, .ref ob)]) hx hb dL_addRoll_17 hl (by decide) rfl (fun ls hl => ?_)
      refine lv_iconst (v := 2) hx hb dL_addRoll_19 (by decide) ?_
      exact W.iret (v := 2) hx hb hr (fun t ht hW => ⟨⟨2, (ov, none), rfl, Or.inr ⟨rfl, Or.inr (Or.inl ⟨rfl, hR9⟩)⟩, g_PD ht hP9 hD9⟩, hS9.F ht⟩) hS9.2.2 dL_addRoll_20
    · skip
      refine vx_catch (name := "java/lang/IllegalStateException") (E := "java/lang/IllegalStateException") hown [(⟨0, 10, 13, 19⟩ : ExceptionTableEntry), (⟨0, 10, 17, 21⟩ : ExceptionTableEntry)] (⟨0, 10, 21, 13⟩ : ExceptionTableEntry) [] (htab.trans rfl) (fun z hz => by rcases List.mem_cons.mp hz with rfl | hz; exact Or.inr ⟨by decide, "java/lang/IndexOutOfBoundsException", w_0, hg.2.1.2.2.2.2.2.2.2.2.2.2.2.1⟩; rw [List.mem_singleton.mp hz]; exact Or.inr ⟨by decide, "java/lang/IllegalArgumentException", w_1, hg.2.1.2.2.2.2.2.2.2.2.2.2.2.2.1⟩) (by decide) (by decide) w_2 (gCast hg.2.1.2.2.2.2.2.2.1) hc9 hv9 hf9 ?_
      refine lv_astore (lv' := [(4, .ref q9), (0, .ref (a 0)), (1, .int si), (2, .int fi), (3, .ref ob)]) hx hb dL_addRoll_21 hl (by decide) rfl (fun ls hl => ?_)
      refine lv_iconst (v := 3) hx hb dL_addRoll_23 (by decide) ?_
      exact W.iret (v := 3) hx hb hr (fun t ht hW => ⟨⟨3, (ov, none), rfl, Or.inr ⟨rfl, Or.inr (Or.inr (⟨rfl, hR9⟩))⟩, g_PD ht hP9 hD9⟩, hS9.F ht⟩) hS9.2.2 dL_addRoll_24
  rw [ht] at hB
  obtain ⟨hP, hD⟩ := hB
  refine W.widen (k := 3) (n := 18) (Nat.le_of_ble_eq_true rfl) (Nat.le_of_ble_eq_true rfl) ?_
  refine lv_i2l (v := (r).toInt64) hx hb dL_addRoll_8 rfl ?_
  refine va_last hx hb hK hP hD hS (11 + nF) 3 (WDR_at) rfl e_in0 dL_addRoll_9 (fun H locs hP hD hS => ?_)
  rw [WDR_set, e_z0] at hP hD
  refine lv_goto (tgt := 25) hx hb dL_addRoll_10 (by decide) ?_
  refine lv_iconst (v := 0) hx hb dL_addRoll_25 (by decide) ?_
  exact W.iret (v := 0) hx hb hr (fun t ht hW => ⟨⟨0, ((vp_updL ov 0 ((r).toInt64)), some x), rfl, Or.inl ⟨rfl, r, x, rfl, (e_u0 (f := ov) (v := (r).toInt64)), hw⟩, g_PD ht hP hD⟩, hS.F ht⟩) hS.2.2 dL_addRoll_26
set_option maxHeartbeats 4000000 in
set_option maxRecDepth 100000 in
/-- file, of the law -/
theorem kL_file (l : Launch) (D : va_G) (cI cZ cO cL : ClassId) (dt : Nat) (A : Nat → Prop) (a FA : Nat → Nat) (nC nR nL nF : Nat) (par wt stk flw : Nat → Int32) (hd : Nat → Option Nat) (rea sig : Nat → Int32) (ck cf cd : Nat → Nat) (cv : Nat → Int32) (nx : Nat → Option Nat) (R : va_W) (ob : Nat) (ov : Nat → Int64) (hlt : l.stackTraces = false) (hC12 : nC ≤ 12) (hL8 : nL < 8) : Met l yL_file wsL_file ({ frames := 7, cells := 1, slots := 6, locals := 110 } : Room) (gP D cI cZ cO cL dt A [.ref (a 0), .ref ob] (fun H => va_P D vwCl (WD cI cO a FA nC nR nL nF par wt stk flw hd rea sig ++ (WF FA ck cf cd cv nx nF ++ ((ob, .inl (cL, 1, .inr (.inl ov))) :: R))) H ∧ va_D A (WD cI cO a FA nC nR nL nF par wt stk flw hd rea sig ++ (WF FA ck cf cd cv nx nF ++ ((ob, .inl (cL, 1, .inr (.inl ov))) :: R))))) (va_Qi (fun (k : Int32) (u : (Nat → Int64) × Option (Unit)) => (k = 0 ∧ ∃ (r : Int32) (x : Unit), u.2 = some x ∧ u.1 0 = r.toInt64 ∧ (fun (r : Int32) (u : Unit) => nL < 7 ∧ r = nI (nL + 1)) r x) ∨ (u.2 = none ∧ ((k = 1 ∧ ¬ nL < 7)))) (fun u t => match u.2 with | none => va_P D vwCl (WD cI cO a FA nC nR nL nF par wt stk flw hd rea sig ++ (WF FA ck cf cd cv nx nF ++ ((ob, .inl (cL, 1, .inr (.inl u.1))) :: R))) t.heap ∧ va_D A (WD cI cO a FA nC nR nL nF par wt stk flw hd rea sig ++ (WF FA ck cf cd cv nx nF ++ ((ob, .inl (cL, 1, .inr (.inl u.1))) :: R))) | some x => va_P D vwCl (WD cI cO a FA nC nR (nL + 1) nF par wt stk flw hd rea sig ++ (WF FA ck cf cd cv nx nF ++ ((ob, .inl (cL, 1, .inr (.inl (u.1)))) :: R))) t.heap ∧ va_D A (WD cI cO a FA nC nR (nL + 1) nF par wt stk flw hd rea sig ++ (WF FA ck cf cd cv nx nF ++ ((ob, .inl (cL, 1, .inr (.inl (u.1)))) :: R)))) A) 1 6 A := by
  refine va_MetW (cc := cL_file) (maxL := 3) (ret := some .int) (hh := [(0, 8, 11, 13)]) (by decide) rfl ?_
  intro p9 e9 s m9 args below meth c9 s₁ B hml hv
  obtain ⟨rfl, hg, hP, hD⟩ := hv
  have hx := B.exec
  have hb := B.bytes
  have hr := B.returns
  have hts := atoms_spec (ws := wsL_file) B.pre
  have htab : c9.exceptionTable.toList = tableOf [(0, 8, 11, 13)] := vx_table (x := yL_file) B (hts _ List.mem_cons_self)
  have hown : s.vm.findClass RL = some m9.cls := findClass_of_methodNamed B.named
  have hlocks := B.notSynchronized
  have hK := hg.1
  have hS : va_S A s.heap s.heap [] := va_S.rf
  have w_0 := hts (.classLink RL 13 "java/lang/IllegalStateException") (by decide +kernel)
  have hl := lv_entry ([.ref (a 0), .ref ob]) (n := 3) (Nat.le_of_ble_eq_true rfl)
  rw [lg_entry_eq]
  generalize (lg_sl ([.ref (a 0), .ref ob]) ++ List.replicate (3 - (lg_sl ([.ref (a 0), .ref ob])).length) Slot.unset).toArray = ls at hl ⊢
  have hl : lv_has ls 3 [(0, .ref (a 0)), (1, .ref ob)] := hl
  refine lv_aload_n hx hb dL_file_0 rfl (lv_at hl 1 rfl) ?_
  refine lv_iconst (v := 0) hx hb dL_file_1 (by decide) ?_
  refine lv_aload_n hx hb dL_file_2 rfl (lv_at hl 0 rfl) ?_
  refine vx_calli (vx_runV (As := []) (rest := [.int 0, .ref ob]) ⟨hx, hb, hml, hown, hts⟩ (vx_mut (c4_file l D cI cZ cO cL dt A a FA nC nR nL nF par wt stk flw hd rea sig ck cf cd cv nx ((ob, .inl (cL, 1, .inr (.inl ov))) :: R) hlt hC12 hL8)) (cwV 0 hts gL_file_X4_file rfl rfl rfl (by decide +kernel) ⟨(Nat.le_of_ble_eq_true rfl), (Nat.le_of_ble_eq_true rfl)⟩) (gP.v hg hP 3 rfl 0 rfl ⟨hP, hD⟩) rfl rfl hl.1 rfl (lv_room (Nat.le_of_ble_eq_true rfl)) dL_file_3 ⟨(Nat.le_of_ble_eq_true rfl), (Nat.le_of_ble_eq_true rfl)⟩) hS (fun q _ h => h) (fun q h => h) (fun q _ h => h) (fun E9 ce9 q9 u9 t9 H9 locs9 ht9 hvm9 _ hB9 hz9 hk9 hS9 hc9 hv9 hf9 => ?_) (fun r x t H locs ht hvm hw hB hz hk hS => ?_)
  · skip
    obtain ⟨hE9, hP9, hD9⟩ := hB9
    rw [ht9] at hP9
    refine vx_widen (k := 1) (n := 6) (Nat.le_of_ble_eq_true rfl) (Nat.le_of_ble_eq_true rfl) ?_
    rcases hE9 with ⟨rfl, hR9⟩
    · skip
      refine vx_catch (name := "java/lang/IllegalStateException") (E := "java/lang/IllegalStateException") hown [] (⟨0, 8, 11, 13⟩ : ExceptionTableEntry) [] (htab.trans rfl) (fun z hz => absurd hz List.not_mem_nil) (by decide) (by decide) w_0 (gCast hg.2.1.2.2.2.2.2.2.1) hc9 hv9 hf9 ?_
      refine lv_astore_n (lv' := [(2, .ref q9), (0, .ref (a 0)), (1, .ref ob)]) hx hb dL_file_11 rfl hl (by decide) rfl (fun ls hl => ?_)
      refine lv_iconst (v := 1) hx hb dL_file_12 (by decide) ?_
      exact W.iret (v := 1) hx hb hr (fun t ht hW => ⟨⟨1, (ov, none), rfl, Or.inr ⟨rfl, ⟨rfl, hR9⟩⟩, g_PD ht hP9 hD9⟩, hS9.F ht⟩) hS9.2.2 dL_file_13
  rw [ht] at hB
  obtain ⟨hP, hD⟩ := hB
  refine W.widen (k := 1) (n := 6) (Nat.le_of_ble_eq_true rfl) (Nat.le_of_ble_eq_true rfl) ?_
  refine lv_i2l (v := (r).toInt64) hx hb dL_file_6 rfl ?_
  refine va_last hx hb hK hP hD hS (11 + nF) 3 (WDR_at) rfl e_in0 dL_file_7 (fun H locs hP hD hS => ?_)
  rw [WDR_set, e_z0] at hP hD
  refine lv_goto (tgt := 14) hx hb dL_file_8 (by decide) ?_
  refine lv_iconst (v := 0) hx hb dL_file_14 (by decide) ?_
  exact W.iret (v := 0) hx hb hr (fun t ht hW => ⟨⟨0, ((vp_updL ov 0 ((r).toInt64)), some x), rfl, Or.inl ⟨rfl, r, x, rfl, (e_u0 (f := ov) (v := (r).toInt64)), hw⟩, g_PD ht hP hD⟩, hS.F ht⟩) hS.2.2 dL_file_15
set_option maxHeartbeats 4000000 in
set_option maxRecDepth 100000 in
/-- tell, of the law -/
theorem kL_tell (l : Launch) (D : va_G) (cI cZ cO cL : ClassId) (dt : Nat) (A : Nat → Prop) (a FA : Nat → Nat) (nC nR nL nF : Nat) (par wt stk flw : Nat → Int32) (hd : Nat → Option Nat) (rea sig : Nat → Int32) (ck cf cd : Nat → Nat) (cv : Nat → Int32) (nx : Nat → Option Nat) (R : va_W) (ob : Nat) (ov : Nat → Int64) (ci pi mi vi di : Int32) (hlt : l.stackTraces = false) (hC12 : nC ≤ 12) (hL8 : nL < 8) (hF : nF ≤ 80) (hcf : ∀ k, cf k < 2 ^ 31) (hcd : ∀ k, cd k ≤ 4) (hCh : chOk ck cf cd hd nx nF) (hH : ∀ K j, hd K = some j → j < nF) (hN : ∀ k j, k < nF → nx k = some j → j < nF) : Met l yL_tell wsL_tell ({ frames := 9, cells := 4, slots := 23, locals := 160 } : Room) (gP D cI cZ cO cL dt A [.ref (a 0), .int ci, .int pi, .int mi, .int vi, .int di, .ref ob] (fun H => va_P D vwCl (WD cI cO a FA nC nR nL nF par wt stk flw hd rea sig ++ (WF FA ck cf cd cv nx nF ++ ((ob, .inl (cL, 1, .inr (.inl ov))) :: R))) H ∧ va_D A (WD cI cO a FA nC nR nL nF par wt stk flw hd rea sig ++ (WF FA ck cf cd cv nx nF ++ ((ob, .inl (cL, 1, .inr (.inl ov))) :: R))))) (va_Qi (fun (k : Int32) (u : (Nat → Int64) × Option (((Nat × Nat) × (Nat × Nat)) × (Nat × ((Nat → Option Nat) × (Nat → Option Nat))))) => (k = 0 ∧ ∃ (r : Int32) (x : ((Nat × Nat) × (Nat × Nat)) × (Nat × ((Nat → Option Nat) × (Nat → Option Nat)))), u.2 = some x ∧ u.1 0 = r.toInt64 ∧ (fun (r : Int32) (u : ((Nat × Nat) × (Nat × Nat)) × (Nat × ((Nat → Option Nat) × (Nat → Option Nat)))) => (ci = nI u.1.1.1 ∧ u.1.1.1 < nC) ∧ (pi = nI u.1.1.2 ∧ u.1.1.2 < 10) ∧ (mi = nI u.1.2.1 ∧ u.1.2.1 < 4) ∧ ((-1000000) ≤ vi ∧ vi ≤ (1000000)) ∧ (di = nI u.1.2.2 ∧ u.1.2.2 ≤ 4) ∧ nF < 80 ∧ r = nI (nF + 1) ∧ lkIns (va_up cf nF nL) (va_up cd nF u.1.2.2) ((va_up ck nF (u.1.1.1 * 40 + u.1.1.2 * 4 + u.1.2.1)) nF) nF (chn (va_up ck nF (u.1.1.1 * 40 + u.1.1.2 * 4 + u.1.2.1)) (va_up cf nF nL) (va_up cd nF u.1.2.2) ((va_up ck nF (u.1.1.1 * 40 + u.1.1.2 * 4 + u.1.2.1)) nF) nF) hd (va_up nx nF none) u.2.2) r x) ∨ (u.2 = none ∧ ((k = 1 ∧ ¬ (cOk nC ci ∧ cOk 10 pi ∧ cOk 4 mi)) ∨ (k = 2 ∧ (cOk nC ci ∧ cOk 10 pi ∧ cOk 4 mi) ∧ ¬ (((-1000000) ≤ vi ∧ vi ≤ (1000000)) ∧ cOk 5 di)) ∨ (k = 3 ∧ (cOk nC ci ∧ cOk 10 pi ∧ cOk 4 mi) ∧ (((-1000000) ≤ vi ∧ vi ≤ (1000000)) ∧ cOk 5 di) ∧ ¬ nF < 80)))) (fun u t => match u.2 with | none => va_P D vwCl (WD cI cO a FA nC nR nL nF par wt stk flw hd rea sig ++ (WF FA ck cf cd cv nx nF ++ ((ob, .inl (cL, 1, .inr (.inl u.1))) :: R))) t.heap ∧ va_D A (WD cI cO a FA nC nR nL nF par wt stk flw hd rea sig ++ (WF FA ck cf cd cv nx nF ++ ((ob, .inl (cL, 1, .inr (.inl u.1))) :: R))) | some x => va_P D vwCl (WD cI cO a (va_up FA nF x.2.1) nC nR nL (nF + 1) par wt stk flw x.2.2.1 rea sig ++ (WF (va_up FA nF x.2.1) (va_up ck nF (x.1.1.1 * 40 + x.1.1.2 * 4 + x.1.2.1)) (va_up cf nF nL) (va_up cd nF x.1.2.2) (upd cv nF vi) x.2.2.2 (nF + 1) ++ ((ob, .inl (cL, 1, .inr (.inl (u.1)))) :: R))) t.heap ∧ va_D A (WD cI cO a (va_up FA nF x.2.1) nC nR nL (nF + 1) par wt stk flw x.2.2.1 rea sig ++ (WF (va_up FA nF x.2.1) (va_up ck nF (x.1.1.1 * 40 + x.1.1.2 * 4 + x.1.2.1)) (va_up cf nF nL) (va_up cd nF x.1.2.2) (upd cv nF vi) x.2.2.2 (nF + 1) ++ ((ob, .inl (cL, 1, .inr (.inl (u.1)))) :: R)))) A) 4 23 A := by
  refine va_MetW (cc := cL_tell) (maxL := 8) (ret := some .int) (hh := [(0, 16, 19, 19), (0, 16, 23, 21), (0, 16, 27, 13)]) (by decide) rfl ?_
  intro p9 e9 s m9 args below meth c9 s₁ B hml hv
  obtain ⟨rfl, hg, hP, hD⟩ := hv
  have hx := B.exec
  have hb := B.bytes
  have hr := B.returns
  have hts := atoms_spec (ws := wsL_tell) B.pre
  have htab : c9.exceptionTable.toList = tableOf [(0, 16, 19, 19), (0, 16, 23, 21), (0, 16, 27, 13)] := vx_table (x := yL_tell) B (hts _ List.mem_cons_self)
  have hown : s.vm.findClass RL = some m9.cls := findClass_of_methodNamed B.named
  have hlocks := B.notSynchronized
  have hK := hg.1
  have hS : va_S A s.heap s.heap [] := va_S.rf
  have w_0 := hts (.classLink RL 19 "java/lang/IndexOutOfBoundsException") (by decide +kernel)
  have w_1 := hts (.classLink RL 21 "java/lang/IllegalArgumentException") (by decide +kernel)
  have w_2 := hts (.classLink RL 13 "java/lang/IllegalStateException") (by decide +kernel)
  have hl := lv_entry ([.ref (a 0), .int ci, .int pi, .int mi, .int vi, .int di, .ref ob]) (n := 8) (Nat.le_of_ble_eq_true rfl)
  rw [lg_entry_eq]
  generalize (lg_sl ([.ref (a 0), .int ci, .int pi, .int mi, .int vi, .int di, .ref ob]) ++ List.replicate (8 - (lg_sl ([.ref (a 0), .int ci, .int pi, .int mi, .int vi, .int di, .ref ob])).length) Slot.unset).toArray = ls at hl ⊢
  have hl : lv_has ls 8 [(0, .ref (a 0)), (1, .int ci), (2, .int pi), (3, .int mi), (4, .int vi), (5, .int di), (6, .ref ob)] := hl
  refine lv_aload hx hb dL_tell_0 (lv_at hl 6 rfl) ?_
  refine lv_iconst (v := 0) hx hb dL_tell_2 (by decide) ?_
  refine lv_aload_n hx hb dL_tell_3 rfl (lv_at hl 0 rfl) ?_
  refine lv_iload_n hx hb dL_tell_4 rfl (lv_at hl 1 rfl) ?_
  refine lv_iload_n hx hb dL_tell_5 rfl (lv_at hl 2 rfl) ?_
  refine lv_iload_n hx hb dL_tell_6 rfl (lv_at hl 3 rfl) ?_
  refine lv_iload hx hb dL_tell_7 (lv_at hl 4 rfl) ?_
  refine lv_iload hx hb dL_tell_9 (lv_at hl 5 rfl) ?_
  refine vx_calli (vx_runV (As := [.int ci, .int pi, .int mi, .int vi, .int di]) (rest := [.int 0, .ref ob]) ⟨hx, hb, hml, hown, hts⟩ (vx_mut (c4_tell l D cI cZ cO cL dt A a FA nC nR nL nF par wt stk flw hd rea sig ck cf cd cv nx ((ob, .inl (cL, 1, .inr (.inl ov))) :: R) ci pi mi vi di hlt hC12 hL8 hF hcf hcd hCh hH hN)) (cwV 5 hts gL_tell_X4_tell rfl rfl rfl (by decide +kernel) ⟨(Nat.le_of_ble_eq_true rfl), (Nat.le_of_ble_eq_true rfl)⟩) (gP.v hg hP 3 rfl 0 rfl ⟨hP, hD⟩) rfl rfl hl.1 rfl (lv_room (Nat.le_of_ble_eq_true rfl)) dL_tell_11 ⟨(Nat.le_of_ble_eq_true rfl), (Nat.le_of_ble_eq_true rfl)⟩) hS (fun q _ h => h) (fun q h => h) (fun q _ h => h) (fun E9 ce9 q9 u9 t9 H9 locs9 ht9 hvm9 _ hB9 hz9 hk9 hS9 hc9 hv9 hf9 => ?_) (fun r x t H locs ht hvm hw hB hz hk hS => ?_)
  · skip
    obtain ⟨hE9, hP9, hD9⟩ := hB9
    rw [ht9] at hP9
    refine vx_widen (k := 4) (n := 23) (Nat.le_of_ble_eq_true rfl) (Nat.le_of_ble_eq_true rfl) ?_
    rcases hE9 with ⟨rfl, hR9⟩ | ⟨rfl, hR9⟩ | ⟨rfl, hR9⟩
    · skip
      refine vx_catch (name := "java/lang/IndexOutOfBoundsException") (E := "java/lang/IndexOutOfBoundsException") hown [] (⟨0, 16, 19, 19⟩ : ExceptionTableEntry) [(⟨0, 16, 23, 21⟩ : ExceptionTableEntry), (⟨0, 16, 27, 13⟩ : ExceptionTableEntry)] (htab.trans rfl) (fun z hz => absurd hz List.not_mem_nil) (by decide) (by decide) w_0 (gCast hg.2.1.2.2.2.2.2.2.2.2.1) hc9 hv9 hf9 ?_
      refine lv_astore (lv' := [(7, .ref q9), (0, .ref (a 0)), (1, .int ci), (2, .int pi), (3, .int mi), (4, .int vi), (5, .int di), (6, .ref ob)]) hx hb dL_tell_19 hl (by decide) rfl (fun ls hl => ?_)
      refine lv_iconst (v := 1) hx hb dL_tell_21 (by decide) ?_
      exact W.iret (v := 1) hx hb hr (fun t ht hW => ⟨⟨1, (ov, none), rfl, Or.inr ⟨rfl, Or.inl ⟨rfl, hR9⟩⟩, g_PD ht hP9 hD9⟩, hS9.F ht⟩) hS9.2.2 dL_tell_22
    · skip
      refine vx_catch (name := "java/lang/IllegalArgumentException") (E := "java/lang/IllegalArgumentException") hown [(⟨0, 16, 19, 19⟩ : ExceptionTableEntry)] (⟨0, 16, 23, 21⟩ : ExceptionTableEntry) [(⟨0, 16, 27, 13⟩ : ExceptionTableEntry)] (htab.trans rfl) (fun z hz => by rw [List.mem_singleton.mp hz]; exact Or.inr ⟨by decide, "java/lang/IndexOutOfBoundsException", w_0, hg.2.1.2.2.2.2.2.2.2.2.2.2.1⟩) (by decide) (by decide) w_1 (gCast hg.2.1.2.2.2.2.2.2.2.1) hc9 hv9 hf9 ?_
      refine lv_astore (lv' := [(7, .ref q9), (0, .ref (a 0)), (1, .int ci), (2, .int pi), (3, .int mi), (4, .int vi), (5, .int di), (6, .ref ob)]) hx hb dL_tell_23 hl (by decide) rfl (fun ls hl => ?_)
      refine lv_iconst (v := 2) hx hb dL_tell_25 (by decide) ?_
      exact W.iret (v := 2) hx hb hr (fun t ht hW => ⟨⟨2, (ov, none), rfl, Or.inr ⟨rfl, Or.inr (Or.inl ⟨rfl, hR9⟩)⟩, g_PD ht hP9 hD9⟩, hS9.F ht⟩) hS9.2.2 dL_tell_26
    · skip
      refine vx_catch (name := "java/lang/IllegalStateException") (E := "java/lang/IllegalStateException") hown [(⟨0, 16, 19, 19⟩ : ExceptionTableEntry), (⟨0, 16, 23, 21⟩ : ExceptionTableEntry)] (⟨0, 16, 27, 13⟩ : ExceptionTableEntry) [] (htab.trans rfl) (fun z hz => by rcases List.mem_cons.mp hz with rfl | hz; exact Or.inr ⟨by decide, "java/lang/IndexOutOfBoundsException", w_0, hg.2.1.2.2.2.2.2.2.2.2.2.2.2.1⟩; rw [List.mem_singleton.mp hz]; exact Or.inr ⟨by decide, "java/lang/IllegalArgumentException", w_1, hg.2.1.2.2.2.2.2.2.2.2.2.2.2.2.1⟩) (by decide) (by decide) w_2 (gCast hg.2.1.2.2.2.2.2.2.1) hc9 hv9 hf9 ?_
      refine lv_astore (lv' := [(7, .ref q9), (0, .ref (a 0)), (1, .int ci), (2, .int pi), (3, .int mi), (4, .int vi), (5, .int di), (6, .ref ob)]) hx hb dL_tell_27 hl (by decide) rfl (fun ls hl => ?_)
      refine lv_iconst (v := 3) hx hb dL_tell_29 (by decide) ?_
      exact W.iret (v := 3) hx hb hr (fun t ht hW => ⟨⟨3, (ov, none), rfl, Or.inr ⟨rfl, Or.inr (Or.inr (⟨rfl, hR9⟩))⟩, g_PD ht hP9 hD9⟩, hS9.F ht⟩) hS9.2.2 dL_tell_30
  rw [ht] at hB
  obtain ⟨hP, hD⟩ := hB
  refine W.widen (k := 4) (n := 23) (Nat.le_of_ble_eq_true rfl) (Nat.le_of_ble_eq_true rfl) ?_
  refine lv_i2l (v := (r).toInt64) hx hb dL_tell_14 rfl ?_
  refine va_last hx hb hK hP hD hS (11 + (nF + 1)) 3 (WDR_at) rfl e_in0 dL_tell_15 (fun H locs hP hD hS => ?_)
  rw [WDR_set, e_z0] at hP hD
  refine lv_goto (tgt := 31) hx hb dL_tell_16 (by decide) ?_
  refine lv_iconst (v := 0) hx hb dL_tell_31 (by decide) ?_
  exact W.iret (v := 0) hx hb hr (fun t ht hW => ⟨⟨0, ((vp_updL ov 0 ((r).toInt64)), some x), rfl, Or.inl ⟨rfl, r, x, rfl, (e_u0 (f := ov) (v := (r).toInt64)), hw⟩, g_PD ht hP hD⟩, hS.F ht⟩) hS.2.2 dL_tell_32
set_option maxHeartbeats 4000000 in
set_option maxRecDepth 100000 in
/-- disagreements, of the law -/
theorem kL_disagreements (l : Launch) (D : va_G) (cI cZ cO cL : ClassId) (dt : Nat) (A : Nat → Prop) (a FA : Nat → Nat) (nC nR nL nF : Nat) (par wt stk flw : Nat → Int32) (hd : Nat → Option Nat) (rea sig : Nat → Int32) (ck cf cd : Nat → Nat) (cv : Nat → Int32) (nx : Nat → Option Nat) (R : va_W) (ob : Nat) (ov : Nat → Int64) (fi : Int32) (hlt : l.stackTraces = false) (hF : nF ≤ 80) (hC12 : nC ≤ 12) (hck : ∀ k, ck k < 480) (hcf : ∀ k, cf k < 2 ^ 31) (hcd : ∀ k, cd k ≤ 4) (hcv : ∀ k, vOk (cv k)) (hwt : ∀ k, wOk (wt k)) (hCh : chOk ck cf cd hd nx nF) (hL8 : nL < 8) : Met l yL_disagreements wsL_disagreements ({ frames := 8, cells := 1, slots := 6, locals := 135 } : Room) (gP D cI cZ cO cL dt A [.ref (a 0), .int fi, .ref ob] (fun H => va_P D vwCl (WD cI cO a FA nC nR nL nF par wt stk flw hd rea sig ++ (WF FA ck cf cd cv nx nF ++ ((ob, .inl (cL, 1, .inr (.inl ov))) :: R))) H ∧ va_D A (WD cI cO a FA nC nR nL nF par wt stk flw hd rea sig ++ (WF FA ck cf cd cv nx nF ++ ((ob, .inl (cL, 1, .inr (.inl ov))) :: R))))) (va_Qi (fun (k : Int32) (u : Nat → Int64) => (k = 0 ∧ ∃ r : Int32, u 0 = r.toInt64 ∧ (fun r => ∃ f : Nat, (fi = nI f ∧ f < nL + 1) ∧ r = sT (fun k => if nI (cf k) = nI f then sT (fun j => bI (nI (cf k) = nI (cf j) ∧ nI (ck k) = nI (ck j) ∧ nI (10 ^ cd k) + nI (10 ^ cd j) < 2 * farI (cv k) (cv j))) k else 0) nF) r) ∨ (k = 1 ∧ ¬ cOk (nL + 1) fi)) (fun u t => va_P D vwCl (WD cI cO a FA nC nR nL nF par wt stk flw hd rea sig ++ (WF FA ck cf cd cv nx nF ++ ((ob, .inl (cL, 1, .inr (.inl u))) :: R))) t.heap ∧ va_D A (WD cI cO a FA nC nR nL nF par wt stk flw hd rea sig ++ (WF FA ck cf cd cv nx nF ++ ((ob, .inl (cL, 1, .inr (.inl u))) :: R)))) A) 1 6 A := by
  refine va_MetW (cc := cL_disagreements) (maxL := 4) (ret := some .int) (hh := [(0, 9, 12, 19)]) (by decide) rfl ?_
  intro p9 e9 s m9 args below meth c9 s₁ B hml hv
  obtain ⟨rfl, hg, hP, hD⟩ := hv
  have hx := B.exec
  have hb := B.bytes
  have hr := B.returns
  have hts := atoms_spec (ws := wsL_disagreements) B.pre
  have htab : c9.exceptionTable.toList = tableOf [(0, 9, 12, 19)] := vx_table (x := yL_disagreements) B (hts _ List.mem_cons_self)
  have hown : s.vm.findClass RL = some m9.cls := findClass_of_methodNamed B.named
  have hlocks := B.notSynchronized
  have hK := hg.1
  have hS : va_S A s.heap s.heap [] := va_S.rf
  have w_0 := hts (.classLink RL 19 "java/lang/IndexOutOfBoundsException") (by decide +kernel)
  have hl := lv_entry ([.ref (a 0), .int fi, .ref ob]) (n := 4) (Nat.le_of_ble_eq_true rfl)
  rw [lg_entry_eq]
  generalize (lg_sl ([.ref (a 0), .int fi, .ref ob]) ++ List.replicate (4 - (lg_sl ([.ref (a 0), .int fi, .ref ob])).length) Slot.unset).toArray = ls at hl ⊢
  have hl : lv_has ls 4 [(0, .ref (a 0)), (1, .int fi), (2, .ref ob)] := hl
  refine lv_aload_n hx hb dL_disagreements_0 rfl (lv_at hl 2 rfl) ?_
  refine lv_iconst (v := 0) hx hb dL_disagreements_1 (by decide) ?_
  refine lv_aload_n hx hb dL_disagreements_2 rfl (lv_at hl 0 rfl) ?_
  refine lv_iload_n hx hb dL_disagreements_3 rfl (lv_at hl 1 rfl) ?_
  refine vx_calli (vx_runV (As := [.int fi]) (rest := [.int 0, .ref ob]) ⟨hx, hb, hml, hown, hts⟩ (vx_pure (c4_disagreements l D cI cZ cO cL dt A a FA nC nR nL nF par wt stk flw hd rea sig ck cf cd cv nx ((ob, .inl (cL, 1, .inr (.inl ov))) :: R) fi hlt hF hC12 hck hcf hcd hcv hwt hCh hL8)) (cwV 1 hts gL_disagreements_X4_disagreements rfl rfl rfl (by decide +kernel) ⟨(Nat.le_of_ble_eq_true rfl), (Nat.le_of_ble_eq_true rfl)⟩) (gP.v hg hP 3 rfl 0 rfl ⟨hP, hD⟩) rfl rfl hl.1 rfl (lv_room (Nat.le_of_ble_eq_true rfl)) dL_disagreements_4 ⟨(Nat.le_of_ble_eq_true rfl), (Nat.le_of_ble_eq_true rfl)⟩) hS (fun q _ h => h) (fun q h => h) (fun q _ h => h) (fun E9 ce9 q9 u9 t9 H9 locs9 ht9 hvm9 _ hB9 hz9 hk9 hS9 hc9 hv9 hf9 => ?_) (fun r x t H locs ht hvm hw hB hz hk hS => ?_)
  · skip
    obtain ⟨hE9, hP9, hD9⟩ := hB9
    rw [ht9] at hP9
    refine vx_widen (k := 1) (n := 6) (Nat.le_of_ble_eq_true rfl) (Nat.le_of_ble_eq_true rfl) ?_
    rcases hE9 with ⟨rfl, hR9⟩
    · skip
      refine vx_catch (name := "java/lang/IndexOutOfBoundsException") (E := "java/lang/IndexOutOfBoundsException") hown [] (⟨0, 9, 12, 19⟩ : ExceptionTableEntry) [] (htab.trans rfl) (fun z hz => absurd hz List.not_mem_nil) (by decide) (by decide) w_0 (gCast hg.2.1.2.2.2.2.2.2.2.2.1) hc9 hv9 hf9 ?_
      refine lv_astore_n (lv' := [(3, .ref q9), (0, .ref (a 0)), (1, .int fi), (2, .ref ob)]) hx hb dL_disagreements_12 rfl hl (by decide) rfl (fun ls hl => ?_)
      refine lv_iconst (v := 1) hx hb dL_disagreements_13 (by decide) ?_
      exact W.iret (v := 1) hx hb hr (fun t ht hW => ⟨⟨1, ov, rfl, Or.inr (⟨rfl, hR9⟩), g_PD ht hP9 hD9⟩, hS9.F ht⟩) hS9.2.2 dL_disagreements_14
  rw [ht] at hB
  obtain ⟨hP, hD⟩ := hB
  refine W.widen (k := 1) (n := 6) (Nat.le_of_ble_eq_true rfl) (Nat.le_of_ble_eq_true rfl) ?_
  refine lv_i2l (v := (r).toInt64) hx hb dL_disagreements_7 rfl ?_
  refine va_last hx hb hK hP hD hS (11 + nF) 3 (WDR_at) rfl e_in0 dL_disagreements_8 (fun H locs hP hD hS => ?_)
  rw [WDR_set, e_z0] at hP hD
  refine lv_goto (tgt := 15) hx hb dL_disagreements_9 (by decide) ?_
  refine lv_iconst (v := 0) hx hb dL_disagreements_15 (by decide) ?_
  exact W.iret (v := 0) hx hb hr (fun t ht hW => ⟨⟨0, (vp_updL ov 0 ((r).toInt64)), rfl, Or.inl ⟨rfl, r, (e_u0 (f := ov) (v := (r).toInt64)), hw⟩, g_PD ht hP hD⟩, hS.F ht⟩) hS.2.2 dL_disagreements_16
set_option maxHeartbeats 4000000 in
set_option maxRecDepth 100000 in
/-- restated, of the law -/
theorem kL_restated (l : Launch) (D : va_G) (cI cZ cO cL : ClassId) (dt : Nat) (A : Nat → Prop) (a FA : Nat → Nat) (nC nR nL nF : Nat) (par wt stk flw : Nat → Int32) (hd : Nat → Option Nat) (rea sig : Nat → Int32) (ck cf cd : Nat → Nat) (cv : Nat → Int32) (nx : Nat → Option Nat) (R : va_W) (ob : Nat) (ov : Nat → Int64) (fi : Int32) (hlt : l.stackTraces = false) (hF : nF ≤ 80) (hC12 : nC ≤ 12) (hck : ∀ k, ck k < 480) (hcf : ∀ k, cf k < 2 ^ 31) (hcd : ∀ k, cd k ≤ 4) (hcv : ∀ k, vOk (cv k)) (hwt : ∀ k, wOk (wt k)) (hCh : chOk ck cf cd hd nx nF) (hL8 : nL < 8) : Met l yL_restated wsL_restated ({ frames := 8, cells := 1, slots := 6, locals := 134 } : Room) (gP D cI cZ cO cL dt A [.ref (a 0), .int fi, .ref ob] (fun H => va_P D vwCl (WD cI cO a FA nC nR nL nF par wt stk flw hd rea sig ++ (WF FA ck cf cd cv nx nF ++ ((ob, .inl (cL, 1, .inr (.inl ov))) :: R))) H ∧ va_D A (WD cI cO a FA nC nR nL nF par wt stk flw hd rea sig ++ (WF FA ck cf cd cv nx nF ++ ((ob, .inl (cL, 1, .inr (.inl ov))) :: R))))) (va_Qi (fun (k : Int32) (u : Nat → Int64) => (k = 0 ∧ ∃ r : Int32, u 0 = r.toInt64 ∧ (fun r => ∃ f : Nat, (fi = nI f ∧ f < nL + 1) ∧ r = sT (fun k => bI (rstB (nI f) (hC ck cf cd nF (nI k) (nI f)) (hC ck cf cd nF (nI k) (nI f - 1)) cf cv = true)) (nC * 40)) r) ∨ (k = 1 ∧ ¬ cOk (nL + 1) fi)) (fun u t => va_P D vwCl (WD cI cO a FA nC nR nL nF par wt stk flw hd rea sig ++ (WF FA ck cf cd cv nx nF ++ ((ob, .inl (cL, 1, .inr (.inl u))) :: R))) t.heap ∧ va_D A (WD cI cO a FA nC nR nL nF par wt stk flw hd rea sig ++ (WF FA ck cf cd cv nx nF ++ ((ob, .inl (cL, 1, .inr (.inl u))) :: R)))) A) 1 6 A := by
  refine va_MetW (cc := cL_restated) (maxL := 4) (ret := some .int) (hh := [(0, 9, 12, 19)]) (by decide) rfl ?_
  intro p9 e9 s m9 args below meth c9 s₁ B hml hv
  obtain ⟨rfl, hg, hP, hD⟩ := hv
  have hx := B.exec
  have hb := B.bytes
  have hr := B.returns
  have hts := atoms_spec (ws := wsL_restated) B.pre
  have htab : c9.exceptionTable.toList = tableOf [(0, 9, 12, 19)] := vx_table (x := yL_restated) B (hts _ List.mem_cons_self)
  have hown : s.vm.findClass RL = some m9.cls := findClass_of_methodNamed B.named
  have hlocks := B.notSynchronized
  have hK := hg.1
  have hS : va_S A s.heap s.heap [] := va_S.rf
  have w_0 := hts (.classLink RL 19 "java/lang/IndexOutOfBoundsException") (by decide +kernel)
  have hl := lv_entry ([.ref (a 0), .int fi, .ref ob]) (n := 4) (Nat.le_of_ble_eq_true rfl)
  rw [lg_entry_eq]
  generalize (lg_sl ([.ref (a 0), .int fi, .ref ob]) ++ List.replicate (4 - (lg_sl ([.ref (a 0), .int fi, .ref ob])).length) Slot.unset).toArray = ls at hl ⊢
  have hl : lv_has ls 4 [(0, .ref (a 0)), (1, .int fi), (2, .ref ob)] := hl
  refine lv_aload_n hx hb dL_restated_0 rfl (lv_at hl 2 rfl) ?_
  refine lv_iconst (v := 0) hx hb dL_restated_1 (by decide) ?_
  refine lv_aload_n hx hb dL_restated_2 rfl (lv_at hl 0 rfl) ?_
  refine lv_iload_n hx hb dL_restated_3 rfl (lv_at hl 1 rfl) ?_
  refine vx_calli (vx_runV (As := [.int fi]) (rest := [.int 0, .ref ob]) ⟨hx, hb, hml, hown, hts⟩ (vx_pure (c4_restated l D cI cZ cO cL dt A a FA nC nR nL nF par wt stk flw hd rea sig ck cf cd cv nx ((ob, .inl (cL, 1, .inr (.inl ov))) :: R) fi hlt hF hC12 hck hcf hcd hcv hwt hCh hL8)) (cwV 1 hts gL_restated_X4_restated rfl rfl rfl (by decide +kernel) ⟨(Nat.le_of_ble_eq_true rfl), (Nat.le_of_ble_eq_true rfl)⟩) (gP.v hg hP 3 rfl 0 rfl ⟨hP, hD⟩) rfl rfl hl.1 rfl (lv_room (Nat.le_of_ble_eq_true rfl)) dL_restated_4 ⟨(Nat.le_of_ble_eq_true rfl), (Nat.le_of_ble_eq_true rfl)⟩) hS (fun q _ h => h) (fun q h => h) (fun q _ h => h) (fun E9 ce9 q9 u9 t9 H9 locs9 ht9 hvm9 _ hB9 hz9 hk9 hS9 hc9 hv9 hf9 => ?_) (fun r x t H locs ht hvm hw hB hz hk hS => ?_)
  · skip
    obtain ⟨hE9, hP9, hD9⟩ := hB9
    rw [ht9] at hP9
    refine vx_widen (k := 1) (n := 6) (Nat.le_of_ble_eq_true rfl) (Nat.le_of_ble_eq_true rfl) ?_
    rcases hE9 with ⟨rfl, hR9⟩
    · skip
      refine vx_catch (name := "java/lang/IndexOutOfBoundsException") (E := "java/lang/IndexOutOfBoundsException") hown [] (⟨0, 9, 12, 19⟩ : ExceptionTableEntry) [] (htab.trans rfl) (fun z hz => absurd hz List.not_mem_nil) (by decide) (by decide) w_0 (gCast hg.2.1.2.2.2.2.2.2.2.2.1) hc9 hv9 hf9 ?_
      refine lv_astore_n (lv' := [(3, .ref q9), (0, .ref (a 0)), (1, .int fi), (2, .ref ob)]) hx hb dL_restated_12 rfl hl (by decide) rfl (fun ls hl => ?_)
      refine lv_iconst (v := 1) hx hb dL_restated_13 (by decide) ?_
      exact W.iret (v := 1) hx hb hr (fun t ht hW => ⟨⟨1, ov, rfl, Or.inr (⟨rfl, hR9⟩), g_PD ht hP9 hD9⟩, hS9.F ht⟩) hS9.2.2 dL_restated_14
  rw [ht] at hB
  obtain ⟨hP, hD⟩ := hB
  refine W.widen (k := 1) (n := 6) (Nat.le_of_ble_eq_true rfl) (Nat.le_of_ble_eq_true rfl) ?_
  refine lv_i2l (v := (r).toInt64) hx hb dL_restated_7 rfl ?_
  refine va_last hx hb hK hP hD hS (11 + nF) 3 (WDR_at) rfl e_in0 dL_restated_8 (fun H locs hP hD hS => ?_)
  rw [WDR_set, e_z0] at hP hD
  refine lv_goto (tgt := 15) hx hb dL_restated_9 (by decide) ?_
  refine lv_iconst (v := 0) hx hb dL_restated_15 (by decide) ?_
  exact W.iret (v := 0) hx hb hr (fun t ht hW => ⟨⟨0, (vp_updL ov 0 ((r).toInt64)), rfl, Or.inl ⟨rfl, r, (e_u0 (f := ov) (v := (r).toInt64)), hw⟩, g_PD ht hP hD⟩, hS.F ht⟩) hS.2.2 dL_restated_16
set_option maxHeartbeats 4000000 in
set_option maxRecDepth 100000 in
/-- value, of the law -/
theorem kL_value (l : Launch) (D : va_G) (cI cZ cO cL : ClassId) (dt : Nat) (A : Nat → Prop) (a FA : Nat → Nat) (nC nR nL nF : Nat) (par wt stk flw : Nat → Int32) (hd : Nat → Option Nat) (rea sig : Nat → Int32) (ck cf cd : Nat → Nat) (cv : Nat → Int32) (nx : Nat → Option Nat) (R : va_W) (ob : Nat) (ov : Nat → Int64) (ci pi mi fi : Int32) (hlt : l.stackTraces = false) (hF : nF ≤ 80) (hC12 : nC ≤ 12) (hck : ∀ k, ck k < 480) (hcf : ∀ k, cf k < 2 ^ 31) (hcd : ∀ k, cd k ≤ 4) (hcv : ∀ k, vOk (cv k)) (hwt : ∀ k, wOk (wt k)) (hCh : chOk ck cf cd hd nx nF) (hL8 : nL < 8) : Met l yL_value wsL_value ({ frames := 10, cells := 4, slots := 24, locals := 183 } : Room) (gP D cI cZ cO cL dt A [.ref (a 0), .int ci, .int pi, .int mi, .int fi, .ref ob] (fun H => va_P D vwCl (WD cI cO a FA nC nR nL nF par wt stk flw hd rea sig ++ (WF FA ck cf cd cv nx nF ++ ((ob, .inl (cL, 1, .inr (.inl ov))) :: R))) H ∧ va_D A (WD cI cO a FA nC nR nL nF par wt stk flw hd rea sig ++ (WF FA ck cf cd cv nx nF ++ ((ob, .inl (cL, 1, .inr (.inl ov))) :: R))))) (va_Qi (fun (k : Int32) (u : Nat → Int64) => (k = 0 ∧ ∃ r : Int32, u 0 = r.toInt64 ∧ (fun r => ∃ c p m f : Nat, kV nC nL ci pi mi fi c p m f ∧ ∃ j : Nat, hC ck cf cd nF (nI (c * 40 + p * 4 + m)) (nI f) = some j ∧ r = cv j) r) ∨ (k = 1 ∧ kNo nC nL ci pi mi fi) ∨ (k = 2 ∧ ∃ c p m f : Nat, kV nC nL ci pi mi fi c p m f ∧ hC ck cf cd nF (nI (c * 40 + p * 4 + m)) (nI f) = none)) (fun u t => va_P D vwCl (WD cI cO a FA nC nR nL nF par wt stk flw hd rea sig ++ (WF FA ck cf cd cv nx nF ++ ((ob, .inl (cL, 1, .inr (.inl u))) :: R))) t.heap ∧ va_D A (WD cI cO a FA nC nR nL nF par wt stk flw hd rea sig ++ (WF FA ck cf cd cv nx nF ++ ((ob, .inl (cL, 1, .inr (.inl u))) :: R)))) A) 4 24 A := by
  refine va_MetW (cc := cL_value) (maxL := 7) (ret := some .int) (hh := [(0, 14, 17, 19), (0, 14, 21, 48)]) (by decide) rfl ?_
  intro p9 e9 s m9 args below meth c9 s₁ B hml hv
  obtain ⟨rfl, hg, hP, hD⟩ := hv
  have hx := B.exec
  have hb := B.bytes
  have hr := B.returns
  have hts := atoms_spec (ws := wsL_value) B.pre
  have htab : c9.exceptionTable.toList = tableOf [(0, 14, 17, 19), (0, 14, 21, 48)] := vx_table (x := yL_value) B (hts _ List.mem_cons_self)
  have hown : s.vm.findClass RL = some m9.cls := findClass_of_methodNamed B.named
  have hlocks := B.notSynchronized
  have hK := hg.1
  have hS : va_S A s.heap s.heap [] := va_S.rf
  have w_0 := hts (.classLink RL 19 "java/lang/IndexOutOfBoundsException") (by decide +kernel)
  have w_1 := hts (.classLink RL 48 "java/util/NoSuchElementException") (by decide +kernel)
  have hl := lv_entry ([.ref (a 0), .int ci, .int pi, .int mi, .int fi, .ref ob]) (n := 7) (Nat.le_of_ble_eq_true rfl)
  rw [lg_entry_eq]
  generalize (lg_sl ([.ref (a 0), .int ci, .int pi, .int mi, .int fi, .ref ob]) ++ List.replicate (7 - (lg_sl ([.ref (a 0), .int ci, .int pi, .int mi, .int fi, .ref ob])).length) Slot.unset).toArray = ls at hl ⊢
  have hl : lv_has ls 7 [(0, .ref (a 0)), (1, .int ci), (2, .int pi), (3, .int mi), (4, .int fi), (5, .ref ob)] := hl
  refine lv_aload hx hb dL_value_0 (lv_at hl 5 rfl) ?_
  refine lv_iconst (v := 0) hx hb dL_value_2 (by decide) ?_
  refine lv_aload_n hx hb dL_value_3 rfl (lv_at hl 0 rfl) ?_
  refine lv_iload_n hx hb dL_value_4 rfl (lv_at hl 1 rfl) ?_
  refine lv_iload_n hx hb dL_value_5 rfl (lv_at hl 2 rfl) ?_
  refine lv_iload_n hx hb dL_value_6 rfl (lv_at hl 3 rfl) ?_
  refine lv_iload hx hb dL_value_7 (lv_at hl 4 rfl) ?_
  refine vx_calli (vx_runV (As := [.int ci, .int pi, .int mi, .int fi]) (rest := [.int 0, .ref ob]) ⟨hx, hb, hml, hown, hts⟩ (vx_pure (c4_value l D cI cZ cO cL dt A a FA nC nR nL nF par wt stk flw hd rea sig ck cf cd cv nx ((ob, .inl (cL, 1, .inr (.inl ov))) :: R) ci pi mi fi hlt hF hC12 hck hcf hcd hcv hwt hCh hL8)) (cwV 4 hts gL_value_X4_value rfl rfl rfl (by decide +kernel) ⟨(Nat.le_of_ble_eq_true rfl), (Nat.le_of_ble_eq_true rfl)⟩) (gP.v hg hP 3 rfl 0 rfl ⟨hP, hD⟩) rfl rfl hl.1 rfl (lv_room (Nat.le_of_ble_eq_true rfl)) dL_value_9 ⟨(Nat.le_of_ble_eq_true rfl), (Nat.le_of_ble_eq_true rfl)⟩) hS (fun q _ h => h) (fun q h => h) (fun q _ h => h) (fun E9 ce9 q9 u9 t9 H9 locs9 ht9 hvm9 _ hB9 hz9 hk9 hS9 hc9 hv9 hf9 => ?_) (fun r x t H locs ht hvm hw hB hz hk hS => ?_)
  · skip
    obtain ⟨hE9, hP9, hD9⟩ := hB9
    rw [ht9] at hP9
    refine vx_widen (k := 4) (n := 24) (Nat.le_of_ble_eq_true rfl) (Nat.le_of_ble_eq_true rfl) ?_
    rcases hE9 with ⟨rfl, hR9⟩ | ⟨rfl, hR9⟩
    · skip
      refine vx_catch (name := "java/lang/IndexOutOfBoundsException") (E := "java/lang/IndexOutOfBoundsException") hown [] (⟨0, 14, 17, 19⟩ : ExceptionTableEntry) [(⟨0, 14, 21, 48⟩ : ExceptionTableEntry)] (htab.trans rfl) (fun z hz => absurd hz List.not_mem_nil) (by decide) (by decide) w_0 (gCast hg.2.1.2.2.2.2.2.2.2.2.1) hc9 hv9 hf9 ?_
      refine lv_astore (lv' := [(6, .ref q9), (0, .ref (a 0)), (1, .int ci), (2, .int pi), (3, .int mi), (4, .int fi), (5, .ref ob)]) hx hb dL_value_17 hl (by decide) rfl (fun ls hl => ?_)
      refine lv_iconst (v := 1) hx hb dL_value_19 (by decide) ?_
      exact W.iret (v := 1) hx hb hr (fun t ht hW => ⟨⟨1, ov, rfl, Or.inr (Or.inl ⟨rfl, hR9⟩), g_PD ht hP9 hD9⟩, hS9.F ht⟩) hS9.2.2 dL_value_20
    · skip
      refine vx_catch (name := "java/util/NoSuchElementException") (E := "java/util/NoSuchElementException") hown [(⟨0, 14, 17, 19⟩ : ExceptionTableEntry)] (⟨0, 14, 21, 48⟩ : ExceptionTableEntry) [] (htab.trans rfl) (fun z hz => by rw [List.mem_singleton.mp hz]; exact Or.inr ⟨by decide, "java/lang/IndexOutOfBoundsException", w_0, hg.2.1.2.2.2.2.2.2.2.2.2.2.2.2.2.1⟩) (by decide) (by decide) w_1 (gCast hg.2.1.2.2.2.2.2.2.2.2.2.1) hc9 hv9 hf9 ?_
      refine lv_astore (lv' := [(6, .ref q9), (0, .ref (a 0)), (1, .int ci), (2, .int pi), (3, .int mi), (4, .int fi), (5, .ref ob)]) hx hb dL_value_21 hl (by decide) rfl (fun ls hl => ?_)
      refine lv_iconst (v := 2) hx hb dL_value_23 (by decide) ?_
      exact W.iret (v := 2) hx hb hr (fun t ht hW => ⟨⟨2, ov, rfl, Or.inr (Or.inr (⟨rfl, hR9⟩)), g_PD ht hP9 hD9⟩, hS9.F ht⟩) hS9.2.2 dL_value_24
  rw [ht] at hB
  obtain ⟨hP, hD⟩ := hB
  refine W.widen (k := 4) (n := 24) (Nat.le_of_ble_eq_true rfl) (Nat.le_of_ble_eq_true rfl) ?_
  refine lv_i2l (v := (r).toInt64) hx hb dL_value_12 rfl ?_
  refine va_last hx hb hK hP hD hS (11 + nF) 3 (WDR_at) rfl e_in0 dL_value_13 (fun H locs hP hD hS => ?_)
  rw [WDR_set, e_z0] at hP hD
  refine lv_goto (tgt := 25) hx hb dL_value_14 (by decide) ?_
  refine lv_iconst (v := 0) hx hb dL_value_25 (by decide) ?_
  exact W.iret (v := 0) hx hb hr (fun t ht hW => ⟨⟨0, (vp_updL ov 0 ((r).toInt64)), rfl, Or.inl ⟨rfl, r, (e_u0 (f := ov) (v := (r).toInt64)), hw⟩, g_PD ht hP hD⟩, hS.F ht⟩) hS.2.2 dL_value_26
set_option maxHeartbeats 4000000 in
set_option maxRecDepth 100000 in
/-- doubt, of the law -/
theorem kL_doubt (l : Launch) (D : va_G) (cI cZ cO cL : ClassId) (dt : Nat) (A : Nat → Prop) (a FA : Nat → Nat) (nC nR nL nF : Nat) (par wt stk flw : Nat → Int32) (hd : Nat → Option Nat) (rea sig : Nat → Int32) (ck cf cd : Nat → Nat) (cv : Nat → Int32) (nx : Nat → Option Nat) (R : va_W) (ob : Nat) (ov : Nat → Int64) (ci pi mi fi : Int32) (hlt : l.stackTraces = false) (hF : nF ≤ 80) (hC12 : nC ≤ 12) (hck : ∀ k, ck k < 480) (hcf : ∀ k, cf k < 2 ^ 31) (hcd : ∀ k, cd k ≤ 4) (hcv : ∀ k, vOk (cv k)) (hwt : ∀ k, wOk (wt k)) (hCh : chOk ck cf cd hd nx nF) (hL8 : nL < 8) : Met l yL_doubt wsL_doubt ({ frames := 10, cells := 4, slots := 24, locals := 183 } : Room) (gP D cI cZ cO cL dt A [.ref (a 0), .int ci, .int pi, .int mi, .int fi, .ref ob] (fun H => va_P D vwCl (WD cI cO a FA nC nR nL nF par wt stk flw hd rea sig ++ (WF FA ck cf cd cv nx nF ++ ((ob, .inl (cL, 1, .inr (.inl ov))) :: R))) H ∧ va_D A (WD cI cO a FA nC nR nL nF par wt stk flw hd rea sig ++ (WF FA ck cf cd cv nx nF ++ ((ob, .inl (cL, 1, .inr (.inl ov))) :: R))))) (va_Qi (fun (k : Int32) (u : Nat → Int64) => (k = 0 ∧ ∃ r : Int32, u 0 = r.toInt64 ∧ (fun r => ∃ c p m f : Nat, kV nC nL ci pi mi fi c p m f ∧ ∃ j : Nat, hC ck cf cd nF (nI (c * 40 + p * 4 + m)) (nI f) = some j ∧ r = nI (10 ^ cd j)) r) ∨ (k = 1 ∧ kNo nC nL ci pi mi fi) ∨ (k = 2 ∧ ∃ c p m f : Nat, kV nC nL ci pi mi fi c p m f ∧ hC ck cf cd nF (nI (c * 40 + p * 4 + m)) (nI f) = none)) (fun u t => va_P D vwCl (WD cI cO a FA nC nR nL nF par wt stk flw hd rea sig ++ (WF FA ck cf cd cv nx nF ++ ((ob, .inl (cL, 1, .inr (.inl u))) :: R))) t.heap ∧ va_D A (WD cI cO a FA nC nR nL nF par wt stk flw hd rea sig ++ (WF FA ck cf cd cv nx nF ++ ((ob, .inl (cL, 1, .inr (.inl u))) :: R)))) A) 4 24 A := by
  refine va_MetW (cc := cL_doubt) (maxL := 7) (ret := some .int) (hh := [(0, 14, 17, 19), (0, 14, 21, 48)]) (by decide) rfl ?_
  intro p9 e9 s m9 args below meth c9 s₁ B hml hv
  obtain ⟨rfl, hg, hP, hD⟩ := hv
  have hx := B.exec
  have hb := B.bytes
  have hr := B.returns
  have hts := atoms_spec (ws := wsL_doubt) B.pre
  have htab : c9.exceptionTable.toList = tableOf [(0, 14, 17, 19), (0, 14, 21, 48)] := vx_table (x := yL_doubt) B (hts _ List.mem_cons_self)
  have hown : s.vm.findClass RL = some m9.cls := findClass_of_methodNamed B.named
  have hlocks := B.notSynchronized
  have hK := hg.1
  have hS : va_S A s.heap s.heap [] := va_S.rf
  have w_0 := hts (.classLink RL 19 "java/lang/IndexOutOfBoundsException") (by decide +kernel)
  have w_1 := hts (.classLink RL 48 "java/util/NoSuchElementException") (by decide +kernel)
  have hl := lv_entry ([.ref (a 0), .int ci, .int pi, .int mi, .int fi, .ref ob]) (n := 7) (Nat.le_of_ble_eq_true rfl)
  rw [lg_entry_eq]
  generalize (lg_sl ([.ref (a 0), .int ci, .int pi, .int mi, .int fi, .ref ob]) ++ List.replicate (7 - (lg_sl ([.ref (a 0), .int ci, .int pi, .int mi, .int fi, .ref ob])).length) Slot.unset).toArray = ls at hl ⊢
  have hl : lv_has ls 7 [(0, .ref (a 0)), (1, .int ci), (2, .int pi), (3, .int mi), (4, .int fi), (5, .ref ob)] := hl
  refine lv_aload hx hb dL_doubt_0 (lv_at hl 5 rfl) ?_
  refine lv_iconst (v := 0) hx hb dL_doubt_2 (by decide) ?_
  refine lv_aload_n hx hb dL_doubt_3 rfl (lv_at hl 0 rfl) ?_
  refine lv_iload_n hx hb dL_doubt_4 rfl (lv_at hl 1 rfl) ?_
  refine lv_iload_n hx hb dL_doubt_5 rfl (lv_at hl 2 rfl) ?_
  refine lv_iload_n hx hb dL_doubt_6 rfl (lv_at hl 3 rfl) ?_
  refine lv_iload hx hb dL_doubt_7 (lv_at hl 4 rfl) ?_
  refine vx_calli (vx_runV (As := [.int ci, .int pi, .int mi, .int fi]) (rest := [.int 0, .ref ob]) ⟨hx, hb, hml, hown, hts⟩ (vx_pure (c4_doubt l D cI cZ cO cL dt A a FA nC nR nL nF par wt stk flw hd rea sig ck cf cd cv nx ((ob, .inl (cL, 1, .inr (.inl ov))) :: R) ci pi mi fi hlt hF hC12 hck hcf hcd hcv hwt hCh hL8)) (cwV 4 hts gL_doubt_X4_doubt rfl rfl rfl (by decide +kernel) ⟨(Nat.le_of_ble_eq_true rfl), (Nat.le_of_ble_eq_true rfl)⟩) (gP.v hg hP 3 rfl 0 rfl ⟨hP, hD⟩) rfl rfl hl.1 rfl (lv_room (Nat.le_of_ble_eq_true rfl)) dL_doubt_9 ⟨(Nat.le_of_ble_eq_true rfl), (Nat.le_of_ble_eq_true rfl)⟩) hS (fun q _ h => h) (fun q h => h) (fun q _ h => h) (fun E9 ce9 q9 u9 t9 H9 locs9 ht9 hvm9 _ hB9 hz9 hk9 hS9 hc9 hv9 hf9 => ?_) (fun r x t H locs ht hvm hw hB hz hk hS => ?_)
  · skip
    obtain ⟨hE9, hP9, hD9⟩ := hB9
    rw [ht9] at hP9
    refine vx_widen (k := 4) (n := 24) (Nat.le_of_ble_eq_true rfl) (Nat.le_of_ble_eq_true rfl) ?_
    rcases hE9 with ⟨rfl, hR9⟩ | ⟨rfl, hR9⟩
    · skip
      refine vx_catch (name := "java/lang/IndexOutOfBoundsException") (E := "java/lang/IndexOutOfBoundsException") hown [] (⟨0, 14, 17, 19⟩ : ExceptionTableEntry) [(⟨0, 14, 21, 48⟩ : ExceptionTableEntry)] (htab.trans rfl) (fun z hz => absurd hz List.not_mem_nil) (by decide) (by decide) w_0 (gCast hg.2.1.2.2.2.2.2.2.2.2.1) hc9 hv9 hf9 ?_
      refine lv_astore (lv' := [(6, .ref q9), (0, .ref (a 0)), (1, .int ci), (2, .int pi), (3, .int mi), (4, .int fi), (5, .ref ob)]) hx hb dL_doubt_17 hl (by decide) rfl (fun ls hl => ?_)
      refine lv_iconst (v := 1) hx hb dL_doubt_19 (by decide) ?_
      exact W.iret (v := 1) hx hb hr (fun t ht hW => ⟨⟨1, ov, rfl, Or.inr (Or.inl ⟨rfl, hR9⟩), g_PD ht hP9 hD9⟩, hS9.F ht⟩) hS9.2.2 dL_doubt_20
    · skip
      refine vx_catch (name := "java/util/NoSuchElementException") (E := "java/util/NoSuchElementException") hown [(⟨0, 14, 17, 19⟩ : ExceptionTableEntry)] (⟨0, 14, 21, 48⟩ : ExceptionTableEntry) [] (htab.trans rfl) (fun z hz => by rw [List.mem_singleton.mp hz]; exact Or.inr ⟨by decide, "java/lang/IndexOutOfBoundsException", w_0, hg.2.1.2.2.2.2.2.2.2.2.2.2.2.2.2.1⟩) (by decide) (by decide) w_1 (gCast hg.2.1.2.2.2.2.2.2.2.2.2.1) hc9 hv9 hf9 ?_
      refine lv_astore (lv' := [(6, .ref q9), (0, .ref (a 0)), (1, .int ci), (2, .int pi), (3, .int mi), (4, .int fi), (5, .ref ob)]) hx hb dL_doubt_21 hl (by decide) rfl (fun ls hl => ?_)
      refine lv_iconst (v := 2) hx hb dL_doubt_23 (by decide) ?_
      exact W.iret (v := 2) hx hb hr (fun t ht hW => ⟨⟨2, ov, rfl, Or.inr (Or.inr (⟨rfl, hR9⟩)), g_PD ht hP9 hD9⟩, hS9.F ht⟩) hS9.2.2 dL_doubt_24
  rw [ht] at hB
  obtain ⟨hP, hD⟩ := hB
  refine W.widen (k := 4) (n := 24) (Nat.le_of_ble_eq_true rfl) (Nat.le_of_ble_eq_true rfl) ?_
  refine lv_i2l (v := (r).toInt64) hx hb dL_doubt_12 rfl ?_
  refine va_last hx hb hK hP hD hS (11 + nF) 3 (WDR_at) rfl e_in0 dL_doubt_13 (fun H locs hP hD hS => ?_)
  rw [WDR_set, e_z0] at hP hD
  refine lv_goto (tgt := 25) hx hb dL_doubt_14 (by decide) ?_
  refine lv_iconst (v := 0) hx hb dL_doubt_25 (by decide) ?_
  exact W.iret (v := 0) hx hb hr (fun t ht hW => ⟨⟨0, (vp_updL ov 0 ((r).toInt64)), rfl, Or.inl ⟨rfl, r, (e_u0 (f := ov) (v := (r).toInt64)), hw⟩, g_PD ht hP hD⟩, hS.F ht⟩) hS.2.2 dL_doubt_26
set_option maxHeartbeats 4000000 in
set_option maxRecDepth 100000 in
/-- sum, of the law -/
theorem kL_sum (l : Launch) (D : va_G) (cI cZ cO cL : ClassId) (dt : Nat) (A : Nat → Prop) (a FA : Nat → Nat) (nC nR nL nF : Nat) (par wt stk flw : Nat → Int32) (hd : Nat → Option Nat) (rea sig : Nat → Int32) (ck cf cd : Nat → Nat) (cv : Nat → Int32) (nx : Nat → Option Nat) (R : va_W) (ob : Nat) (ov : Nat → Int64) (ci pi mi fi : Int32) (hlt : l.stackTraces = false) (hF : nF ≤ 80) (hC12 : nC ≤ 12) (hck : ∀ k, ck k < 480) (hcf : ∀ k, cf k < 2 ^ 31) (hcd : ∀ k, cd k ≤ 4) (hcv : ∀ k, vOk (cv k)) (hwt : ∀ k, wOk (wt k)) (hCh : chOk ck cf cd hd nx nF) (hL8 : nL < 8) : Met l yL_sum wsL_sum ({ frames := 9, cells := 3, slots := 18, locals := 161 } : Room) (gP D cI cZ cO cL dt A [.ref (a 0), .int ci, .int pi, .int mi, .int fi, .ref ob] (fun H => va_P D vwCl (WD cI cO a FA nC nR nL nF par wt stk flw hd rea sig ++ (WF FA ck cf cd cv nx nF ++ ((ob, .inl (cL, 1, .inr (.inl ov))) :: R))) H ∧ va_D A (WD cI cO a FA nC nR nL nF par wt stk flw hd rea sig ++ (WF FA ck cf cd cv nx nF ++ ((ob, .inl (cL, 1, .inr (.inl ov))) :: R))))) (va_Qi (fun (k : Int32) (u : Nat → Int64) => (k = 0 ∧ ∃ r : Int32, u 0 = r.toInt64 ∧ (fun r => ∃ c p m f : Nat, kV nC nL ci pi mi fi c p m f ∧ r = sumN par wt (fun k => hC ck cf cd nF (nI (k * 40 + p * 4 + m)) (nI f)) cv (nI c) nC) r) ∨ (k = 1 ∧ kNo nC nL ci pi mi fi)) (fun u t => va_P D vwCl (WD cI cO a FA nC nR nL nF par wt stk flw hd rea sig ++ (WF FA ck cf cd cv nx nF ++ ((ob, .inl (cL, 1, .inr (.inl u))) :: R))) t.heap ∧ va_D A (WD cI cO a FA nC nR nL nF par wt stk flw hd rea sig ++ (WF FA ck cf cd cv nx nF ++ ((ob, .inl (cL, 1, .inr (.inl u))) :: R)))) A) 3 18 A := by
  refine va_MetW (cc := cL_sum) (maxL := 7) (ret := some .int) (hh := [(0, 14, 17, 19)]) (by decide) rfl ?_
  intro p9 e9 s m9 args below meth c9 s₁ B hml hv
  obtain ⟨rfl, hg, hP, hD⟩ := hv
  have hx := B.exec
  have hb := B.bytes
  have hr := B.returns
  have hts := atoms_spec (ws := wsL_sum) B.pre
  have htab : c9.exceptionTable.toList = tableOf [(0, 14, 17, 19)] := vx_table (x := yL_sum) B (hts _ List.mem_cons_self)
  have hown : s.vm.findClass RL = some m9.cls := findClass_of_methodNamed B.named
  have hlocks := B.notSynchronized
  have hK := hg.1
  have hS : va_S A s.heap s.heap [] := va_S.rf
  have w_0 := hts (.classLink RL 19 "java/lang/IndexOutOfBoundsException") (by decide +kernel)
  have hl := lv_entry ([.ref (a 0), .int ci, .int pi, .int mi, .int fi, .ref ob]) (n := 7) (Nat.le_of_ble_eq_true rfl)
  rw [lg_entry_eq]
  generalize (lg_sl ([.ref (a 0), .int ci, .int pi, .int mi, .int fi, .ref ob]) ++ List.replicate (7 - (lg_sl ([.ref (a 0), .int ci, .int pi, .int mi, .int fi, .ref ob])).length) Slot.unset).toArray = ls at hl ⊢
  have hl : lv_has ls 7 [(0, .ref (a 0)), (1, .int ci), (2, .int pi), (3, .int mi), (4, .int fi), (5, .ref ob)] := hl
  refine lv_aload hx hb dL_sum_0 (lv_at hl 5 rfl) ?_
  refine lv_iconst (v := 0) hx hb dL_sum_2 (by decide) ?_
  refine lv_aload_n hx hb dL_sum_3 rfl (lv_at hl 0 rfl) ?_
  refine lv_iload_n hx hb dL_sum_4 rfl (lv_at hl 1 rfl) ?_
  refine lv_iload_n hx hb dL_sum_5 rfl (lv_at hl 2 rfl) ?_
  refine lv_iload_n hx hb dL_sum_6 rfl (lv_at hl 3 rfl) ?_
  refine lv_iload hx hb dL_sum_7 (lv_at hl 4 rfl) ?_
  refine vx_calli (vx_runV (As := [.int ci, .int pi, .int mi, .int fi]) (rest := [.int 0, .ref ob]) ⟨hx, hb, hml, hown, hts⟩ (vx_pure (c4_sum l D cI cZ cO cL dt A a FA nC nR nL nF par wt stk flw hd rea sig ck cf cd cv nx ((ob, .inl (cL, 1, .inr (.inl ov))) :: R) ci pi mi fi hlt hF hC12 hck hcf hcd hcv hwt hCh hL8)) (cwV 4 hts gL_sum_X4_sum rfl rfl rfl (by decide +kernel) ⟨(Nat.le_of_ble_eq_true rfl), (Nat.le_of_ble_eq_true rfl)⟩) (gP.v hg hP 3 rfl 0 rfl ⟨hP, hD⟩) rfl rfl hl.1 rfl (lv_room (Nat.le_of_ble_eq_true rfl)) dL_sum_9 ⟨(Nat.le_of_ble_eq_true rfl), (Nat.le_of_ble_eq_true rfl)⟩) hS (fun q _ h => h) (fun q h => h) (fun q _ h => h) (fun E9 ce9 q9 u9 t9 H9 locs9 ht9 hvm9 _ hB9 hz9 hk9 hS9 hc9 hv9 hf9 => ?_) (fun r x t H locs ht hvm hw hB hz hk hS => ?_)
  · skip
    obtain ⟨hE9, hP9, hD9⟩ := hB9
    rw [ht9] at hP9
    refine vx_widen (k := 3) (n := 18) (Nat.le_of_ble_eq_true rfl) (Nat.le_of_ble_eq_true rfl) ?_
    rcases hE9 with ⟨rfl, hR9⟩
    · skip
      refine vx_catch (name := "java/lang/IndexOutOfBoundsException") (E := "java/lang/IndexOutOfBoundsException") hown [] (⟨0, 14, 17, 19⟩ : ExceptionTableEntry) [] (htab.trans rfl) (fun z hz => absurd hz List.not_mem_nil) (by decide) (by decide) w_0 (gCast hg.2.1.2.2.2.2.2.2.2.2.1) hc9 hv9 hf9 ?_
      refine lv_astore (lv' := [(6, .ref q9), (0, .ref (a 0)), (1, .int ci), (2, .int pi), (3, .int mi), (4, .int fi), (5, .ref ob)]) hx hb dL_sum_17 hl (by decide) rfl (fun ls hl => ?_)
      refine lv_iconst (v := 1) hx hb dL_sum_19 (by decide) ?_
      exact W.iret (v := 1) hx hb hr (fun t ht hW => ⟨⟨1, ov, rfl, Or.inr (⟨rfl, hR9⟩), g_PD ht hP9 hD9⟩, hS9.F ht⟩) hS9.2.2 dL_sum_20
  rw [ht] at hB
  obtain ⟨hP, hD⟩ := hB
  refine W.widen (k := 3) (n := 18) (Nat.le_of_ble_eq_true rfl) (Nat.le_of_ble_eq_true rfl) ?_
  refine lv_i2l (v := (r).toInt64) hx hb dL_sum_12 rfl ?_
  refine va_last hx hb hK hP hD hS (11 + nF) 3 (WDR_at) rfl e_in0 dL_sum_13 (fun H locs hP hD hS => ?_)
  rw [WDR_set, e_z0] at hP hD
  refine lv_goto (tgt := 21) hx hb dL_sum_14 (by decide) ?_
  refine lv_iconst (v := 0) hx hb dL_sum_21 (by decide) ?_
  exact W.iret (v := 0) hx hb hr (fun t ht hW => ⟨⟨0, (vp_updL ov 0 ((r).toInt64)), rfl, Or.inl ⟨rfl, r, (e_u0 (f := ov) (v := (r).toInt64)), hw⟩, g_PD ht hP hD⟩, hS.F ht⟩) hS.2.2 dL_sum_22
set_option maxHeartbeats 4000000 in
set_option maxRecDepth 100000 in
/-- derived, of the law -/
theorem kL_derived (l : Launch) (D : va_G) (cI cZ cO cL : ClassId) (dt : Nat) (A : Nat → Prop) (a FA : Nat → Nat) (nC nR nL nF : Nat) (par wt stk flw : Nat → Int32) (hd : Nat → Option Nat) (rea sig : Nat → Int32) (ck cf cd : Nat → Nat) (cv : Nat → Int32) (nx : Nat → Option Nat) (R : va_W) (ob : Nat) (ov : Nat → Int64) (L : List Nat) (ci pi mi fi : Int32) (hlt : l.stackTraces = false) (hC12 : nC ≤ 12) (hL8 : nL < 8) (hck : ∀ k, ck k < 480) (hcf : ∀ k, cf k < 2 ^ 31) (hcd : ∀ k, cd k ≤ 4) (hCh : chOk ck cf cd hd nx nF) (hF : nF ≤ 80) (hT : tree nC par L) : Met l yL_derived wsL_derived ({ frames := 9, cells := 4, slots := 24, locals := 163 } : Room) (gP D cI cZ cO cL dt A [.ref (a 0), .int ci, .int pi, .int mi, .int fi, .ref ob] (fun H => va_P D vwCl (WD cI cO a FA nC nR nL nF par wt stk flw hd rea sig ++ (WF FA ck cf cd cv nx nF ++ ((ob, .inl (cL, 1, .inr (.inl ov))) :: R))) H ∧ va_D A (WD cI cO a FA nC nR nL nF par wt stk flw hd rea sig ++ (WF FA ck cf cd cv nx nF ++ ((ob, .inl (cL, 1, .inr (.inl ov))) :: R))))) (va_Qi (fun (k : Int32) (u : (Nat → Int64) × ((Nat → Int32) × (Nat → Int32))) => (k = 0 ∧ ∃ (r : Int32) (x : ((Nat × Nat) × (Nat × Nat)) × ((Nat → Int32) × (Nat → Int32))), x.2 = u.2 ∧ u.1 0 = r.toInt64 ∧ (fun (r : Int32) (u : ((Nat × Nat) × (Nat × Nat)) × ((Nat → Int32) × (Nat → Int32))) => kV nC nL ci pi mi fi u.1.1.1 u.1.1.2 u.1.2.1 u.1.2.2 ∧ dV nC par wt (fun k => hC ck cf cd nF (nI (k * 40 + u.1.1.2 * 4 + u.1.2.1)) (nI u.1.2.2)) cv u.1.1.1 = some r) r x) ∨ (k = 1 ∧ kNo nC nL ci pi mi fi) ∨ (k = 2 ∧ ∃ c p m f : Nat, kV nC nL ci pi mi fi c p m f ∧ dV nC par wt (fun k => hC ck cf cd nF (nI (k * 40 + p * 4 + m)) (nI f)) cv c = none)) (fun u t => va_P D vwCl (WD cI cO a FA nC nR nL nF par wt stk flw hd u.2.1 u.2.2 ++ (WF FA ck cf cd cv nx nF ++ ((ob, .inl (cL, 1, .inr (.inl u.1))) :: R))) t.heap ∧ va_D A (WD cI cO a FA nC nR nL nF par wt stk flw hd u.2.1 u.2.2 ++ (WF FA ck cf cd cv nx nF ++ ((ob, .inl (cL, 1, .inr (.inl u.1))) :: R)))) A) 4 24 A := by
  refine va_MetW (cc := cL_derived) (maxL := 7) (ret := some .int) (hh := [(0, 14, 17, 19), (0, 14, 21, 48)]) (by decide) rfl ?_
  intro p9 e9 s m9 args below meth c9 s₁ B hml hv
  obtain ⟨rfl, hg, hP, hD⟩ := hv
  have hx := B.exec
  have hb := B.bytes
  have hr := B.returns
  have hts := atoms_spec (ws := wsL_derived) B.pre
  have htab : c9.exceptionTable.toList = tableOf [(0, 14, 17, 19), (0, 14, 21, 48)] := vx_table (x := yL_derived) B (hts _ List.mem_cons_self)
  have hown : s.vm.findClass RL = some m9.cls := findClass_of_methodNamed B.named
  have hlocks := B.notSynchronized
  have hK := hg.1
  have hS : va_S A s.heap s.heap [] := va_S.rf
  have w_0 := hts (.classLink RL 19 "java/lang/IndexOutOfBoundsException") (by decide +kernel)
  have w_1 := hts (.classLink RL 48 "java/util/NoSuchElementException") (by decide +kernel)
  have hl := lv_entry ([.ref (a 0), .int ci, .int pi, .int mi, .int fi, .ref ob]) (n := 7) (Nat.le_of_ble_eq_true rfl)
  rw [lg_entry_eq]
  generalize (lg_sl ([.ref (a 0), .int ci, .int pi, .int mi, .int fi, .ref ob]) ++ List.replicate (7 - (lg_sl ([.ref (a 0), .int ci, .int pi, .int mi, .int fi, .ref ob])).length) Slot.unset).toArray = ls at hl ⊢
  have hl : lv_has ls 7 [(0, .ref (a 0)), (1, .int ci), (2, .int pi), (3, .int mi), (4, .int fi), (5, .ref ob)] := hl
  refine lv_aload hx hb dL_derived_0 (lv_at hl 5 rfl) ?_
  refine lv_iconst (v := 0) hx hb dL_derived_2 (by decide) ?_
  refine lv_aload_n hx hb dL_derived_3 rfl (lv_at hl 0 rfl) ?_
  refine lv_iload_n hx hb dL_derived_4 rfl (lv_at hl 1 rfl) ?_
  refine lv_iload_n hx hb dL_derived_5 rfl (lv_at hl 2 rfl) ?_
  refine lv_iload_n hx hb dL_derived_6 rfl (lv_at hl 3 rfl) ?_
  refine lv_iload hx hb dL_derived_7 (lv_at hl 4 rfl) ?_
  refine vx_calli (vx_runV (As := [.int ci, .int pi, .int mi, .int fi]) (rest := [.int 0, .ref ob]) ⟨hx, hb, hml, hown, hts⟩ (vx_same (c4_derived l D cI cZ cO cL dt A a FA nC nR nL nF par wt stk flw hd rea sig ck cf cd cv nx ((ob, .inl (cL, 1, .inr (.inl ov))) :: R) L ci pi mi fi hlt hC12 hL8 hck hcf hcd hCh hF hT)) (cwV 4 hts gL_derived_X4_derived rfl rfl rfl (by decide +kernel) ⟨(Nat.le_of_ble_eq_true rfl), (Nat.le_of_ble_eq_true rfl)⟩) (gP.v hg hP 3 rfl 0 rfl ⟨hP, hD⟩) rfl rfl hl.1 rfl (lv_room (Nat.le_of_ble_eq_true rfl)) dL_derived_9 ⟨(Nat.le_of_ble_eq_true rfl), (Nat.le_of_ble_eq_true rfl)⟩) hS (fun q _ h => h) (fun q h => h) (fun q _ h => h) (fun E9 ce9 q9 u9 t9 H9 locs9 ht9 hvm9 _ hB9 hz9 hk9 hS9 hc9 hv9 hf9 => ?_) (fun r x t H locs ht hvm hw hB hz hk hS => ?_)
  · skip
    obtain ⟨hE9, hP9, hD9⟩ := hB9
    rw [ht9] at hP9
    refine vx_widen (k := 4) (n := 24) (Nat.le_of_ble_eq_true rfl) (Nat.le_of_ble_eq_true rfl) ?_
    rcases hE9 with ⟨rfl, hR9⟩ | ⟨rfl, hR9⟩
    · skip
      refine vx_catch (name := "java/lang/IndexOutOfBoundsException") (E := "java/lang/IndexOutOfBoundsException") hown [] (⟨0, 14, 17, 19⟩ : ExceptionTableEntry) [(⟨0, 14, 21, 48⟩ : ExceptionTableEntry)] (htab.trans rfl) (fun z hz => absurd hz List.not_mem_nil) (by decide) (by decide) w_0 (gCast hg.2.1.2.2.2.2.2.2.2.2.1) hc9 hv9 hf9 ?_
      refine lv_astore (lv' := [(6, .ref q9), (0, .ref (a 0)), (1, .int ci), (2, .int pi), (3, .int mi), (4, .int fi), (5, .ref ob)]) hx hb dL_derived_17 hl (by decide) rfl (fun ls hl => ?_)
      refine lv_iconst (v := 1) hx hb dL_derived_19 (by decide) ?_
      exact W.iret (v := 1) hx hb hr (fun t ht hW => ⟨⟨1, (ov, u9), rfl, Or.inr (Or.inl ⟨rfl, hR9⟩), g_PD ht hP9 hD9⟩, hS9.F ht⟩) hS9.2.2 dL_derived_20
    · skip
      refine vx_catch (name := "java/util/NoSuchElementException") (E := "java/util/NoSuchElementException") hown [(⟨0, 14, 17, 19⟩ : ExceptionTableEntry)] (⟨0, 14, 21, 48⟩ : ExceptionTableEntry) [] (htab.trans rfl) (fun z hz => by rw [List.mem_singleton.mp hz]; exact Or.inr ⟨by decide, "java/lang/IndexOutOfBoundsException", w_0, hg.2.1.2.2.2.2.2.2.2.2.2.2.2.2.2.1⟩) (by decide) (by decide) w_1 (gCast hg.2.1.2.2.2.2.2.2.2.2.2.1) hc9 hv9 hf9 ?_
      refine lv_astore (lv' := [(6, .ref q9), (0, .ref (a 0)), (1, .int ci), (2, .int pi), (3, .int mi), (4, .int fi), (5, .ref ob)]) hx hb dL_derived_21 hl (by decide) rfl (fun ls hl => ?_)
      refine lv_iconst (v := 2) hx hb dL_derived_23 (by decide) ?_
      exact W.iret (v := 2) hx hb hr (fun t ht hW => ⟨⟨2, (ov, u9), rfl, Or.inr (Or.inr (⟨rfl, hR9⟩)), g_PD ht hP9 hD9⟩, hS9.F ht⟩) hS9.2.2 dL_derived_24
  rw [ht] at hB
  obtain ⟨hP, hD⟩ := hB
  refine W.widen (k := 4) (n := 24) (Nat.le_of_ble_eq_true rfl) (Nat.le_of_ble_eq_true rfl) ?_
  refine lv_i2l (v := (r).toInt64) hx hb dL_derived_12 rfl ?_
  refine va_last hx hb hK hP hD hS (11 + nF) 3 (WDR_at) rfl e_in0 dL_derived_13 (fun H locs hP hD hS => ?_)
  rw [WDR_set, e_z0] at hP hD
  refine lv_goto (tgt := 25) hx hb dL_derived_14 (by decide) ?_
  refine lv_iconst (v := 0) hx hb dL_derived_25 (by decide) ?_
  exact W.iret (v := 0) hx hb hr (fun t ht hW => ⟨⟨0, ((vp_updL ov 0 ((r).toInt64)), x.2), rfl, Or.inl ⟨rfl, r, x, rfl, (e_u0 (f := ov) (v := (r).toInt64)), hw⟩, g_PD ht hP hD⟩, hS.F ht⟩) hS.2.2 dL_derived_26
set_option maxHeartbeats 4000000 in
set_option maxRecDepth 100000 in
/-- isSumOff, of the law -/
theorem kL_isSumOff (l : Launch) (D : va_G) (cI cZ cO cL : ClassId) (dt : Nat) (A : Nat → Prop) (a FA : Nat → Nat) (nC nR nL nF : Nat) (par wt stk flw : Nat → Int32) (hd : Nat → Option Nat) (rea sig : Nat → Int32) (ck cf cd : Nat → Nat) (cv : Nat → Int32) (nx : Nat → Option Nat) (R : va_W) (ob : Nat) (ov : Nat → Int64) (ci pi mi fi : Int32) (hlt : l.stackTraces = false) (hF : nF ≤ 80) (hC12 : nC ≤ 12) (hck : ∀ k, ck k < 480) (hcf : ∀ k, cf k < 2 ^ 31) (hcd : ∀ k, cd k ≤ 4) (hcv : ∀ k, vOk (cv k)) (hwt : ∀ k, wOk (wt k)) (hCh : chOk ck cf cd hd nx nF) (hL8 : nL < 8) : Met l yL_isSumOff wsL_isSumOff ({ frames := 9, cells := 3, slots := 18, locals := 158 } : Room) (gP D cI cZ cO cL dt A [.ref (a 0), .int ci, .int pi, .int mi, .int fi, .ref ob] (fun H => va_P D vwCl (WD cI cO a FA nC nR nL nF par wt stk flw hd rea sig ++ (WF FA ck cf cd cv nx nF ++ ((ob, .inl (cL, 1, .inr (.inl ov))) :: R))) H ∧ va_D A (WD cI cO a FA nC nR nL nF par wt stk flw hd rea sig ++ (WF FA ck cf cd cv nx nF ++ ((ob, .inl (cL, 1, .inr (.inl ov))) :: R))))) (va_Qi (fun (k : Int32) (u : Nat → Int64) => (k = 0 ∧ ∃ r : Int32, u 0 = (if r = 0 then 0 else 1 : Int64) ∧ (fun r => ∃ c p m f : Nat, kV nC nL ci pi mi fi c p m f ∧ r = bI (sumOff nC par wt (fun k => hC ck cf cd nF (nI (k * 40 + p * 4 + m)) (nI f)) cd cv (nI c) (hC ck cf cd nF (nI (c * 40 + p * 4 + m)) (nI f)) = true)) r) ∨ (k = 1 ∧ kNo nC nL ci pi mi fi)) (fun u t => va_P D vwCl (WD cI cO a FA nC nR nL nF par wt stk flw hd rea sig ++ (WF FA ck cf cd cv nx nF ++ ((ob, .inl (cL, 1, .inr (.inl u))) :: R))) t.heap ∧ va_D A (WD cI cO a FA nC nR nL nF par wt stk flw hd rea sig ++ (WF FA ck cf cd cv nx nF ++ ((ob, .inl (cL, 1, .inr (.inl u))) :: R)))) A) 3 18 A := by
  refine va_MetW (cc := cL_isSumOff) (maxL := 7) (ret := some .int) (hh := [(0, 21, 24, 19)]) (by decide) rfl ?_
  intro p9 e9 s m9 args below meth c9 s₁ B hml hv
  obtain ⟨rfl, hg, hP, hD⟩ := hv
  have hx := B.exec
  have hb := B.bytes
  have hr := B.returns
  have hts := atoms_spec (ws := wsL_isSumOff) B.pre
  have htab : c9.exceptionTable.toList = tableOf [(0, 21, 24, 19)] := vx_table (x := yL_isSumOff) B (hts _ List.mem_cons_self)
  have hown : s.vm.findClass RL = some m9.cls := findClass_of_methodNamed B.named
  have hlocks := B.notSynchronized
  have hK := hg.1
  have hS : va_S A s.heap s.heap [] := va_S.rf
  have w_0 := hts (.classLink RL 19 "java/lang/IndexOutOfBoundsException") (by decide +kernel)
  have hl := lv_entry ([.ref (a 0), .int ci, .int pi, .int mi, .int fi, .ref ob]) (n := 7) (Nat.le_of_ble_eq_true rfl)
  rw [lg_entry_eq]
  generalize (lg_sl ([.ref (a 0), .int ci, .int pi, .int mi, .int fi, .ref ob]) ++ List.replicate (7 - (lg_sl ([.ref (a 0), .int ci, .int pi, .int mi, .int fi, .ref ob])).length) Slot.unset).toArray = ls at hl ⊢
  have hl : lv_has ls 7 [(0, .ref (a 0)), (1, .int ci), (2, .int pi), (3, .int mi), (4, .int fi), (5, .ref ob)] := hl
  refine lv_aload hx hb dL_isSumOff_0 (lv_at hl 5 rfl) ?_
  refine lv_iconst (v := 0) hx hb dL_isSumOff_2 (by decide) ?_
  refine lv_aload_n hx hb dL_isSumOff_3 rfl (lv_at hl 0 rfl) ?_
  refine lv_iload_n hx hb dL_isSumOff_4 rfl (lv_at hl 1 rfl) ?_
  refine lv_iload_n hx hb dL_isSumOff_5 rfl (lv_at hl 2 rfl) ?_
  refine lv_iload_n hx hb dL_isSumOff_6 rfl (lv_at hl 3 rfl) ?_
  refine lv_iload hx hb dL_isSumOff_7 (lv_at hl 4 rfl) ?_
  refine vx_calli (vx_runV (As := [.int ci, .int pi, .int mi, .int fi]) (rest := [.int 0, .ref ob]) ⟨hx, hb, hml, hown, hts⟩ (vx_pure (c4_isSumOff l D cI cZ cO cL dt A a FA nC nR nL nF par wt stk flw hd rea sig ck cf cd cv nx ((ob, .inl (cL, 1, .inr (.inl ov))) :: R) ci pi mi fi hlt hF hC12 hck hcf hcd hcv hwt hCh hL8)) (cwV 4 hts gL_isSumOff_X4_isSumOff rfl rfl rfl (by decide +kernel) ⟨(Nat.le_of_ble_eq_true rfl), (Nat.le_of_ble_eq_true rfl)⟩) (gP.v hg hP 3 rfl 0 rfl ⟨hP, hD⟩) rfl rfl hl.1 rfl (lv_room (Nat.le_of_ble_eq_true rfl)) dL_isSumOff_9 ⟨(Nat.le_of_ble_eq_true rfl), (Nat.le_of_ble_eq_true rfl)⟩) hS (fun q _ h => h) (fun q h => h) (fun q _ h => h) (fun E9 ce9 q9 u9 t9 H9 locs9 ht9 hvm9 _ hB9 hz9 hk9 hS9 hc9 hv9 hf9 => ?_) (fun r x t H locs ht hvm hw hB hz hk hS => ?_)
  · skip
    obtain ⟨hE9, hP9, hD9⟩ := hB9
    rw [ht9] at hP9
    refine vx_widen (k := 3) (n := 18) (Nat.le_of_ble_eq_true rfl) (Nat.le_of_ble_eq_true rfl) ?_
    rcases hE9 with ⟨rfl, hR9⟩
    · skip
      refine vx_catch (name := "java/lang/IndexOutOfBoundsException") (E := "java/lang/IndexOutOfBoundsException") hown [] (⟨0, 21, 24, 19⟩ : ExceptionTableEntry) [] (htab.trans rfl) (fun z hz => absurd hz List.not_mem_nil) (by decide) (by decide) w_0 (gCast hg.2.1.2.2.2.2.2.2.2.2.1) hc9 hv9 hf9 ?_
      refine lv_astore (lv' := [(6, .ref q9), (0, .ref (a 0)), (1, .int ci), (2, .int pi), (3, .int mi), (4, .int fi), (5, .ref ob)]) hx hb dL_isSumOff_24 hl (by decide) rfl (fun ls hl => ?_)
      refine lv_iconst (v := 1) hx hb dL_isSumOff_26 (by decide) ?_
      exact W.iret (v := 1) hx hb hr (fun t ht hW => ⟨⟨1, ov, rfl, Or.inr (⟨rfl, hR9⟩), g_PD ht hP9 hD9⟩, hS9.F ht⟩) hS9.2.2 dL_isSumOff_27
  rw [ht] at hB
  obtain ⟨hP, hD⟩ := hB
  refine W.widen (k := 3) (n := 18) (Nat.le_of_ble_eq_true rfl) (Nat.le_of_ble_eq_true rfl) ?_
  refine lv_if_eq (tgt := 19) hx hb dL_isSumOff_12 (by decide) (fun c_12 => ?_) (fun c_12 => ?_)
  · skip
    refine lv_lconst (v := 0) hx hb dL_isSumOff_19 (by decide) ?_
    refine va_last hx hb hK hP hD hS (11 + nF) 3 (WDR_at) rfl e_in0 dL_isSumOff_20 (fun H locs hP hD hS => ?_)
    rw [WDR_set, e_z0] at hP hD
    refine lv_goto (tgt := 28) hx hb dL_isSumOff_21 (by decide) ?_
    refine lv_iconst (v := 0) hx hb dL_isSumOff_28 (by decide) ?_
    exact W.iret (v := 0) hx hb hr (fun t ht hW => ⟨⟨0, (vp_updL ov 0 (0)), rfl, Or.inl ⟨rfl, r, ((e_u0 (f := ov) (v := 0)).trans (if_pos c_12).symm), hw⟩, g_PD ht hP hD⟩, hS.F ht⟩) hS.2.2 dL_isSumOff_29
  · skip
    refine lv_lconst (v := 1) hx hb dL_isSumOff_15 (by decide) ?_
    refine lv_goto (tgt := 20) hx hb dL_isSumOff_16 (by decide) ?_
    refine va_last hx hb hK hP hD hS (11 + nF) 3 (WDR_at) rfl e_in0 dL_isSumOff_20 (fun H locs hP hD hS => ?_)
    rw [WDR_set, e_z0] at hP hD
    refine lv_goto (tgt := 28) hx hb dL_isSumOff_21 (by decide) ?_
    refine lv_iconst (v := 0) hx hb dL_isSumOff_28 (by decide) ?_
    exact W.iret (v := 0) hx hb hr (fun t ht hW => ⟨⟨0, (vp_updL ov 0 (1)), rfl, Or.inl ⟨rfl, r, ((e_u0 (f := ov) (v := 1)).trans (if_neg c_12).symm), hw⟩, g_PD ht hP hD⟩, hS.F ht⟩) hS.2.2 dL_isSumOff_29
set_option maxHeartbeats 4000000 in
set_option maxRecDepth 100000 in
/-- areMembersOff, of the law -/
theorem kL_areMembersOff (l : Launch) (D : va_G) (cI cZ cO cL : ClassId) (dt : Nat) (A : Nat → Prop) (a FA : Nat → Nat) (nC nR nL nF : Nat) (par wt stk flw : Nat → Int32) (hd : Nat → Option Nat) (rea sig : Nat → Int32) (ck cf cd : Nat → Nat) (cv : Nat → Int32) (nx : Nat → Option Nat) (R : va_W) (ob : Nat) (ov : Nat → Int64) (ci pi fi : Int32) (hlt : l.stackTraces = false) (hF : nF ≤ 80) (hC12 : nC ≤ 12) (hck : ∀ k, ck k < 480) (hcf : ∀ k, cf k < 2 ^ 31) (hcd : ∀ k, cd k ≤ 4) (hcv : ∀ k, vOk (cv k)) (hwt : ∀ k, wOk (wt k)) (hCh : chOk ck cf cd hd nx nF) (hL8 : nL < 8) : Met l yL_areMembersOff wsL_areMembersOff ({ frames := 9, cells := 3, slots := 18, locals := 157 } : Room) (gP D cI cZ cO cL dt A [.ref (a 0), .int ci, .int pi, .int fi, .ref ob] (fun H => va_P D vwCl (WD cI cO a FA nC nR nL nF par wt stk flw hd rea sig ++ (WF FA ck cf cd cv nx nF ++ ((ob, .inl (cL, 1, .inr (.inl ov))) :: R))) H ∧ va_D A (WD cI cO a FA nC nR nL nF par wt stk flw hd rea sig ++ (WF FA ck cf cd cv nx nF ++ ((ob, .inl (cL, 1, .inr (.inl ov))) :: R))))) (va_Qi (fun (k : Int32) (u : Nat → Int64) => (k = 0 ∧ ∃ r : Int32, u 0 = (if r = 0 then 0 else 1 : Int64) ∧ (fun r => ∃ c p f : Nat, kV nC nL ci pi 0 fi c p 0 f ∧ r = bI (memOff (fun q => hC ck cf cd nF (nI (c * 40 + p * 4 + q)) (nI f)) cd cv = true)) r) ∨ (k = 1 ∧ kNo nC nL ci pi 0 fi)) (fun u t => va_P D vwCl (WD cI cO a FA nC nR nL nF par wt stk flw hd rea sig ++ (WF FA ck cf cd cv nx nF ++ ((ob, .inl (cL, 1, .inr (.inl u))) :: R))) t.heap ∧ va_D A (WD cI cO a FA nC nR nL nF par wt stk flw hd rea sig ++ (WF FA ck cf cd cv nx nF ++ ((ob, .inl (cL, 1, .inr (.inl u))) :: R)))) A) 3 18 A := by
  refine va_MetW (cc := cL_areMembersOff) (maxL := 6) (ret := some .int) (hh := [(0, 19, 22, 19)]) (by decide) rfl ?_
  intro p9 e9 s m9 args below meth c9 s₁ B hml hv
  obtain ⟨rfl, hg, hP, hD⟩ := hv
  have hx := B.exec
  have hb := B.bytes
  have hr := B.returns
  have hts := atoms_spec (ws := wsL_areMembersOff) B.pre
  have htab : c9.exceptionTable.toList = tableOf [(0, 19, 22, 19)] := vx_table (x := yL_areMembersOff) B (hts _ List.mem_cons_self)
  have hown : s.vm.findClass RL = some m9.cls := findClass_of_methodNamed B.named
  have hlocks := B.notSynchronized
  have hK := hg.1
  have hS : va_S A s.heap s.heap [] := va_S.rf
  have w_0 := hts (.classLink RL 19 "java/lang/IndexOutOfBoundsException") (by decide +kernel)
  have hl := lv_entry ([.ref (a 0), .int ci, .int pi, .int fi, .ref ob]) (n := 6) (Nat.le_of_ble_eq_true rfl)
  rw [lg_entry_eq]
  generalize (lg_sl ([.ref (a 0), .int ci, .int pi, .int fi, .ref ob]) ++ List.replicate (6 - (lg_sl ([.ref (a 0), .int ci, .int pi, .int fi, .ref ob])).length) Slot.unset).toArray = ls at hl ⊢
  have hl : lv_has ls 6 [(0, .ref (a 0)), (1, .int ci), (2, .int pi), (3, .int fi), (4, .ref ob)] := hl
  refine lv_aload hx hb dL_areMembersOff_0 (lv_at hl 4 rfl) ?_
  refine lv_iconst (v := 0) hx hb dL_areMembersOff_2 (by decide) ?_
  refine lv_aload_n hx hb dL_areMembersOff_3 rfl (lv_at hl 0 rfl) ?_
  refine lv_iload_n hx hb dL_areMembersOff_4 rfl (lv_at hl 1 rfl) ?_
  refine lv_iload_n hx hb dL_areMembersOff_5 rfl (lv_at hl 2 rfl) ?_
  refine lv_iload_n hx hb dL_areMembersOff_6 rfl (lv_at hl 3 rfl) ?_
  refine vx_calli (vx_runV (As := [.int ci, .int pi, .int fi]) (rest := [.int 0, .ref ob]) ⟨hx, hb, hml, hown, hts⟩ (vx_pure (c4_areMembersOff l D cI cZ cO cL dt A a FA nC nR nL nF par wt stk flw hd rea sig ck cf cd cv nx ((ob, .inl (cL, 1, .inr (.inl ov))) :: R) ci pi fi hlt hF hC12 hck hcf hcd hcv hwt hCh hL8)) (cwV 3 hts gL_areMembersOff_X4_areMembersOff rfl rfl rfl (by decide +kernel) ⟨(Nat.le_of_ble_eq_true rfl), (Nat.le_of_ble_eq_true rfl)⟩) (gP.v hg hP 3 rfl 0 rfl ⟨hP, hD⟩) rfl rfl hl.1 rfl (lv_room (Nat.le_of_ble_eq_true rfl)) dL_areMembersOff_7 ⟨(Nat.le_of_ble_eq_true rfl), (Nat.le_of_ble_eq_true rfl)⟩) hS (fun q _ h => h) (fun q h => h) (fun q _ h => h) (fun E9 ce9 q9 u9 t9 H9 locs9 ht9 hvm9 _ hB9 hz9 hk9 hS9 hc9 hv9 hf9 => ?_) (fun r x t H locs ht hvm hw hB hz hk hS => ?_)
  · skip
    obtain ⟨hE9, hP9, hD9⟩ := hB9
    rw [ht9] at hP9
    refine vx_widen (k := 3) (n := 18) (Nat.le_of_ble_eq_true rfl) (Nat.le_of_ble_eq_true rfl) ?_
    rcases hE9 with ⟨rfl, hR9⟩
    · skip
      refine vx_catch (name := "java/lang/IndexOutOfBoundsException") (E := "java/lang/IndexOutOfBoundsException") hown [] (⟨0, 19, 22, 19⟩ : ExceptionTableEntry) [] (htab.trans rfl) (fun z hz => absurd hz List.not_mem_nil) (by decide) (by decide) w_0 (gCast hg.2.1.2.2.2.2.2.2.2.2.1) hc9 hv9 hf9 ?_
      refine lv_astore (lv' := [(5, .ref q9), (0, .ref (a 0)), (1, .int ci), (2, .int pi), (3, .int fi), (4, .ref ob)]) hx hb dL_areMembersOff_22 hl (by decide) rfl (fun ls hl => ?_)
      refine lv_iconst (v := 1) hx hb dL_areMembersOff_24 (by decide) ?_
      exact W.iret (v := 1) hx hb hr (fun t ht hW => ⟨⟨1, ov, rfl, Or.inr (⟨rfl, hR9⟩), g_PD ht hP9 hD9⟩, hS9.F ht⟩) hS9.2.2 dL_areMembersOff_25
  rw [ht] at hB
  obtain ⟨hP, hD⟩ := hB
  refine W.widen (k := 3) (n := 18) (Nat.le_of_ble_eq_true rfl) (Nat.le_of_ble_eq_true rfl) ?_
  refine lv_if_eq (tgt := 17) hx hb dL_areMembersOff_10 (by decide) (fun c_10 => ?_) (fun c_10 => ?_)
  · skip
    refine lv_lconst (v := 0) hx hb dL_areMembersOff_17 (by decide) ?_
    refine va_last hx hb hK hP hD hS (11 + nF) 3 (WDR_at) rfl e_in0 dL_areMembersOff_18 (fun H locs hP hD hS => ?_)
    rw [WDR_set, e_z0] at hP hD
    refine lv_goto (tgt := 26) hx hb dL_areMembersOff_19 (by decide) ?_
    refine lv_iconst (v := 0) hx hb dL_areMembersOff_26 (by decide) ?_
    exact W.iret (v := 0) hx hb hr (fun t ht hW => ⟨⟨0, (vp_updL ov 0 (0)), rfl, Or.inl ⟨rfl, r, ((e_u0 (f := ov) (v := 0)).trans (if_pos c_10).symm), hw⟩, g_PD ht hP hD⟩, hS.F ht⟩) hS.2.2 dL_areMembersOff_27
  · skip
    refine lv_lconst (v := 1) hx hb dL_areMembersOff_13 (by decide) ?_
    refine lv_goto (tgt := 18) hx hb dL_areMembersOff_14 (by decide) ?_
    refine va_last hx hb hK hP hD hS (11 + nF) 3 (WDR_at) rfl e_in0 dL_areMembersOff_18 (fun H locs hP hD hS => ?_)
    rw [WDR_set, e_z0] at hP hD
    refine lv_goto (tgt := 26) hx hb dL_areMembersOff_19 (by decide) ?_
    refine lv_iconst (v := 0) hx hb dL_areMembersOff_26 (by decide) ?_
    exact W.iret (v := 0) hx hb hr (fun t ht hW => ⟨⟨0, (vp_updL ov 0 (1)), rfl, Or.inl ⟨rfl, r, ((e_u0 (f := ov) (v := 1)).trans (if_neg c_10).symm), hw⟩, g_PD ht hP hD⟩, hS.F ht⟩) hS.2.2 dL_areMembersOff_27
set_option maxHeartbeats 4000000 in
set_option maxRecDepth 100000 in
/-- isRollOff, of the law -/
theorem kL_isRollOff (l : Launch) (D : va_G) (cI cZ cO cL : ClassId) (dt : Nat) (A : Nat → Prop) (a FA : Nat → Nat) (nC nR nL nF : Nat) (par wt stk flw : Nat → Int32) (hd : Nat → Option Nat) (rea sig : Nat → Int32) (ck cf cd : Nat → Nat) (cv : Nat → Int32) (nx : Nat → Option Nat) (R : va_W) (ob : Nat) (ov : Nat → Int64) (sk fk : Nat → Nat) (ri pi mi fi : Int32) (hlt : l.stackTraces = false) (hF : nF ≤ 80) (hC12 : nC ≤ 12) (hck : ∀ k, ck k < 480) (hcf : ∀ k, cf k < 2 ^ 31) (hcd : ∀ k, cd k ≤ 4) (hcv : ∀ k, vOk (cv k)) (hwt : ∀ k, wOk (wt k)) (hCh : chOk ck cf cd hd nx nF) (hL8 : nL < 8) (hR : nR ≤ 5) (hsk : ∀ r, stk r = nI (sk r)) (hfk : ∀ r, flw r = nI (fk r)) (hsk12 : ∀ r, sk r < 12) (hfk12 : ∀ r, fk r < 12) : Met l yL_isRollOff wsL_isRollOff ({ frames := 8, cells := 2, slots := 12, locals := 135 } : Room) (gP D cI cZ cO cL dt A [.ref (a 0), .int ri, .int pi, .int mi, .int fi, .ref ob] (fun H => va_P D vwCl (WD cI cO a FA nC nR nL nF par wt stk flw hd rea sig ++ (WF FA ck cf cd cv nx nF ++ ((ob, .inl (cL, 1, .inr (.inl ov))) :: R))) H ∧ va_D A (WD cI cO a FA nC nR nL nF par wt stk flw hd rea sig ++ (WF FA ck cf cd cv nx nF ++ ((ob, .inl (cL, 1, .inr (.inl ov))) :: R))))) (va_Qi (fun (k : Int32) (u : Nat → Int64) => (k = 0 ∧ ∃ r : Int32, u 0 = (if r = 0 then 0 else 1 : Int64) ∧ (fun z => ∃ r p m f : Nat, kV nR nL ri pi mi fi r p m f ∧ z = bI (rollOff (nI p) (hC ck cf cd nF (nI ((sk r) * 40 + p * 4 + m)) (nI f)) (hC ck cf cd nF (nI ((sk r) * 40 + (p - 1) * 4 + m)) (nI f)) (hC ck cf cd nF (nI ((fk r) * 40 + p * 4 + m)) (nI f)) cd cv = true)) r) ∨ (k = 1 ∧ kNo nR nL ri pi mi fi)) (fun u t => va_P D vwCl (WD cI cO a FA nC nR nL nF par wt stk flw hd rea sig ++ (WF FA ck cf cd cv nx nF ++ ((ob, .inl (cL, 1, .inr (.inl u))) :: R))) t.heap ∧ va_D A (WD cI cO a FA nC nR nL nF par wt stk flw hd rea sig ++ (WF FA ck cf cd cv nx nF ++ ((ob, .inl (cL, 1, .inr (.inl u))) :: R)))) A) 2 12 A := by
  refine va_MetW (cc := cL_isRollOff) (maxL := 7) (ret := some .int) (hh := [(0, 21, 24, 19)]) (by decide) rfl ?_
  intro p9 e9 s m9 args below meth c9 s₁ B hml hv
  obtain ⟨rfl, hg, hP, hD⟩ := hv
  have hx := B.exec
  have hb := B.bytes
  have hr := B.returns
  have hts := atoms_spec (ws := wsL_isRollOff) B.pre
  have htab : c9.exceptionTable.toList = tableOf [(0, 21, 24, 19)] := vx_table (x := yL_isRollOff) B (hts _ List.mem_cons_self)
  have hown : s.vm.findClass RL = some m9.cls := findClass_of_methodNamed B.named
  have hlocks := B.notSynchronized
  have hK := hg.1
  have hS : va_S A s.heap s.heap [] := va_S.rf
  have w_0 := hts (.classLink RL 19 "java/lang/IndexOutOfBoundsException") (by decide +kernel)
  have hl := lv_entry ([.ref (a 0), .int ri, .int pi, .int mi, .int fi, .ref ob]) (n := 7) (Nat.le_of_ble_eq_true rfl)
  rw [lg_entry_eq]
  generalize (lg_sl ([.ref (a 0), .int ri, .int pi, .int mi, .int fi, .ref ob]) ++ List.replicate (7 - (lg_sl ([.ref (a 0), .int ri, .int pi, .int mi, .int fi, .ref ob])).length) Slot.unset).toArray = ls at hl ⊢
  have hl : lv_has ls 7 [(0, .ref (a 0)), (1, .int ri), (2, .int pi), (3, .int mi), (4, .int fi), (5, .ref ob)] := hl
  refine lv_aload hx hb dL_isRollOff_0 (lv_at hl 5 rfl) ?_
  refine lv_iconst (v := 0) hx hb dL_isRollOff_2 (by decide) ?_
  refine lv_aload_n hx hb dL_isRollOff_3 rfl (lv_at hl 0 rfl) ?_
  refine lv_iload_n hx hb dL_isRollOff_4 rfl (lv_at hl 1 rfl) ?_
  refine lv_iload_n hx hb dL_isRollOff_5 rfl (lv_at hl 2 rfl) ?_
  refine lv_iload_n hx hb dL_isRollOff_6 rfl (lv_at hl 3 rfl) ?_
  refine lv_iload hx hb dL_isRollOff_7 (lv_at hl 4 rfl) ?_
  refine vx_calli (vx_runV (As := [.int ri, .int pi, .int mi, .int fi]) (rest := [.int 0, .ref ob]) ⟨hx, hb, hml, hown, hts⟩ (vx_pure (c4_isRollOff l D cI cZ cO cL dt A a FA nC nR nL nF par wt stk flw hd rea sig ck cf cd cv nx ((ob, .inl (cL, 1, .inr (.inl ov))) :: R) sk fk ri pi mi fi hlt hF hC12 hck hcf hcd hcv hwt hCh hL8 hR hsk hfk hsk12 hfk12)) (cwV 4 hts gL_isRollOff_X4_isRollOff rfl rfl rfl (by decide +kernel) ⟨(Nat.le_of_ble_eq_true rfl), (Nat.le_of_ble_eq_true rfl)⟩) (gP.v hg hP 3 rfl 0 rfl ⟨hP, hD⟩) rfl rfl hl.1 rfl (lv_room (Nat.le_of_ble_eq_true rfl)) dL_isRollOff_9 ⟨(Nat.le_of_ble_eq_true rfl), (Nat.le_of_ble_eq_true rfl)⟩) hS (fun q _ h => h) (fun q h => h) (fun q _ h => h) (fun E9 ce9 q9 u9 t9 H9 locs9 ht9 hvm9 _ hB9 hz9 hk9 hS9 hc9 hv9 hf9 => ?_) (fun r x t H locs ht hvm hw hB hz hk hS => ?_)
  · skip
    obtain ⟨hE9, hP9, hD9⟩ := hB9
    rw [ht9] at hP9
    refine vx_widen (k := 2) (n := 12) (Nat.le_of_ble_eq_true rfl) (Nat.le_of_ble_eq_true rfl) ?_
    rcases hE9 with ⟨rfl, hR9⟩
    · skip
      refine vx_catch (name := "java/lang/IndexOutOfBoundsException") (E := "java/lang/IndexOutOfBoundsException") hown [] (⟨0, 21, 24, 19⟩ : ExceptionTableEntry) [] (htab.trans rfl) (fun z hz => absurd hz List.not_mem_nil) (by decide) (by decide) w_0 (gCast hg.2.1.2.2.2.2.2.2.2.2.1) hc9 hv9 hf9 ?_
      refine lv_astore (lv' := [(6, .ref q9), (0, .ref (a 0)), (1, .int ri), (2, .int pi), (3, .int mi), (4, .int fi), (5, .ref ob)]) hx hb dL_isRollOff_24 hl (by decide) rfl (fun ls hl => ?_)
      refine lv_iconst (v := 1) hx hb dL_isRollOff_26 (by decide) ?_
      exact W.iret (v := 1) hx hb hr (fun t ht hW => ⟨⟨1, ov, rfl, Or.inr (⟨rfl, hR9⟩), g_PD ht hP9 hD9⟩, hS9.F ht⟩) hS9.2.2 dL_isRollOff_27
  rw [ht] at hB
  obtain ⟨hP, hD⟩ := hB
  refine W.widen (k := 2) (n := 12) (Nat.le_of_ble_eq_true rfl) (Nat.le_of_ble_eq_true rfl) ?_
  refine lv_if_eq (tgt := 19) hx hb dL_isRollOff_12 (by decide) (fun c_12 => ?_) (fun c_12 => ?_)
  · skip
    refine lv_lconst (v := 0) hx hb dL_isRollOff_19 (by decide) ?_
    refine va_last hx hb hK hP hD hS (11 + nF) 3 (WDR_at) rfl e_in0 dL_isRollOff_20 (fun H locs hP hD hS => ?_)
    rw [WDR_set, e_z0] at hP hD
    refine lv_goto (tgt := 28) hx hb dL_isRollOff_21 (by decide) ?_
    refine lv_iconst (v := 0) hx hb dL_isRollOff_28 (by decide) ?_
    exact W.iret (v := 0) hx hb hr (fun t ht hW => ⟨⟨0, (vp_updL ov 0 (0)), rfl, Or.inl ⟨rfl, r, ((e_u0 (f := ov) (v := 0)).trans (if_pos c_12).symm), hw⟩, g_PD ht hP hD⟩, hS.F ht⟩) hS.2.2 dL_isRollOff_29
  · skip
    refine lv_lconst (v := 1) hx hb dL_isRollOff_15 (by decide) ?_
    refine lv_goto (tgt := 20) hx hb dL_isRollOff_16 (by decide) ?_
    refine va_last hx hb hK hP hD hS (11 + nF) 3 (WDR_at) rfl e_in0 dL_isRollOff_20 (fun H locs hP hD hS => ?_)
    rw [WDR_set, e_z0] at hP hD
    refine lv_goto (tgt := 28) hx hb dL_isRollOff_21 (by decide) ?_
    refine lv_iconst (v := 0) hx hb dL_isRollOff_28 (by decide) ?_
    exact W.iret (v := 0) hx hb hr (fun t ht hW => ⟨⟨0, (vp_updL ov 0 (1)), rfl, Or.inl ⟨rfl, r, ((e_u0 (f := ov) (v := 1)).trans (if_neg c_12).symm), hw⟩, g_PD ht hP hD⟩, hS.F ht⟩) hS.2.2 dL_isRollOff_29
set_option maxHeartbeats 4000000 in
set_option maxRecDepth 100000 in
/-- faults, of the law -/
theorem kL_faults (l : Launch) (D : va_G) (cI cZ cO cL : ClassId) (dt : Nat) (A : Nat → Prop) (a FA : Nat → Nat) (nC nR nL nF : Nat) (par wt stk flw : Nat → Int32) (hd : Nat → Option Nat) (rea sig : Nat → Int32) (ck cf cd : Nat → Nat) (cv : Nat → Int32) (nx : Nat → Option Nat) (R : va_W) (ob : Nat) (ov : Nat → Int64) (sk fk : Nat → Nat) (fi : Int32) (hlt : l.stackTraces = false) (hF : nF ≤ 80) (hC12 : nC ≤ 12) (hck : ∀ k, ck k < 480) (hcf : ∀ k, cf k < 2 ^ 31) (hcd : ∀ k, cd k ≤ 4) (hcv : ∀ k, vOk (cv k)) (hwt : ∀ k, wOk (wt k)) (hCh : chOk ck cf cd hd nx nF) (hL8 : nL < 8) (hR : nR ≤ 5) (hsk : ∀ r, stk r = nI (sk r)) (hfk : ∀ r, flw r = nI (fk r)) (hsk12 : ∀ r, sk r < 12) (hfk12 : ∀ r, fk r < 12) : Met l yL_faults wsL_faults ({ frames := 8, cells := 1, slots := 6, locals := 144 } : Room) (gP D cI cZ cO cL dt A [.ref (a 0), .int fi, .ref ob] (fun H => va_P D vwCl (WD cI cO a FA nC nR nL nF par wt stk flw hd rea sig ++ (WF FA ck cf cd cv nx nF ++ ((ob, .inl (cL, 1, .inr (.inl ov))) :: R))) H ∧ va_D A (WD cI cO a FA nC nR nL nF par wt stk flw hd rea sig ++ (WF FA ck cf cd cv nx nF ++ ((ob, .inl (cL, 1, .inr (.inl ov))) :: R))))) (va_Qi (fun (k : Int32) (u : Nat → Int64) => (k = 0 ∧ ∃ r : Int32, u 0 = r.toInt64 ∧ (fun r => ∃ f : Nat, (fi = nI f ∧ f < nL + 1) ∧ r = sT (fun k => if (hC ck cf cd nF (nI k) (nI f)).isSome = true then fltA nC nR par wt sk fk (fun K => hC ck cf cd nF (nI K) (nI f)) cd cv (k / 40) (k / 4 % 10) (k % 4) else 0) (nC * 40)) r) ∨ (k = 1 ∧ ¬ cOk (nL + 1) fi)) (fun u t => va_P D vwCl (WD cI cO a FA nC nR nL nF par wt stk flw hd rea sig ++ (WF FA ck cf cd cv nx nF ++ ((ob, .inl (cL, 1, .inr (.inl u))) :: R))) t.heap ∧ va_D A (WD cI cO a FA nC nR nL nF par wt stk flw hd rea sig ++ (WF FA ck cf cd cv nx nF ++ ((ob, .inl (cL, 1, .inr (.inl u))) :: R)))) A) 1 6 A := by
  refine va_MetW (cc := cL_faults) (maxL := 4) (ret := some .int) (hh := [(0, 9, 12, 19)]) (by decide) rfl ?_
  intro p9 e9 s m9 args below meth c9 s₁ B hml hv
  obtain ⟨rfl, hg, hP, hD⟩ := hv
  have hx := B.exec
  have hb := B.bytes
  have hr := B.returns
  have hts := atoms_spec (ws := wsL_faults) B.pre
  have htab : c9.exceptionTable.toList = tableOf [(0, 9, 12, 19)] := vx_table (x := yL_faults) B (hts _ List.mem_cons_self)
  have hown : s.vm.findClass RL = some m9.cls := findClass_of_methodNamed B.named
  have hlocks := B.notSynchronized
  have hK := hg.1
  have hS : va_S A s.heap s.heap [] := va_S.rf
  have w_0 := hts (.classLink RL 19 "java/lang/IndexOutOfBoundsException") (by decide +kernel)
  have hl := lv_entry ([.ref (a 0), .int fi, .ref ob]) (n := 4) (Nat.le_of_ble_eq_true rfl)
  rw [lg_entry_eq]
  generalize (lg_sl ([.ref (a 0), .int fi, .ref ob]) ++ List.replicate (4 - (lg_sl ([.ref (a 0), .int fi, .ref ob])).length) Slot.unset).toArray = ls at hl ⊢
  have hl : lv_has ls 4 [(0, .ref (a 0)), (1, .int fi), (2, .ref ob)] := hl
  refine lv_aload_n hx hb dL_faults_0 rfl (lv_at hl 2 rfl) ?_
  refine lv_iconst (v := 0) hx hb dL_faults_1 (by decide) ?_
  refine lv_aload_n hx hb dL_faults_2 rfl (lv_at hl 0 rfl) ?_
  refine lv_iload_n hx hb dL_faults_3 rfl (lv_at hl 1 rfl) ?_
  refine vx_calli (vx_runV (As := [.int fi]) (rest := [.int 0, .ref ob]) ⟨hx, hb, hml, hown, hts⟩ (vx_pure (c4_faults l D cI cZ cO cL dt A a FA nC nR nL nF par wt stk flw hd rea sig ck cf cd cv nx ((ob, .inl (cL, 1, .inr (.inl ov))) :: R) sk fk fi hlt hF hC12 hck hcf hcd hcv hwt hCh hL8 hR hsk hfk hsk12 hfk12)) (cwV 1 hts gL_faults_X4_faults rfl rfl rfl (by decide +kernel) ⟨(Nat.le_of_ble_eq_true rfl), (Nat.le_of_ble_eq_true rfl)⟩) (gP.v hg hP 3 rfl 0 rfl ⟨hP, hD⟩) rfl rfl hl.1 rfl (lv_room (Nat.le_of_ble_eq_true rfl)) dL_faults_4 ⟨(Nat.le_of_ble_eq_true rfl), (Nat.le_of_ble_eq_true rfl)⟩) hS (fun q _ h => h) (fun q h => h) (fun q _ h => h) (fun E9 ce9 q9 u9 t9 H9 locs9 ht9 hvm9 _ hB9 hz9 hk9 hS9 hc9 hv9 hf9 => ?_) (fun r x t H locs ht hvm hw hB hz hk hS => ?_)
  · skip
    obtain ⟨hE9, hP9, hD9⟩ := hB9
    rw [ht9] at hP9
    refine vx_widen (k := 1) (n := 6) (Nat.le_of_ble_eq_true rfl) (Nat.le_of_ble_eq_true rfl) ?_
    rcases hE9 with ⟨rfl, hR9⟩
    · skip
      refine vx_catch (name := "java/lang/IndexOutOfBoundsException") (E := "java/lang/IndexOutOfBoundsException") hown [] (⟨0, 9, 12, 19⟩ : ExceptionTableEntry) [] (htab.trans rfl) (fun z hz => absurd hz List.not_mem_nil) (by decide) (by decide) w_0 (gCast hg.2.1.2.2.2.2.2.2.2.2.1) hc9 hv9 hf9 ?_
      refine lv_astore_n (lv' := [(3, .ref q9), (0, .ref (a 0)), (1, .int fi), (2, .ref ob)]) hx hb dL_faults_12 rfl hl (by decide) rfl (fun ls hl => ?_)
      refine lv_iconst (v := 1) hx hb dL_faults_13 (by decide) ?_
      exact W.iret (v := 1) hx hb hr (fun t ht hW => ⟨⟨1, ov, rfl, Or.inr (⟨rfl, hR9⟩), g_PD ht hP9 hD9⟩, hS9.F ht⟩) hS9.2.2 dL_faults_14
  rw [ht] at hB
  obtain ⟨hP, hD⟩ := hB
  refine W.widen (k := 1) (n := 6) (Nat.le_of_ble_eq_true rfl) (Nat.le_of_ble_eq_true rfl) ?_
  refine lv_i2l (v := (r).toInt64) hx hb dL_faults_7 rfl ?_
  refine va_last hx hb hK hP hD hS (11 + nF) 3 (WDR_at) rfl e_in0 dL_faults_8 (fun H locs hP hD hS => ?_)
  rw [WDR_set, e_z0] at hP hD
  refine lv_goto (tgt := 15) hx hb dL_faults_9 (by decide) ?_
  refine lv_iconst (v := 0) hx hb dL_faults_15 (by decide) ?_
  exact W.iret (v := 0) hx hb hr (fun t ht hW => ⟨⟨0, (vp_updL ov 0 ((r).toInt64)), rfl, Or.inl ⟨rfl, r, (e_u0 (f := ov) (v := (r).toInt64)), hw⟩, g_PD ht hP hD⟩, hS.F ht⟩) hS.2.2 dL_faults_16
set_option maxHeartbeats 4000000 in
set_option maxRecDepth 100000 in
/-- faultsByList, of the law -/
theorem kL_faultsByList (l : Launch) (D : va_G) (cI cZ cO cL : ClassId) (dt : Nat) (A : Nat → Prop) (a FA : Nat → Nat) (nC nR nL nF : Nat) (par wt stk flw : Nat → Int32) (hd : Nat → Option Nat) (rea sig : Nat → Int32) (ck cf cd : Nat → Nat) (cv : Nat → Int32) (nx : Nat → Option Nat) (R : va_W) (ob : Nat) (ov : Nat → Int64) (sk fk : Nat → Nat) (fi : Int32) (hlt : l.stackTraces = false) (hF : nF ≤ 80) (hC12 : nC ≤ 12) (hck : ∀ k, ck k < 480) (hcf : ∀ k, cf k < 2 ^ 31) (hcd : ∀ k, cd k ≤ 4) (hcv : ∀ k, vOk (cv k)) (hwt : ∀ k, wOk (wt k)) (hCh : chOk ck cf cd hd nx nF) (hL8 : nL < 8) (hR : nR ≤ 5) (hsk : ∀ r, stk r = nI (sk r)) (hfk : ∀ r, flw r = nI (fk r)) (hsk12 : ∀ r, sk r < 12) (hfk12 : ∀ r, fk r < 12) (hckC : ∀ k, k < nF → ck k < nC * 40) (hFA : ∀ i j, i < nF → j < nF → FA i = FA j → i = j) : Met l yL_faultsByList wsL_faultsByList ({ frames := 8, cells := 1, slots := 6, locals := 154 } : Room) (gP D cI cZ cO cL dt A [.ref (a 0), .int fi, .ref ob] (fun H => va_P D vwCl (WD cI cO a FA nC nR nL nF par wt stk flw hd rea sig ++ (WF FA ck cf cd cv nx nF ++ ((ob, .inl (cL, 1, .inr (.inl ov))) :: R))) H ∧ va_D A (WD cI cO a FA nC nR nL nF par wt stk flw hd rea sig ++ (WF FA ck cf cd cv nx nF ++ ((ob, .inl (cL, 1, .inr (.inl ov))) :: R))))) (va_Qi (fun (k : Int32) (u : Nat → Int64) => (k = 0 ∧ ∃ r : Int32, u 0 = r.toInt64 ∧ (fun r => ∃ f : Nat, (fi = nI f ∧ f < nL + 1) ∧ r = sT (fun k => if hC ck cf cd nF (nI (ck k)) (nI f) = some k then fltA nC nR par wt sk fk (fun K => hC ck cf cd nF (nI K) (nI f)) cd cv (ck k / 40) (ck k / 4 % 10) (ck k % 4) else 0) nF) r) ∨ (k = 1 ∧ ¬ cOk (nL + 1) fi)) (fun u t => va_P D vwCl (WD cI cO a FA nC nR nL nF par wt stk flw hd rea sig ++ (WF FA ck cf cd cv nx nF ++ ((ob, .inl (cL, 1, .inr (.inl u))) :: R))) t.heap ∧ va_D A (WD cI cO a FA nC nR nL nF par wt stk flw hd rea sig ++ (WF FA ck cf cd cv nx nF ++ ((ob, .inl (cL, 1, .inr (.inl u))) :: R)))) A) 1 6 A := by
  refine va_MetW (cc := cL_faultsByList) (maxL := 4) (ret := some .int) (hh := [(0, 9, 12, 19)]) (by decide) rfl ?_
  intro p9 e9 s m9 args below meth c9 s₁ B hml hv
  obtain ⟨rfl, hg, hP, hD⟩ := hv
  have hx := B.exec
  have hb := B.bytes
  have hr := B.returns
  have hts := atoms_spec (ws := wsL_faultsByList) B.pre
  have htab : c9.exceptionTable.toList = tableOf [(0, 9, 12, 19)] := vx_table (x := yL_faultsByList) B (hts _ List.mem_cons_self)
  have hown : s.vm.findClass RL = some m9.cls := findClass_of_methodNamed B.named
  have hlocks := B.notSynchronized
  have hK := hg.1
  have hS : va_S A s.heap s.heap [] := va_S.rf
  have w_0 := hts (.classLink RL 19 "java/lang/IndexOutOfBoundsException") (by decide +kernel)
  have hl := lv_entry ([.ref (a 0), .int fi, .ref ob]) (n := 4) (Nat.le_of_ble_eq_true rfl)
  rw [lg_entry_eq]
  generalize (lg_sl ([.ref (a 0), .int fi, .ref ob]) ++ List.replicate (4 - (lg_sl ([.ref (a 0), .int fi, .ref ob])).length) Slot.unset).toArray = ls at hl ⊢
  have hl : lv_has ls 4 [(0, .ref (a 0)), (1, .int fi), (2, .ref ob)] := hl
  refine lv_aload_n hx hb dL_faultsByList_0 rfl (lv_at hl 2 rfl) ?_
  refine lv_iconst (v := 0) hx hb dL_faultsByList_1 (by decide) ?_
  refine lv_aload_n hx hb dL_faultsByList_2 rfl (lv_at hl 0 rfl) ?_
  refine lv_iload_n hx hb dL_faultsByList_3 rfl (lv_at hl 1 rfl) ?_
  refine vx_calli (vx_runV (As := [.int fi]) (rest := [.int 0, .ref ob]) ⟨hx, hb, hml, hown, hts⟩ (vx_pure (c4_faultsByList l D cI cZ cO cL dt A a FA nC nR nL nF par wt stk flw hd rea sig ck cf cd cv nx ((ob, .inl (cL, 1, .inr (.inl ov))) :: R) sk fk fi hlt hF hC12 hck hcf hcd hcv hwt hCh hL8 hR hsk hfk hsk12 hfk12 hckC hFA)) (cwV 1 hts gL_faultsByList_X4_faultsByList rfl rfl rfl (by decide +kernel) ⟨(Nat.le_of_ble_eq_true rfl), (Nat.le_of_ble_eq_true rfl)⟩) (gP.v hg hP 3 rfl 0 rfl ⟨hP, hD⟩) rfl rfl hl.1 rfl (lv_room (Nat.le_of_ble_eq_true rfl)) dL_faultsByList_4 ⟨(Nat.le_of_ble_eq_true rfl), (Nat.le_of_ble_eq_true rfl)⟩) hS (fun q _ h => h) (fun q h => h) (fun q _ h => h) (fun E9 ce9 q9 u9 t9 H9 locs9 ht9 hvm9 _ hB9 hz9 hk9 hS9 hc9 hv9 hf9 => ?_) (fun r x t H locs ht hvm hw hB hz hk hS => ?_)
  · skip
    obtain ⟨hE9, hP9, hD9⟩ := hB9
    rw [ht9] at hP9
    refine vx_widen (k := 1) (n := 6) (Nat.le_of_ble_eq_true rfl) (Nat.le_of_ble_eq_true rfl) ?_
    rcases hE9 with ⟨rfl, hR9⟩
    · skip
      refine vx_catch (name := "java/lang/IndexOutOfBoundsException") (E := "java/lang/IndexOutOfBoundsException") hown [] (⟨0, 9, 12, 19⟩ : ExceptionTableEntry) [] (htab.trans rfl) (fun z hz => absurd hz List.not_mem_nil) (by decide) (by decide) w_0 (gCast hg.2.1.2.2.2.2.2.2.2.2.1) hc9 hv9 hf9 ?_
      refine lv_astore_n (lv' := [(3, .ref q9), (0, .ref (a 0)), (1, .int fi), (2, .ref ob)]) hx hb dL_faultsByList_12 rfl hl (by decide) rfl (fun ls hl => ?_)
      refine lv_iconst (v := 1) hx hb dL_faultsByList_13 (by decide) ?_
      exact W.iret (v := 1) hx hb hr (fun t ht hW => ⟨⟨1, ov, rfl, Or.inr (⟨rfl, hR9⟩), g_PD ht hP9 hD9⟩, hS9.F ht⟩) hS9.2.2 dL_faultsByList_14
  rw [ht] at hB
  obtain ⟨hP, hD⟩ := hB
  refine W.widen (k := 1) (n := 6) (Nat.le_of_ble_eq_true rfl) (Nat.le_of_ble_eq_true rfl) ?_
  refine lv_i2l (v := (r).toInt64) hx hb dL_faultsByList_7 rfl ?_
  refine va_last hx hb hK hP hD hS (11 + nF) 3 (WDR_at) rfl e_in0 dL_faultsByList_8 (fun H locs hP hD hS => ?_)
  rw [WDR_set, e_z0] at hP hD
  refine lv_goto (tgt := 15) hx hb dL_faultsByList_9 (by decide) ?_
  refine lv_iconst (v := 0) hx hb dL_faultsByList_15 (by decide) ?_
  exact W.iret (v := 0) hx hb hr (fun t ht hW => ⟨⟨0, (vp_updL ov 0 ((r).toInt64)), rfl, Or.inl ⟨rfl, r, (e_u0 (f := ov) (v := (r).toInt64)), hw⟩, g_PD ht hP hD⟩, hS.F ht⟩) hS.2.2 dL_faultsByList_16
