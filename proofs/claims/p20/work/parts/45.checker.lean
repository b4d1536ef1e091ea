-- A CHECKER
theorem xP_s {b0 Ls : Nat} {xs : Nat → Int32} {av : List Value} {s : State} {H : Heap} (hX : va_X b0 Ls xs s H) : PreS s H (va_Pc av (fun U => va_X b0 Ls xs U U.heap)) av :=
  ⟨fun a U g mk h => ⟨h.1, va_X.moved (u := U) (U := U.calling g mk a) (Vm.Alike.refl U.vm) h.2⟩, fun U hU hW => ⟨rfl, by show va_X b0 Ls xs U U.heap; rw [hU]; exact hX.moved hW.alike⟩⟩
/-- a checker's start: the ground, rows of facts can be made, the script -/
def gX (D : va_G) (cI cZ cO cL : ClassId) (dt : Nat) (A : Nat → Prop) (b0 Ls : Nat) (xs : Nat → Int32) (av : List Value) : Array Value → State → Prop := va_Pc av (fun U => gG D cI cZ cO cL dt A U U.heap ∧ va_AO RX0 U ∧ va_X b0 Ls xs U U.heap)
theorem gX.s {D : va_G} {cI cZ cO cL : ClassId} {dt : Nat} {A : Nat → Prop} {b0 Ls : Nat} {xs : Nat → Int32} {av : List Value} {s : State} {H : Heap} (hg : gG D cI cZ cO cL dt A s H) (ha : va_AO RX0 s) (hX : va_X b0 Ls xs s H) : PreS s H (gX D cI cZ cO cL dt A b0 Ls xs av) av :=
  ⟨fun a U g mk h => ⟨h.1, h.2.1.warm (s := U) (U := U.calling g mk a) (State.WarmedH.refl U), va_AO.moved (u := U) (U := U.calling g mk a) (Vm.Alike.refl U.vm) h.2.2.1, va_X.moved (u := U) (U := U.calling g mk a) (Vm.Alike.refl U.vm) h.2.2.2⟩,
   fun U hU hW => ⟨rfl, by rw [hU]; exact hg.warm hW, va_AO.moved hW.alike ha, by rw [hU]; exact hX.moved hW.alike⟩⟩
theorem lperm3 {α : Type} (X Y : List α) (p r c : α) : (X ++ (Y ++ [p, r, c])).Perm (c :: r :: p :: (X ++ (Y ++ []))) := by
  rw [List.append_nil, ← List.append_assoc]
  refine List.perm_append_comm.trans ?_
  show (p :: r :: c :: (X ++ Y)).Perm _
  exact ((List.Perm.swap r p _).trans ((List.Perm.cons r (List.Perm.swap c p _)))).trans (List.Perm.swap c r _)
theorem sOk_0 : sOk 0 0 0 0 (fun _ => 0) (fun _ => 0) (fun _ => 0) (fun _ => 0) (fun _ => none) (fun _ => 0) (fun _ => 0) (fun _ => 0) (fun _ => 0) (fun _ => none) [] := by
  refine ⟨⟨by decide, by decide, by decide, by decide⟩, ⟨⟨trivial, List.nodup_nil, fun k => ⟨fun h => absurd h List.not_mem_nil, fun h => absurd h (Nat.not_lt_zero _)⟩, rfl⟩, fun _ => Or.inr (Or.inr rfl)⟩, ⟨fun _ => (by decide : (0 : Nat) < 12), fun _ => (by decide : (0 : Nat) < 12), fun r h => absurd h (Nat.not_lt_zero _)⟩, ⟨⟨fun K _ => rfl, fun i j _ h => absurd h (Nat.not_lt_zero _)⟩, fun K j h => (nomatch h), fun k j h => absurd h (Nat.not_lt_zero _), fun k h => absurd h (Nat.not_lt_zero _)⟩,
    fun _ => (by decide : (0 : Nat) < 480), fun _ => (by decide : (0 : Nat) < 8), fun _ => (by decide : (0 : Nat) ≤ 4), fun _ => (⟨by decide, by decide⟩ : vOk 0), fun k h => absurd h (Nat.not_lt_zero _)⟩
theorem pOk_0 {par wt pv : Nat → Int32} : pOk 0 par wt pv := fun k h => absurd h (Nat.not_lt_zero _)
theorem rOk2_0 {sk fk : Nat → Nat} {rv : Nat → Int32} : rOk2 0 sk fk rv := fun k h => absurd h (Nat.not_lt_zero _)
theorem kOk_00 : kOk 0 0 0 0 (upd (fun _ => 0) 2 1) := ⟨rfl, rfl, rfl, rfl⟩
set_option maxHeartbeats 4000000 in
set_option maxRecDepth 100000 in
/-- a checker -/
theorem kL_checker (l : Launch) (D : va_G) (cI cZ cO cL : ClassId) (dt : Nat) (A : Nat → Prop) (b0 Ls at9 : Nat) (xs : Nat → Int32) (hlt : l.stackTraces = false) (hLs : Ls ≤ 260) (hat : at9 ≤ 430) (hbA : ¬ A b0) : Met l yL_checker wsL_checker ({ frames := 13, cells := 51000, slots := 306000, locals := 276 } : Room) (gX D cI cZ cO cL dt A b0 Ls xs [.ref b0, .int (nI at9)]) (va_Qi (fun (r : Int32) (_ : Unit) => r = 1) (fun _ _ => True) A) 51000 306000 A := by
  refine Met.ofW (cc := cL_checker) (maxL := 13) (ret := (some .boolean)) (by decide) rfl ?_
  intro p9 e9 s m9 args below meth c9 s₁ B hml hv
  obtain ⟨rfl, hg, hao, hX⟩ := hv
  have hb0 : b0 < s.heap.size := by obtain ⟨scr, q, -⟩ := hX; exact (Array.getElem?_eq_some_iff.mp q).1
  have hx := B.exec
  have hb := B.bytes
  have hr := B.returns
  have hts := atoms_spec (ws := wsL_checker) B.pre
  have hown : s.vm.findClass RL = some m9.cls := findClass_of_methodNamed B.named
  have hlocks := B.notSynchronized
  have hK := hg.1
  have hA := hg.2.2.2.2.2.2.2
  have hS : va_S A s.heap s.heap [] := va_S.rf
  have hP : va_P D vwCl [] s.heap := fun k q h => by simp at h
  have hD : va_D A [] := ⟨fun i j p q h => by simp at h, fun k q h => by simp at h⟩
  have win_X4 : ∀ w ∈ wsX40, w ∈ wsL_checker := by decide +kernel
  have w_1 := hts (.classLink RL 11 RX4) (by decide +kernel)
  have w_2 := hts (.instantiable RX4 11) (by decide +kernel)
  have w_3 := hts (.initialized RX4) (by decide +kernel)
  have w_4 := hts (.methodLink RL 119 yX4_init) (by decide +kernel)
  have w_5 := hts (.instanceMethod yX4_init) (by decide +kernel)
  have w_6 := hts (.arrayClass .int) (by decide +kernel)
  have w_7 := hts (.constant RL 120 (1073741824)) (by decide +kernel)
  have hl := lv_entry ([.ref b0, .int (nI at9)]) (n := 13) (Nat.le_of_ble_eq_true rfl)
  rw [lg_entry_eq]
  generalize (lg_sl ([.ref b0, .int (nI at9)]) ++ List.replicate (13 - (lg_sl ([.ref b0, .int (nI at9)])).length) Slot.unset).toArray = ls at hl ⊢
  have hl : lv_has ls 13 [(0, .ref b0), (1, .int (nI at9))] := hl
  refine va_new (ci := 3) (fs := [.null, .null, .int 0, .null, .null, .int 0, .int 0, .null, .null, .null, .null]) (C := RX4) (T := TX4) (N := 11) hx hb hts win_X4 tyX4 tyX4_ok hown w_1 w_2 w_3 hK hP hD hS hA rfl (fun j hj => by rcases (show j = 0 ∨ j = 1 ∨ j = 2 ∨ j = 3 ∨ j = 4 ∨ j = 5 ∨ j = 6 ∨ j = 7 ∨ j = 8 ∨ j = 9 ∨ j = 10 by omega) with rfl | rfl | rfl | rfl | rfl | rfl | rfl | rfl | rfl | rfl | rfl <;> rfl) (Nat.le_of_ble_eq_true rfl) (Nat.le_of_ble_eq_true rfl) dL_checker_0 (fun q0 H hP hD hS => ?_)
  have hP : va_P D vwCl [(q0, .inr (3, [.null, .null, .int 0, .null, .null, .int 0, .int 0, .null, .null, .null, .null]))] H := hP
  have hD : va_D A [(q0, .inr (3, [.null, .null, .int 0, .null, .null, .int 0, .int 0, .null, .null, .null, .null]))] := hD
  refine lv_dup hx hb dL_checker_3 rfl ?_
  refine va_callv (va_runI (As := []) (rest := [.ref q0]) ⟨hx, hb, hml, hown, hts⟩ (c4_init l D cI cZ cO cL dt A q0) (cwI 0 hts gL_checker_X4_init rfl rfl rfl w_3 w_4 w_5 rfl (by decide +kernel) ⟨(Nat.le_of_ble_eq_true rfl), (Nat.le_of_ble_eq_true rfl)⟩) (gPA.s (hg.on hS) hao ⟨hP, hD⟩) rfl rfl hl.1 rfl (lv_room (Nat.le_of_ble_eq_true rfl)) dL_checker_4 ⟨(Nat.le_of_ble_eq_true rfl), (Nat.le_of_ble_eq_true rfl)⟩) hS (fun q _ h => h) (fun q h => h) (fun a t H locs ht hvm hw hB hz hk hS => ?_)
  rw [ht] at hB
  obtain ⟨hP, hD⟩ := hB
  have e0 : a 0 = q0 := hw
  rw [← e0]
  refine lv_astore_n (lv' := [(2, .ref (a 0)), (0, .ref b0), (1, .int (nI at9))]) hx hb dL_checker_7 rfl hl (by decide) rfl (fun ls hl => ?_)
  refine lv_bipush (v := 12) hx hb dL_checker_8 (by decide) ?_
  refine g_newa hx hb (atype := .int) w_6 rfl (fun _ => rfl) 0 rfl hK hP hD hS hA (a0 := (12, .inl (fun _ => 0))) (fun _ => rfl) (by decide) rfl (by decide) (Nat.le_of_ble_eq_true rfl) (Nat.le_of_ble_eq_true rfl) dL_checker_10 (fun pb H hP hD hS => ?_)
  refine lv_astore_n (lv' := [(3, .ref pb), (2, .ref (a 0)), (0, .ref b0), (1, .int (nI at9))]) hx hb dL_checker_12 rfl hl (by decide) rfl (fun ls hl => ?_)
  refine lv_bipush (v := 10) hx hb dL_checker_13 (by decide) ?_
  refine g_newa hx hb (atype := .int) w_6 rfl (fun _ => rfl) 0 rfl hK hP hD hS hA (a0 := (10, .inl (fun _ => 0))) (fun _ => rfl) (by decide) rfl (by decide) (Nat.le_of_ble_eq_true rfl) (Nat.le_of_ble_eq_true rfl) dL_checker_15 (fun rb H hP hD hS => ?_)
  refine lv_astore (lv' := [(4, .ref rb), (3, .ref pb), (2, .ref (a 0)), (0, .ref b0), (1, .int (nI at9))]) hx hb dL_checker_17 hl (by decide) rfl (fun ls hl => ?_)
  refine lv_iconst (v := 4) hx hb dL_checker_19 (by decide) ?_
  refine g_newa hx hb (atype := .int) w_6 rfl (fun _ => rfl) 0 rfl hK hP hD hS hA (a0 := (4, .inl (fun _ => 0))) (fun _ => rfl) (by decide) rfl (by decide) (Nat.le_of_ble_eq_true rfl) (Nat.le_of_ble_eq_true rfl) dL_checker_20 (fun cb H hP hD hS => ?_)
  refine lv_astore (lv' := [(5, .ref cb), (4, .ref rb), (3, .ref pb), (2, .ref (a 0)), (0, .ref b0), (1, .int (nI at9))]) hx hb dL_checker_22 hl (by decide) rfl (fun ls hl => ?_)
  have hP := va_P_perm hP (lperm3 (WD cI cO a (fun _ => 0) 0 0 0 0 (fun _ => 0) (fun _ => 0) (fun _ => 0) (fun _ => 0) (fun _ => none) (fun _ => 0) (fun _ => 0)) (WF (fun _ => 0) (fun _ => 0) (fun _ => 0) (fun _ => 0) (fun _ => 0) (fun _ => none) 0) ((pb, .inl (cI, 12, .inl (fun _ => 0))) : Nat × va_E) ((rb, .inl (cI, 10, .inl (fun _ => 0))) : Nat × va_E) ((cb, .inl (cI, 4, .inl (fun _ => 0))) : Nat × va_E))
  have hD := va_D_perm hD (lperm3 (WD cI cO a (fun _ => 0) 0 0 0 0 (fun _ => 0) (fun _ => 0) (fun _ => 0) (fun _ => 0) (fun _ => none) (fun _ => 0) (fun _ => 0)) (WF (fun _ => 0) (fun _ => 0) (fun _ => 0) (fun _ => 0) (fun _ => 0) (fun _ => none) 0) ((pb, .inl (cI, 12, .inl (fun _ => 0))) : Nat × va_E) ((rb, .inl (cI, 10, .inl (fun _ => 0))) : Nat × va_E) ((cb, .inl (cI, 4, .inl (fun _ => 0))) : Nat × va_E))
  have hP : va_P D vwCl (WD cI cO a (fun _ => 0) 0 0 0 0 (fun _ => 0) (fun _ => 0) (fun r => nI ((fun _ => 0) r)) (fun r => nI ((fun _ => 0) r)) (fun _ => none) (fun _ => 0) (fun _ => 0) ++ (WF (fun _ => 0) (fun _ => 0) (fun _ => 0) (fun _ => 0) (fun _ => 0) (fun _ => none) 0 ++ (LR cI pb rb cb (fun _ => 0) (fun _ => 0) (fun _ => 0)))) H := hP
  have hD : va_D A (WD cI cO a (fun _ => 0) 0 0 0 0 (fun _ => 0) (fun _ => 0) (fun r => nI ((fun _ => 0) r)) (fun r => nI ((fun _ => 0) r)) (fun _ => none) (fun _ => 0) (fun _ => 0) ++ (WF (fun _ => 0) (fun _ => 0) (fun _ => 0) (fun _ => 0) (fun _ => 0) (fun _ => none) 0 ++ (LR cI pb rb cb (fun _ => 0) (fun _ => 0) (fun _ => 0)))) := hD
  refine W.widen (k := 14) (n := 700) (Nat.le_of_ble_eq_true rfl) (Nat.le_of_ble_eq_true rfl) ?_
  refine lv_aload hx hb dL_checker_24 (lv_at hl 0 rfl) ?_
  refine lv_iconst (v := 2) hx hb dL_checker_26 (by decide) ?_
  refine lv_iconst (v := 1) hx hb dL_checker_27 (by decide) ?_
  refine g_iast hx hb hK hP hD hS (11 + 0 + 2) 0 (n := 4) (f := (fun _ => 0)) (WDRj 2 rfl) rfl 2 rfl (by omega) (by decide) dL_checker_28 (WD cI cO a (fun _ => 0) 0 0 0 0 (fun _ => 0) (fun _ => 0) (fun r => nI ((fun _ => 0) r)) (fun r => nI ((fun _ => 0) r)) (fun _ => none) (fun _ => 0) (fun _ => 0) ++ (WF (fun _ => 0) (fun _ => 0) (fun _ => 0) (fun _ => 0) (fun _ => 0) (fun _ => none) 0 ++ (LR cI pb rb cb (fun _ => 0) (fun _ => 0) (upd (fun _ => 0) 2 1)))) (WDRs 2 rfl) (fun H locs hP hD hS => ?_)
  have hP : va_P D vwCl (WD cI cO a (fun _ => 0) 0 0 0 0 (fun _ => 0) (fun _ => 0) (fun r => nI ((fun _ => 0) r)) (fun r => nI ((fun _ => 0) r)) (fun _ => none) (fun _ => 0) (fun _ => 0) ++ (WF (fun _ => 0) (fun _ => 0) (fun _ => 0) (fun _ => 0) (fun _ => 0) (fun _ => none) 0 ++ (LR cI pb rb cb (fun _ => 0) (fun _ => 0) (upd (fun _ => 0) 2 1)))) H := hP
  have hD : va_D A (WD cI cO a (fun _ => 0) 0 0 0 0 (fun _ => 0) (fun _ => 0) (fun r => nI ((fun _ => 0) r)) (fun r => nI ((fun _ => 0) r)) (fun _ => none) (fun _ => 0) (fun _ => 0) ++ (WF (fun _ => 0) (fun _ => 0) (fun _ => 0) (fun _ => 0) (fun _ => 0) (fun _ => none) 0 ++ (LR cI pb rb cb (fun _ => 0) (fun _ => 0) (upd (fun _ => 0) 2 1)))) := hD
  refine lv_iconst (v := 0) hx hb dL_checker_29 (by decide) ?_
  refine lv_istore (lv' := [(6, .int 0), (5, .ref cb), (4, .ref rb), (3, .ref pb), (2, .ref (a 0)), (0, .ref b0), (1, .int (nI at9))]) hx hb dL_checker_30 hl (by decide) rfl (fun ls hl => ?_)
  have lp : ∀ (n k : Nat) (H : Heap) (locs : List Loc), 70 < k + n → k ≤ 70 → lI D cI cO A a pb rb cb 0 H → va_S A s.heap H locs → ∀ ls : Array Slot, lv_has ls 13 [(6, .int (nI k)), (5, .ref cb), (4, .ref rb), (3, .ref pb), (2, .ref (a 0)), (1, .int (nI at9)), (0, .ref b0)] → W p9 l e9 (headSpec wsL_checker ({ frames := 13, cells := 51000, slots := 306000, locals := 276 } : Room)).room s m9 ([.ref b0, .int (nI at9)] : List Value).toArray below meth c9 H locs (395 * k + 3300 * (k / 9) + 14) (2370 * k + 19800 * (k / 9) + 700) (MQ below (va_Qi (fun (r : Int32) (_ : Unit) => r = 1) (fun _ _ => True) A) ([.ref b0, .int (nI at9)] : List Value).toArray s 51000 306000 A) (F0 m9 32 ls []) := by
    intro n
    induction n with
    | zero => intro k H locs h1 h2; exact absurd h1 (by omega)
    | succ n ih =>
      intro k H locs hn_lp hk_lp hI hS ls hl
      refine lv_iload hx hb dL_checker_32 (lv_at hl 0 rfl) ?_
      refine lv_bipush (v := 70) hx hb dL_checker_34 (by decide) ?_
      refine lv_icmp_ge (tgt := 308) hx hb dL_checker_36 (by decide) (fun c_36 => ?_) (fun c_36 => ?_)
      · skip
        have hkF : k = 70 := by have := (nI_leI (a := 70) (b := k) (by decide) (by omega)).mp c_36; omega
        refine lv_iconst (v := 1) hx hb dL_checker_308 (by decide) ?_
        exact W.widen (k := 51000) (n := 306000) (by omega) (by omega) (W.zret (v := 1) hx hb hr (rfl) (fun t ht hW => ⟨⟨1, (), rfl, rfl, trivial⟩, hS.F ht⟩) hS.2.2 dL_checker_309)
      · skip
        have hkF : k < 70 := by have := mt (nI_leI (a := 70) (b := k) (by decide) (by omega)).mpr c_36; omega
        refine lv_aload_n hx hb dL_checker_39 rfl (lv_at hl 6 rfl) ?_
        refine lv_iload_n hx hb dL_checker_40 rfl (lv_at hl 5 rfl) ?_
        refine lv_iconst (v := 3) hx hb dL_checker_41 (by decide) ?_
        refine lv_iload hx hb dL_checker_42 (lv_at hl 0 rfl) ?_
        refine lv_imul hx hb dL_checker_44 ?_
        refine lv_topi (fun dv edv => ?_)
        obtain rfl : dv = nI (3 * k) := by rw [edv]; exact pk_mul 3 k
        refine lv_iadd hx hb dL_checker_45 ?_
        refine lv_topi (fun dv edv => ?_)
        obtain rfl : dv = nI (at9 + (3 * k)) := by rw [edv]; exact nI_add at9 (3 * k)
        refine lv_iconst (v := 1) hx hb dL_checker_46 (by decide) ?_
        refine lv_iadd hx hb dL_checker_47 ?_
        refine lv_topi (fun dv edv => ?_)
        obtain rfl : dv = nI ((at9 + (3 * k)) + 1) := by rw [edv]; exact nI_add (at9 + (3 * k)) 1
        refine lv_ldc (v := (1073741824)) hx hb hown w_7 dL_checker_48 ?_
        refine g_csi (va_runS (As := [.ref b0, .int (nI ((at9 + (3 * k)) + 1)), .int (1073741824)]) (rest := []) ⟨hx, hb, hml, hown, hts⟩ (kL_draw l b0 Ls ((at9 + (3 * k)) + 1) 1073741824 xs (by omega) (by decide) (by decide) hLs) (va_cwS 3 hts gL_checker_L_draw rfl rfl rfl (by decide +kernel) ⟨(Nat.le_of_ble_eq_true rfl), (Nat.le_of_ble_eq_true rfl)⟩) (xP_s (hX.kept (hS.2.1 b0 hb0 hbA))) rfl rfl hl.1 rfl (lv_room (Nat.le_of_ble_eq_true rfl)) dL_checker_50 ⟨by show 395 * k + 3300 * (k / 9) + 14 + 0 ≤ 51000; omega, by show 2370 * k + 19800 * (k / 9) + 700 + 0 ≤ 306000; omega⟩) (fun r_1 hr_1 => ?_)
        obtain ⟨x, hxb, rfl⟩ := hr_1
        refine lv_istore (lv' := [(7, .int (nI x)), (6, .int (nI k)), (5, .ref cb), (4, .ref rb), (3, .ref pb), (2, .ref (a 0)), (1, .int (nI at9)), (0, .ref b0)]) hx hb dL_checker_53 hl (by decide) rfl (fun ls hl => ?_)
        refine lv_aload_n hx hb dL_checker_55 rfl (lv_at hl 7 rfl) ?_
        refine lv_iload_n hx hb dL_checker_56 rfl (lv_at hl 6 rfl) ?_
        refine lv_iconst (v := 3) hx hb dL_checker_57 (by decide) ?_
        refine lv_iload hx hb dL_checker_58 (lv_at hl 1 rfl) ?_
        refine lv_imul hx hb dL_checker_60 ?_
        refine lv_topi (fun dv edv => ?_)
        obtain rfl : dv = nI (3 * k) := by rw [edv]; exact pk_mul 3 k
        refine lv_iadd hx hb dL_checker_61 ?_
        refine lv_topi (fun dv edv => ?_)
        obtain rfl : dv = nI (at9 + (3 * k)) := by rw [edv]; exact nI_add at9 (3 * k)
        refine lv_iconst (v := 2) hx hb dL_checker_62 (by decide) ?_
        refine lv_iadd hx hb dL_checker_63 ?_
        refine lv_topi (fun dv edv => ?_)
        obtain rfl : dv = nI ((at9 + (3 * k)) + 2) := by rw [edv]; exact nI_add (at9 + (3 * k)) 2
        refine lv_ldc (v := (1073741824)) hx hb hown w_7 dL_checker_64 ?_
        refine g_csi (va_runS (As := [.ref b0, .int (nI ((at9 + (3 * k)) + 2)), .int (1073741824)]) (rest := []) ⟨hx, hb, hml, hown, hts⟩ (kL_draw l b0 Ls ((at9 + (3 * k)) + 2) 1073741824 xs (by omega) (by decide) (by decide) hLs) (va_cwS 3 hts gL_checker_L_draw rfl rfl rfl (by decide +kernel) ⟨(Nat.le_of_ble_eq_true rfl), (Nat.le_of_ble_eq_true rfl)⟩) (xP_s (hX.kept (hS.2.1 b0 hb0 hbA))) rfl rfl hl.1 rfl (lv_room (Nat.le_of_ble_eq_true rfl)) dL_checker_66 ⟨by show 395 * k + 3300 * (k / 9) + 14 + 0 ≤ 51000; omega, by show 2370 * k + 19800 * (k / 9) + 700 + 0 ≤ 306000; omega⟩) (fun r_2 hr_2 => ?_)
        obtain ⟨y, hyb, rfl⟩ := hr_2
        refine lv_istore (lv' := [(8, .int (nI y)), (7, .int (nI x)), (6, .int (nI k)), (5, .ref cb), (4, .ref rb), (3, .ref pb), (2, .ref (a 0)), (1, .int (nI at9)), (0, .ref b0)]) hx hb dL_checker_69 hl (by decide) rfl (fun ls hl => ?_)
        have jn_71 : ∀ (wi : Int32), (∃ w9 : Nat, wi = nI w9 ∧ w9 < 24) → ∀ ls : Array Slot, lv_has ls 13 [(8, .int (nI y)), (7, .int (nI x)), (6, .int (nI k)), (5, .ref cb), (4, .ref rb), (3, .ref pb), (2, .ref (a 0)), (1, .int (nI at9)), (0, .ref b0)] → W p9 l e9 (headSpec wsL_checker ({ frames := 13, cells := 51000, slots := 306000, locals := 276 } : Room)).room s m9 ([.ref b0, .int (nI at9)] : List Value).toArray below meth c9 H locs (395 * k + 3300 * (k / 9) + 14) (2370 * k + 19800 * (k / 9) + 700) (MQ below (va_Qi (fun (r : Int32) (_ : Unit) => r = 1) (fun _ _ => True) A) ([.ref b0, .int (nI at9)] : List Value).toArray s 51000 306000 A) (F0 m9 116 ls [.int wi]) := by
          intro wi hjn ls hl
          obtain ⟨w9, rfl, hw9b⟩ := hjn
          refine lv_istore (lv' := [(9, .int (nI w9)), (8, .int (nI y)), (7, .int (nI x)), (6, .int (nI k)), (5, .ref cb), (4, .ref rb), (3, .ref pb), (2, .ref (a 0)), (1, .int (nI at9)), (0, .ref b0)]) hx hb dL_checker_116 hl (by decide) rfl (fun ls hl => ?_)
          refine lv_aload_n hx hb dL_checker_118 rfl (lv_at hl 7 rfl) ?_
          refine lv_iload hx hb dL_checker_119 (lv_at hl 0 rfl) ?_
          refine lv_iload hx hb dL_checker_121 (lv_at hl 2 rfl) ?_
          refine lv_iload hx hb dL_checker_123 (lv_at hl 1 rfl) ?_
          refine lv_aload_n hx hb dL_checker_125 rfl (lv_at hl 6 rfl) ?_
          refine lv_aload hx hb dL_checker_126 (lv_at hl 5 rfl) ?_
          refine lv_aload hx hb dL_checker_128 (lv_at hl 4 rfl) ?_
          obtain ⟨FA, nC, nR, nL, nF, par, wt, sk, fk, hd, rea, sig, ck, cf, cd, cv, nx, pv, rv, kv, L, ⟨-, hOk0, hpk0, hrk0, hkk0⟩, hP, hD⟩ := hI
          refine va_calli (va_runS (As := [.ref (a 0), .int (nI w9), .int (nI x), .int (nI y), .ref pb, .ref rb, .ref cb]) (rest := []) ⟨hx, hb, hml, hown, hts⟩ (kL_step l D cI cZ cO cL dt A a FA nC nR nL nF par wt sk fk hd rea sig ck cf cd cv nx pb rb cb pv rv kv L w9 x y hlt hOk0 hpk0 hrk0 hkk0 hw9b hxb hyb) (va_cwS 7 hts gL_checker_L_step rfl rfl rfl (by decide +kernel) ⟨(Nat.le_of_ble_eq_true rfl), (Nat.le_of_ble_eq_true rfl)⟩) (gP.s (hg.on hS) ⟨hP, hD⟩) rfl rfl hl.1 rfl (lv_room (Nat.le_of_ble_eq_true rfl)) dL_checker_130 ⟨by show 395 * k + 3300 * (k / 9) + 14 + 34 ≤ 51000; omega, by show 2370 * k + 19800 * (k / 9) + 700 + 204 ≤ 306000; omega⟩) hS (fun q _ h => h) (fun q h => h) (fun r1 u t H locs ht hvm hw hB hz hk hS => ?_)
          rw [ht] at hB
          obtain rfl : r1 = 1 := hw
          clear hOk0 hpk0 hrk0 hkk0 hP hD FA nC nR nL nF par wt sk fk hd rea sig ck cf cd cv nx pv rv kv L
          obtain ⟨FA, nC, nR, nL, nF, par, wt, sk, fk, hd, rea, sig, ck, cf, cd, cv, nx, pv, rv, kv, L, ⟨hC0, hOk, hpk, hrk, hkk⟩, hP, hD⟩ := hB
          obtain ⟨⟨hC12, hR5, hL8, hF⟩, ⟨hT, hwt⟩, ⟨hsk12, hfk12, hskC⟩, ⟨hCh, hH, hN, hfL⟩, hck, hcf8, hcd, hcv, hckC⟩ := id hOk
          have hcf : ∀ k, cf k < 2 ^ 31 := fun k => by have := hcf8 k; omega
          obtain ⟨hk0, hk1, hk2, hk3⟩ := id hkk
          refine W.widen (k := 395 * k + 3300 * (k / 9) + 48) (n := 2370 * k + 19800 * (k / 9) + 904) (by omega) (by omega) ?_
          have hP : va_P D vwCl (WD cI cO a FA nC nR nL nF par wt (fun r => nI (sk r)) (fun r => nI (fk r)) hd rea sig ++ (WF FA ck cf cd cv nx nF ++ (LR cI pb rb cb pv rv kv))) H := hP
          have hD : va_D A (WD cI cO a FA nC nR nL nF par wt (fun r => nI (sk r)) (fun r => nI (fk r)) hd rea sig ++ (WF FA ck cf cd cv nx nF ++ (LR cI pb rb cb pv rv kv))) := hD
          refine lv_if_ne (tgt := 138) hx hb dL_checker_133 (by decide) (fun c_133 => ?_) (fun c_133 => ?_)
          · skip
            refine lv_iload hx hb dL_checker_138 (lv_at hl 1 rfl) ?_
            refine lv_bipush (v := 9) hx hb dL_checker_140 (by decide) ?_
            refine lv_idiv hx hb dL_checker_142 (by decide) ?_
            refine lv_topi (fun dv edv => ?_)
            obtain rfl : dv = nI (y / 9) := by rw [edv]; exact pk_div (a := y) (d := 9) (by omega) (by omega) (by omega)
            refine lv_aload hx hb dL_checker_143 (lv_at hl 4 rfl) ?_
            refine lv_iconst (v := 2) hx hb dL_checker_145 (by decide) ?_
            refine g_iald hx hb hK hP (11 + nF + 2) 0 (n := 4) (f := kv) (WDRj 2 rfl) rfl 2 rfl (by omega) (by decide) dL_checker_146 ?_
            refine lv_topi (fun dv edv => ?_)
            obtain rfl : dv = nI (nL + 1) := by rw [edv]; exact hk2
            refine lv_irem hx hb dL_checker_147 (nI_ne0 (by omega) (by omega)) ?_
            refine lv_topi (fun dv edv => ?_)
            obtain ⟨f1, hf1, ef1, rfl⟩ : ∃ z : Nat, z < (nL + 1) ∧ z = (y / 9) % (nL + 1) ∧ dv = nI z := ⟨(y / 9) % (nL + 1), Nat.mod_lt _ (by omega), rfl, by rw [edv]; exact pk_rem (a := (y / 9)) (d := (nL + 1)) (by omega) (by omega) (by omega)⟩
            refine lv_istore (lv' := [(10, .int (nI f1)), (9, .int (nI w9)), (8, .int (nI y)), (7, .int (nI x)), (6, .int (nI k)), (5, .ref cb), (4, .ref rb), (3, .ref pb), (2, .ref (a 0)), (1, .int (nI at9)), (0, .ref b0)]) hx hb dL_checker_148 hl (by decide) rfl (fun ls hl => ?_)
            refine lv_aload_n hx hb dL_checker_150 rfl (lv_at hl 8 rfl) ?_
            refine lv_aload_n hx hb dL_checker_151 rfl (lv_at hl 7 rfl) ?_
            refine lv_aload hx hb dL_checker_152 (lv_at hl 5 rfl) ?_
            refine lv_iload hx hb dL_checker_154 (lv_at hl 3 rfl) ?_
            refine lv_bipush (v := 9) hx hb dL_checker_156 (by decide) ?_
            refine lv_idiv hx hb dL_checker_158 (by decide) ?_
            refine lv_topi (fun dv edv => ?_)
            obtain rfl : dv = nI (x / 9) := by rw [edv]; exact pk_div (a := x) (d := 9) (by omega) (by omega) (by omega)
            refine lv_aload hx hb dL_checker_159 (lv_at hl 5 rfl) ?_
            refine lv_iconst (v := 0) hx hb dL_checker_161 (by decide) ?_
            refine g_iald hx hb hK hP (11 + nF + 2) 0 (n := 4) (f := kv) (WDRj 2 rfl) rfl 0 rfl (by omega) (by decide) dL_checker_162 ?_
            refine lv_topi (fun dv edv => ?_)
            obtain rfl : dv = nI nC := by rw [edv]; exact hk0
            refine lv_irem hx hb dL_checker_163 (nI_ne0 (by omega) (by omega)) ?_
            refine lv_topi (fun dv edv => ?_)
            obtain rfl : dv = nI ((x / 9) % nC) := by rw [edv]; exact pk_rem (a := (x / 9)) (d := nC) (by omega) (by omega) (by omega)
            refine lv_iload hx hb dL_checker_164 (lv_at hl 2 rfl) ?_
            refine lv_bipush (v := 11) hx hb dL_checker_166 (by decide) ?_
            refine lv_idiv hx hb dL_checker_168 (by decide) ?_
            refine lv_topi (fun dv edv => ?_)
            obtain rfl : dv = nI (y / 11) := by rw [edv]; exact pk_div (a := y) (d := 11) (by omega) (by omega) (by omega)
            refine lv_iconst (v := 4) hx hb dL_checker_169 (by decide) ?_
            refine lv_irem hx hb dL_checker_170 (by decide) ?_
            refine lv_topi (fun dv edv => ?_)
            obtain rfl : dv = nI ((y / 11) % 4) := by rw [edv]; exact pk_rem (a := (y / 11)) (d := 4) (by omega) (by omega) (by omega)
            refine lv_iload hx hb dL_checker_171 (lv_at hl 3 rfl) ?_
            refine lv_iconst (v := 5) hx hb dL_checker_173 (by decide) ?_
            refine lv_idiv hx hb dL_checker_174 (by decide) ?_
            refine lv_topi (fun dv edv => ?_)
            obtain rfl : dv = nI (x / 5) := by rw [edv]; exact pk_div (a := x) (d := 5) (by omega) (by omega) (by omega)
            refine lv_iconst (v := 4) hx hb dL_checker_175 (by decide) ?_
            refine lv_irem hx hb dL_checker_176 (by decide) ?_
            refine lv_topi (fun dv edv => ?_)
            obtain rfl : dv = nI ((x / 5) % 4) := by rw [edv]; exact pk_rem (a := (x / 5)) (d := 4) (by omega) (by omega) (by omega)
            refine lv_iload hx hb dL_checker_177 (lv_at hl 0 rfl) ?_
            refine va_calli (va_runS (As := [.ref (a 0), .ref pb, .ref cb, .int (nI ((x / 9) % nC)), .int (nI ((y / 11) % 4)), .int (nI ((x / 5) % 4)), .int (nI f1)]) (rest := []) ⟨hx, hb, hml, hown, hts⟩ (kL_isKey l D cI cZ cO cL dt A a FA nC nR nL nF par wt sk fk hd rea sig ck cf cd cv nx pb rb cb pv rv kv L ((x / 9) % nC) ((y / 11) % 4) ((x / 5) % 4) f1 hlt hOk hpk hkk (Nat.mod_lt _ hC0) (by omega) (by omega) hf1) (va_cwS 7 hts gL_checker_L_isKey rfl rfl rfl (by decide +kernel) ⟨(Nat.le_of_ble_eq_true rfl), (Nat.le_of_ble_eq_true rfl)⟩) (gP.s (hg.on hS) (⟨hP, hD⟩)) rfl rfl hl.1 rfl (lv_room (Nat.le_of_ble_eq_true rfl)) dL_checker_179 ⟨by show 395 * k + 3300 * (k / 9) + 48 + 170 ≤ 51000; omega, by show 2370 * k + 19800 * (k / 9) + 904 + 1020 ≤ 306000; omega⟩) hS (fun q _ h => h) (fun q h => h) (fun r_3 ur_3 tr_3 H locs htr_3 hvmr_3 hr_3 hB hzr_3 hkr_3 hS => ?_)
            rw [htr_3] at hB
            obtain ⟨hP, hD⟩ := hB
            refine W.widen (k := 395 * k + 3300 * (k / 9) + 218) (n := 2370 * k + 19800 * (k / 9) + 1924) (by omega) (by omega) ?_
            have hP : va_P D vwCl (WD cI cO a FA nC nR nL nF par wt (fun r => nI (sk r)) (fun r => nI (fk r)) hd ur_3.1 ur_3.2 ++ (WF FA ck cf cd cv nx nF ++ (LR cI pb rb cb pv rv kv))) H := hP
            have hD : va_D A (WD cI cO a FA nC nR nL nF par wt (fun r => nI (sk r)) (fun r => nI (fk r)) hd ur_3.1 ur_3.2 ++ (WF FA ck cf cd cv nx nF ++ (LR cI pb rb cb pv rv kv))) := hD
            obtain rfl : r_3 = 1 := hr_3
            refine lv_if_eq (tgt := 215) hx hb dL_checker_182 (by decide) (fun c_182 => ?_) (fun c_182 => ?_)
            · skip
              exact absurd c_182 (by decide)
            · skip
              refine lv_aload_n hx hb dL_checker_185 rfl (lv_at hl 8 rfl) ?_
              refine lv_iload hx hb dL_checker_186 (lv_at hl 3 rfl) ?_
              refine lv_bipush (v := 7) hx hb dL_checker_188 (by decide) ?_
              refine lv_idiv hx hb dL_checker_190 (by decide) ?_
              refine lv_topi (fun dv edv => ?_)
              obtain rfl : dv = nI (x / 7) := by rw [edv]; exact pk_div (a := x) (d := 7) (by omega) (by omega) (by omega)
              refine lv_aload hx hb dL_checker_191 (lv_at hl 5 rfl) ?_
              refine lv_iconst (v := 0) hx hb dL_checker_193 (by decide) ?_
              refine g_iald hx hb hK hP (11 + nF + 2) 0 (n := 4) (f := kv) (WDRj 2 rfl) rfl 0 rfl (by omega) (by decide) dL_checker_194 ?_
              refine lv_topi (fun dv edv => ?_)
              obtain rfl : dv = nI nC := by rw [edv]; exact hk0
              refine lv_irem hx hb dL_checker_195 (nI_ne0 (by omega) (by omega)) ?_
              refine lv_topi (fun dv edv => ?_)
              obtain rfl : dv = nI ((x / 7) % nC) := by rw [edv]; exact pk_rem (a := (x / 7)) (d := nC) (by omega) (by omega) (by omega)
              refine lv_iload hx hb dL_checker_196 (lv_at hl 2 rfl) ?_
              refine lv_bipush (v := 13) hx hb dL_checker_198 (by decide) ?_
              refine lv_idiv hx hb dL_checker_200 (by decide) ?_
              refine lv_topi (fun dv edv => ?_)
              obtain rfl : dv = nI (y / 13) := by rw [edv]; exact pk_div (a := y) (d := 13) (by omega) (by omega) (by omega)
              refine lv_iconst (v := 4) hx hb dL_checker_201 (by decide) ?_
              refine lv_irem hx hb dL_checker_202 (by decide) ?_
              refine lv_topi (fun dv edv => ?_)
              obtain rfl : dv = nI ((y / 13) % 4) := by rw [edv]; exact pk_rem (a := (y / 13)) (d := 4) (by omega) (by omega) (by omega)
              refine lv_iload hx hb dL_checker_203 (lv_at hl 0 rfl) ?_
              refine va_calli (va_runS (As := [.ref (a 0), .int (nI ((x / 7) % nC)), .int (nI ((y / 13) % 4)), .int (nI f1)]) (rest := []) ⟨hx, hb, hml, hown, hts⟩ (kL_areMembers l D cI cZ cO cL dt A a FA nC nR nL nF par wt sk fk hd ur_3.1 ur_3.2 ck cf cd cv nx pb rb cb pv rv kv L ((x / 7) % nC) ((y / 13) % 4) f1 hlt hOk (Nat.mod_lt _ hC0) (by omega) hf1) (va_cwS 4 hts gL_checker_L_areMembers rfl rfl rfl (by decide +kernel) ⟨(Nat.le_of_ble_eq_true rfl), (Nat.le_of_ble_eq_true rfl)⟩) (gP.s (hg.on hS) (⟨hP, hD⟩)) rfl rfl hl.1 rfl (lv_room (Nat.le_of_ble_eq_true rfl)) dL_checker_205 ⟨by show 395 * k + 3300 * (k / 9) + 218 + 40 ≤ 51000; omega, by show 2370 * k + 19800 * (k / 9) + 1924 + 240 ≤ 306000; omega⟩) hS (fun q _ h => h) (fun q h => h) (fun r_4 ur_4 tr_4 H locs htr_4 hvmr_4 hr_4 hB hzr_4 hkr_4 hS => ?_)
              rw [htr_4] at hB
              obtain ⟨hP, hD⟩ := hB
              refine W.widen (k := 395 * k + 3300 * (k / 9) + 258) (n := 2370 * k + 19800 * (k / 9) + 2164) (by omega) (by omega) ?_
              have hP : va_P D vwCl (WD cI cO a FA nC nR nL nF par wt (fun r => nI (sk r)) (fun r => nI (fk r)) hd ur_3.1 ur_3.2 ++ (WF FA ck cf cd cv nx nF ++ (LR cI pb rb cb pv rv kv))) H := hP
              have hD : va_D A (WD cI cO a FA nC nR nL nF par wt (fun r => nI (sk r)) (fun r => nI (fk r)) hd ur_3.1 ur_3.2 ++ (WF FA ck cf cd cv nx nF ++ (LR cI pb rb cb pv rv kv))) := hD
              obtain rfl : r_4 = 1 := hr_4
              refine lv_if_eq (tgt := 215) hx hb dL_checker_208 (by decide) (fun c_208 => ?_) (fun c_208 => ?_)
              · skip
                exact absurd c_208 (by decide)
              · skip
                refine lv_iconst (v := 1) hx hb dL_checker_211 (by decide) ?_
                refine lv_goto (tgt := 216) hx hb dL_checker_212 (by decide) ?_
                refine lv_istore (lv' := [(11, .int 1), (10, .int (nI f1)), (9, .int (nI w9)), (8, .int (nI y)), (7, .int (nI x)), (6, .int (nI k)), (5, .ref cb), (4, .ref rb), (3, .ref pb), (2, .ref (a 0)), (1, .int (nI at9)), (0, .ref b0)]) hx hb dL_checker_216 hl (by decide) rfl (fun ls hl => ?_)
                refine lv_iconst (v := 0) hx hb dL_checker_218 (by decide) ?_
                refine lv_istore (lv' := [(12, .int 0), (11, .int 1), (10, .int (nI f1)), (9, .int (nI w9)), (8, .int (nI y)), (7, .int (nI x)), (6, .int (nI k)), (5, .ref cb), (4, .ref rb), (3, .ref pb), (2, .ref (a 0)), (1, .int (nI at9)), (0, .ref b0)]) hx hb dL_checker_219 hl (by decide) rfl (fun ls hl => ?_)
                have lj : ∀ (n j : Nat)  (H : Heap) (locs : List Loc), nR < j + n → j ≤ nR → va_P D vwCl (WD cI cO a FA nC nR nL nF par wt (fun r => nI (sk r)) (fun r => nI (fk r)) hd ur_3.1 ur_3.2 ++ (WF FA ck cf cd cv nx nF ++ (LR cI pb rb cb pv rv kv))) H → va_D A (WD cI cO a FA nC nR nL nF par wt (fun r => nI (sk r)) (fun r => nI (fk r)) hd ur_3.1 ur_3.2 ++ (WF FA ck cf cd cv nx nF ++ (LR cI pb rb cb pv rv kv))) → va_S A s.heap H locs → ∀ ls : Array Slot, lv_has ls 13 [(12, .int (nI j)), (11, .int 1), (10, .int (nI f1)), (9, .int (nI w9)), (8, .int (nI y)), (7, .int (nI x)), (6, .int (nI k)), (5, .ref cb), (4, .ref rb), (3, .ref pb), (2, .ref (a 0)), (1, .int (nI at9)), (0, .ref b0)] → W p9 l e9 (headSpec wsL_checker ({ frames := 13, cells := 51000, slots := 306000, locals := 276 } : Room)).room s m9 ([.ref b0, .int (nI at9)] : List Value).toArray below meth c9 H locs (395 * k + 3300 * (k / 9) + 30 * j + 258) (2370 * k + 19800 * (k / 9) + 180 * j + 2164) (MQ below (va_Qi (fun (r : Int32) (_ : Unit) => r = 1) (fun _ _ => True) A) ([.ref b0, .int (nI at9)] : List Value).toArray s 51000 306000 A) (F0 m9 221 ls []) := by
                  intro n
                  induction n with
                  | zero => intro j  H locs h1 h2; exact absurd h1 (by omega)
                  | succ n ih_lj =>
                    intro j  H locs hn_lj hk_lj  hP hD hS ls hl
                    refine lv_iload hx hb dL_checker_221 (lv_at hl 0 rfl) ?_
                    refine lv_aload hx hb dL_checker_223 (lv_at hl 7 rfl) ?_
                    refine lv_iconst (v := 1) hx hb dL_checker_225 (by decide) ?_
                    refine g_iald hx hb hK hP (11 + nF + 2) 0 (n := 4) (f := kv) (WDRj 2 rfl) rfl 1 rfl (by omega) (by decide) dL_checker_226 ?_
                    refine lv_topi (fun dv edv => ?_)
                    obtain rfl : dv = nI nR := by rw [edv]; exact hk1
                    refine lv_icmp_ge (tgt := 266) hx hb dL_checker_227 (by decide) (fun c_227 => ?_) (fun c_227 => ?_)
                    · skip
                      refine W.widen (k := 395 * k + 3300 * (k / 9) + 408) (n := 2370 * k + 19800 * (k / 9) + 3064) (by omega) (by omega) ?_
                      refine lv_iload hx hb dL_checker_266 (lv_at hl 1 rfl) ?_
                      refine lv_if_eq (tgt := 300) hx hb dL_checker_268 (by decide) (fun c_268 => ?_) (fun c_268 => ?_)
                      · skip
                        exact absurd c_268 (by decide)
                      · skip
                        refine lv_iload hx hb dL_checker_271 (lv_at hl 6 rfl) ?_
                        refine lv_bipush (v := 9) hx hb dL_checker_273 (by decide) ?_
                        refine lv_irem hx hb dL_checker_275 (by decide) ?_
                        refine lv_topi (fun dv edv => ?_)
                        obtain rfl : dv = nI (k % 9) := by rw [edv]; exact pk_rem (a := k) (d := 9) (by omega) (by omega) (by omega)
                        refine lv_bipush (v := 8) hx hb dL_checker_276 (by decide) ?_
                        refine lv_icmp_ne (tgt := 292) hx hb dL_checker_278 (by decide) (fun c_278 => ?_) (fun c_278 => ?_)
                        · skip
                          refine lv_aload_n hx hb dL_checker_292 rfl (lv_at hl 10 rfl) ?_
                          refine lv_iconst (v := 0) hx hb dL_checker_293 (by decide) ?_
                          refine va_calli (va_runV (As := [.int 0]) (rest := []) ⟨hx, hb, hml, hown, hts⟩ (m4_restated l D cI cZ cO cL dt A a FA nC nR nL nF par wt (fun r => nI (sk r)) (fun r => nI (fk r)) hd ur_3.1 ur_3.2 ck cf cd cv nx (LR cI pb rb cb pv rv kv) 0 hlt hF hC12 hck hcf hcd hcv hwt hCh hL8 (by omega)) (cwV 1 hts gL_checker_X4_restated rfl rfl rfl (by decide +kernel) ⟨(Nat.le_of_ble_eq_true rfl), (Nat.le_of_ble_eq_true rfl)⟩) (gP.v (hg.on hS) hP 3 rfl 0 rfl (⟨hP, hD⟩)) rfl rfl hl.1 rfl (lv_room (Nat.le_of_ble_eq_true rfl)) dL_checker_294 ⟨by show 395 * k + 3300 * (k / 9) + 408 + 1 ≤ 51000; omega, by show 2370 * k + 19800 * (k / 9) + 3064 + 6 ≤ 306000; omega⟩) hS (fun q _ h => h) (fun q h => h) (fun r_5 ur_5 tr_5 H locs htr_5 hvmr_5 hr_5 hB hzr_5 hkr_5 hS => ?_)
                          rw [htr_5] at hB
                          obtain ⟨hP, hD⟩ := hB
                          refine W.widen (k := 395 * k + 3300 * (k / 9) + 409) (n := 2370 * k + 19800 * (k / 9) + 3070) (by omega) (by omega) ?_
                          have hP : va_P D vwCl (WD cI cO a FA nC nR nL nF par wt (fun r => nI (sk r)) (fun r => nI (fk r)) hd ur_3.1 ur_3.2 ++ (WF FA ck cf cd cv nx nF ++ (LR cI pb rb cb pv rv kv))) H := hP
                          have hD : va_D A (WD cI cO a FA nC nR nL nF par wt (fun r => nI (sk r)) (fun r => nI (fk r)) hd ur_3.1 ur_3.2 ++ (WF FA ck cf cd cv nx nF ++ (LR cI pb rb cb pv rv kv))) := hD
                          obtain rfl : r_5 = 0 := hr_5.trans (rst_0 hcf8)
                          refine lv_if_eq (tgt := 302) hx hb dL_checker_297 (by decide) (fun c_297 => ?_) (fun c_297 => ?_)
                          · skip
                            refine lv_iinc (v := nI (k + 1)) (lv' := [(6, .int (nI (k + 1))), (12, .int (nI j)), (11, .int 1), (10, .int (nI f1)), (9, .int (nI w9)), (8, .int (nI y)), (7, .int (nI x)), (5, .ref cb), (4, .ref rb), (3, .ref pb), (2, .ref (a 0)), (1, .int (nI at9)), (0, .ref b0)]) hx hb dL_checker_302 hl (k := 6) rfl (nI_1 k) (by decide) rfl (fun ls hl => ?_)
                            refine lv_goto (tgt := 32) hx hb dL_checker_305 (by decide) ?_
                            refine W.widen (k := 395 * (k + 1) + 3300 * ((k + 1) / 9) + 14) (n := 2370 * (k + 1) + 19800 * ((k + 1) / 9) + 700) (by omega) (by omega) ?_
                            exact ih (k + 1) _ _ (by omega) (by omega) (lI_mk (n0 := 0) (Nat.zero_le _) hOk hpk hrk hkk hP hD) hS _ (lv_sub hl [0, 7, 8, 9, 10, 11, 12] rfl)
                          · skip
                            exact absurd c_297 (by decide)
                        · skip
                          have hk9 : k % 9 = 8 := (nI_eq (b := 8) (by omega) (by decide)).mp c_278
                          refine lv_aload_n hx hb dL_checker_281 rfl (lv_at hl 10 rfl) ?_
                          refine lv_aload hx hb dL_checker_282 (lv_at hl 7 rfl) ?_
                          refine lv_iload hx hb dL_checker_284 (lv_at hl 2 rfl) ?_
                          refine va_calli (va_runS (As := [.ref (a 0), .ref cb, .int (nI f1)]) (rest := []) ⟨hx, hb, hml, hown, hts⟩ (kL_areFaults l D cI cZ cO cL dt A a FA nC nR nL nF par wt sk fk hd ur_3.1 ur_3.2 ck cf cd cv nx pb rb cb pv rv kv L f1 hlt hOk hkk hf1) (va_cwS 3 hts gL_checker_L_areFaults rfl rfl rfl (by decide +kernel) ⟨(Nat.le_of_ble_eq_true rfl), (Nat.le_of_ble_eq_true rfl)⟩) (gP.s (hg.on hS) (⟨hP, hD⟩)) rfl rfl hl.1 rfl (lv_room (Nat.le_of_ble_eq_true rfl)) dL_checker_286 ⟨by show 395 * k + 3300 * (k / 9) + 408 + 3300 ≤ 51000; omega, by show 2370 * k + 19800 * (k / 9) + 3064 + 19800 ≤ 306000; omega⟩) hS (fun q _ h => h) (fun q h => h) (fun r_6 ur_6 tr_6 H locs htr_6 hvmr_6 hr_6 hB hzr_6 hkr_6 hS => ?_)
                          rw [htr_6] at hB
                          obtain ⟨hP, hD⟩ := hB
                          refine W.widen (k := 395 * k + 3300 * (k / 9) + 3708) (n := 2370 * k + 19800 * (k / 9) + 22864) (by omega) (by omega) ?_
                          have hP : va_P D vwCl (WD cI cO a FA nC nR nL nF par wt (fun r => nI (sk r)) (fun r => nI (fk r)) hd ur_3.1 ur_3.2 ++ (WF FA ck cf cd cv nx nF ++ (LR cI pb rb cb pv rv kv))) H := hP
                          have hD : va_D A (WD cI cO a FA nC nR nL nF par wt (fun r => nI (sk r)) (fun r => nI (fk r)) hd ur_3.1 ur_3.2 ++ (WF FA ck cf cd cv nx nF ++ (LR cI pb rb cb pv rv kv))) := hD
                          obtain rfl : r_6 = 1 := hr_6
                          refine lv_if_eq (tgt := 300) hx hb dL_checker_289 (by decide) (fun c_289 => ?_) (fun c_289 => ?_)
                          · skip
                            exact absurd c_289 (by decide)
                          · skip
                            refine lv_aload_n hx hb dL_checker_292 rfl (lv_at hl 10 rfl) ?_
                            refine lv_iconst (v := 0) hx hb dL_checker_293 (by decide) ?_
                            refine va_calli (va_runV (As := [.int 0]) (rest := []) ⟨hx, hb, hml, hown, hts⟩ (m4_restated l D cI cZ cO cL dt A a FA nC nR nL nF par wt (fun r => nI (sk r)) (fun r => nI (fk r)) hd ur_3.1 ur_3.2 ck cf cd cv nx (LR cI pb rb cb pv rv kv) 0 hlt hF hC12 hck hcf hcd hcv hwt hCh hL8 (by omega)) (cwV 1 hts gL_checker_X4_restated rfl rfl rfl (by decide +kernel) ⟨(Nat.le_of_ble_eq_true rfl), (Nat.le_of_ble_eq_true rfl)⟩) (gP.v (hg.on hS) hP 3 rfl 0 rfl (⟨hP, hD⟩)) rfl rfl hl.1 rfl (lv_room (Nat.le_of_ble_eq_true rfl)) dL_checker_294 ⟨by show 395 * k + 3300 * (k / 9) + 3708 + 1 ≤ 51000; omega, by show 2370 * k + 19800 * (k / 9) + 22864 + 6 ≤ 306000; omega⟩) hS (fun q _ h => h) (fun q h => h) (fun r_7 ur_7 tr_7 H locs htr_7 hvmr_7 hr_7 hB hzr_7 hkr_7 hS => ?_)
                            rw [htr_7] at hB
                            obtain ⟨hP, hD⟩ := hB
                            refine W.widen (k := 395 * k + 3300 * (k / 9) + 3709) (n := 2370 * k + 19800 * (k / 9) + 22870) (by omega) (by omega) ?_
                            have hP : va_P D vwCl (WD cI cO a FA nC nR nL nF par wt (fun r => nI (sk r)) (fun r => nI (fk r)) hd ur_3.1 ur_3.2 ++ (WF FA ck cf cd cv nx nF ++ (LR cI pb rb cb pv rv kv))) H := hP
                            have hD : va_D A (WD cI cO a FA nC nR nL nF par wt (fun r => nI (sk r)) (fun r => nI (fk r)) hd ur_3.1 ur_3.2 ++ (WF FA ck cf cd cv nx nF ++ (LR cI pb rb cb pv rv kv))) := hD
                            obtain rfl : r_7 = 0 := hr_7.trans (rst_0 hcf8)
                            refine lv_if_eq (tgt := 302) hx hb dL_checker_297 (by decide) (fun c_297 => ?_) (fun c_297 => ?_)
                            · skip
                              refine lv_iinc (v := nI (k + 1)) (lv' := [(6, .int (nI (k + 1))), (12, .int (nI j)), (11, .int 1), (10, .int (nI f1)), (9, .int (nI w9)), (8, .int (nI y)), (7, .int (nI x)), (5, .ref cb), (4, .ref rb), (3, .ref pb), (2, .ref (a 0)), (1, .int (nI at9)), (0, .ref b0)]) hx hb dL_checker_302 hl (k := 6) rfl (nI_1 k) (by decide) rfl (fun ls hl => ?_)
                              refine lv_goto (tgt := 32) hx hb dL_checker_305 (by decide) ?_
                              refine W.widen (k := 395 * (k + 1) + 3300 * ((k + 1) / 9) + 14) (n := 2370 * (k + 1) + 19800 * ((k + 1) / 9) + 700) (by omega) (by omega) ?_
                              exact ih (k + 1) _ _ (by omega) (by omega) (lI_mk (n0 := 0) (Nat.zero_le _) hOk hpk hrk hkk hP hD) hS _ (lv_sub hl [0, 7, 8, 9, 10, 11, 12] rfl)
                            · skip
                              exact absurd c_297 (by decide)
                    · skip
                      have hkF9 : j < nR := by have := mt (nI_leI (a := nR) (b := j) (by omega) (by omega)).mpr c_227; omega
                      refine lv_iload hx hb dL_checker_230 (lv_at hl 1 rfl) ?_
                      refine lv_if_eq (tgt := 266) hx hb dL_checker_232 (by decide) (fun c_232 => ?_) (fun c_232 => ?_)
                      · skip
                        exact absurd c_232 (by decide)
                      · skip
                        refine lv_aload_n hx hb dL_checker_235 rfl (lv_at hl 10 rfl) ?_
                        refine lv_aload hx hb dL_checker_236 (lv_at hl 8 rfl) ?_
                        refine lv_iload hx hb dL_checker_238 (lv_at hl 0 rfl) ?_
                        refine lv_iload hx hb dL_checker_240 (lv_at hl 5 rfl) ?_
                        refine lv_iconst (v := 3) hx hb dL_checker_242 (by decide) ?_
                        refine lv_idiv hx hb dL_checker_243 (by decide) ?_
                        refine lv_topi (fun dv edv => ?_)
                        obtain rfl : dv = nI (x / 3) := by rw [edv]; exact pk_div (a := x) (d := 3) (by omega) (by omega) (by omega)
                        refine lv_iconst (v := 5) hx hb dL_checker_244 (by decide) ?_
                        refine lv_irem hx hb dL_checker_245 (by decide) ?_
                        refine lv_topi (fun dv edv => ?_)
                        obtain rfl : dv = nI ((x / 3) % 5) := by rw [edv]; exact pk_rem (a := (x / 3)) (d := 5) (by omega) (by omega) (by omega)
                        refine lv_iload hx hb dL_checker_246 (lv_at hl 4 rfl) ?_
                        refine lv_bipush (v := 17) hx hb dL_checker_248 (by decide) ?_
                        refine lv_idiv hx hb dL_checker_250 (by decide) ?_
                        refine lv_topi (fun dv edv => ?_)
                        obtain rfl : dv = nI (y / 17) := by rw [edv]; exact pk_div (a := y) (d := 17) (by omega) (by omega) (by omega)
                        refine lv_iconst (v := 4) hx hb dL_checker_251 (by decide) ?_
                        refine lv_irem hx hb dL_checker_252 (by decide) ?_
                        refine lv_topi (fun dv edv => ?_)
                        obtain rfl : dv = nI ((y / 17) % 4) := by rw [edv]; exact pk_rem (a := (y / 17)) (d := 4) (by omega) (by omega) (by omega)
                        refine lv_iload hx hb dL_checker_253 (lv_at hl 2 rfl) ?_
                        refine va_calli (va_runS (As := [.ref (a 0), .ref rb, .int (nI j), .int (nI ((x / 3) % 5)), .int (nI ((y / 17) % 4)), .int (nI f1)]) (rest := []) ⟨hx, hb, hml, hown, hts⟩ (kL_isRoll l D cI cZ cO cL dt A a FA nC nR nL nF par wt sk fk hd ur_3.1 ur_3.2 ck cf cd cv nx pb rb cb pv rv kv L j ((x / 3) % 5) ((y / 17) % 4) f1 hlt hOk hrk hkF9 (by omega) (by omega) hf1) (va_cwS 6 hts gL_checker_L_isRoll rfl rfl rfl (by decide +kernel) ⟨(Nat.le_of_ble_eq_true rfl), (Nat.le_of_ble_eq_true rfl)⟩) (gP.s (hg.on hS) (⟨hP, hD⟩)) rfl rfl hl.1 rfl (lv_room (Nat.le_of_ble_eq_true rfl)) dL_checker_255 ⟨by show 395 * k + 3300 * (k / 9) + 30 * j + 258 + 30 ≤ 51000; omega, by show 2370 * k + 19800 * (k / 9) + 180 * j + 2164 + 180 ≤ 306000; omega⟩) hS (fun q _ h => h) (fun q h => h) (fun r_8 ur_8 tr_8 H locs htr_8 hvmr_8 hr_8 hB hzr_8 hkr_8 hS => ?_)
                        rw [htr_8] at hB
                        obtain ⟨hP, hD⟩ := hB
                        refine W.widen (k := 395 * k + 3300 * (k / 9) + 30 * j + 288) (n := 2370 * k + 19800 * (k / 9) + 180 * j + 2344) (by omega) (by omega) ?_
                        have hP : va_P D vwCl (WD cI cO a FA nC nR nL nF par wt (fun r => nI (sk r)) (fun r => nI (fk r)) hd ur_3.1 ur_3.2 ++ (WF FA ck cf cd cv nx nF ++ (LR cI pb rb cb pv rv kv))) H := hP
                        have hD : va_D A (WD cI cO a FA nC nR nL nF par wt (fun r => nI (sk r)) (fun r => nI (fk r)) hd ur_3.1 ur_3.2 ++ (WF FA ck cf cd cv nx nF ++ (LR cI pb rb cb pv rv kv))) := hD
                        obtain rfl : r_8 = 1 := hr_8
                        refine lv_istore (lv' := [(11, .int 1), (12, .int (nI j)), (10, .int (nI f1)), (9, .int (nI w9)), (8, .int (nI y)), (7, .int (nI x)), (6, .int (nI k)), (5, .ref cb), (4, .ref rb), (3, .ref pb), (2, .ref (a 0)), (1, .int (nI at9)), (0, .ref b0)]) hx hb dL_checker_258 hl (by decide) rfl (fun ls hl => ?_)
                        refine lv_iinc (v := nI (j + 1)) (lv' := [(12, .int (nI (j + 1))), (11, .int 1), (10, .int (nI f1)), (9, .int (nI w9)), (8, .int (nI y)), (7, .int (nI x)), (6, .int (nI k)), (5, .ref cb), (4, .ref rb), (3, .ref pb), (2, .ref (a 0)), (1, .int (nI at9)), (0, .ref b0)]) hx hb dL_checker_260 hl (k := 1) rfl (nI_1 j) (by decide) rfl (fun ls hl => ?_)
                        refine lv_goto (tgt := 221) hx hb dL_checker_263 (by decide) ?_
                        refine W.widen (k := 395 * k + 3300 * (k / 9) + 30 * (j + 1) + 258) (n := 2370 * k + 19800 * (k / 9) + 180 * (j + 1) + 2164) (by omega) (by omega) ?_
                        exact ih_lj (j + 1)  _ _ (by omega) (by omega)  hP hD hS _ (lv_sub hl [0, 1, 2, 3, 4, 5, 6, 7, 8, 9, 10, 11, 12] rfl)
                exact lj (nR + 1) 0  _ _ (by omega) (by omega)  hP hD hS _ (lv_sub hl [0, 1, 2, 3, 4, 5, 6, 7, 8, 9, 10, 11, 12] rfl)
          · skip
            exact absurd c_133 (by decide)
        refine lv_iload hx hb dL_checker_71 (lv_at hl 2 rfl) ?_
        refine lv_iconst (v := 5) hx hb dL_checker_73 (by decide) ?_
        refine lv_icmp_ge (tgt := 81) hx hb dL_checker_74 (by decide) (fun c_74 => ?_) (fun c_74 => ?_)
        · skip
          refine lv_iload hx hb dL_checker_81 (lv_at hl 2 rfl) ?_
          refine lv_bipush (v := 9) hx hb dL_checker_83 (by decide) ?_
          refine lv_icmp_ge (tgt := 92) hx hb dL_checker_85 (by decide) (fun c_85 => ?_) (fun c_85 => ?_)
          · skip
            refine lv_iload hx hb dL_checker_92 (lv_at hl 2 rfl) ?_
            refine lv_bipush (v := 9) hx hb dL_checker_94 (by decide) ?_
            refine lv_icmp_ne (tgt := 104) hx hb dL_checker_96 (by decide) (fun c_96 => ?_) (fun c_96 => ?_)
            · skip
              refine lv_aload_n hx hb dL_checker_104 rfl (lv_at hl 8 rfl) ?_
              refine lv_iload_n hx hb dL_checker_105 rfl (lv_at hl 7 rfl) ?_
              refine lv_iconst (v := 3) hx hb dL_checker_106 (by decide) ?_
              refine lv_iload hx hb dL_checker_107 (lv_at hl 2 rfl) ?_
              refine lv_imul hx hb dL_checker_109 ?_
              refine lv_topi (fun dv edv => ?_)
              obtain rfl : dv = nI (3 * k) := by rw [edv]; exact pk_mul 3 k
              refine lv_iadd hx hb dL_checker_110 ?_
              refine lv_topi (fun dv edv => ?_)
              obtain rfl : dv = nI (at9 + (3 * k)) := by rw [edv]; exact nI_add at9 (3 * k)
              refine lv_bipush (v := 24) hx hb dL_checker_111 (by decide) ?_
              refine g_csi (va_runS (As := [.ref b0, .int (nI (at9 + (3 * k))), .int 24]) (rest := []) ⟨hx, hb, hml, hown, hts⟩ (kL_draw l b0 Ls (at9 + (3 * k)) 24 xs (by omega) (by decide) (by decide) hLs) (va_cwS 3 hts gL_checker_L_draw rfl rfl rfl (by decide +kernel) ⟨(Nat.le_of_ble_eq_true rfl), (Nat.le_of_ble_eq_true rfl)⟩) (xP_s (hX.kept (hS.2.1 b0 hb0 hbA))) rfl rfl hl.1 rfl (lv_room (Nat.le_of_ble_eq_true rfl)) dL_checker_113 ⟨by show 395 * k + 3300 * (k / 9) + 14 + 0 ≤ 51000; omega, by show 2370 * k + 19800 * (k / 9) + 700 + 0 ≤ 306000; omega⟩) (fun r_9 hr_9 => ?_)
              obtain ⟨w9, hw9b, rfl⟩ := hr_9
              exact jn_71 _ ⟨w9, rfl, by omega⟩ _ (lv_sub hl [0, 1, 2, 3, 4, 5, 6, 7, 8] rfl)
            · skip
              refine lv_bipush (v := 6) hx hb dL_checker_99 (by decide) ?_
              refine lv_goto (tgt := 116) hx hb dL_checker_101 (by decide) ?_
              exact jn_71 _ ⟨6, rfl, by decide⟩ _ (lv_sub hl [0, 1, 2, 3, 4, 5, 6, 7, 8] rfl)
          · skip
            refine lv_iconst (v := 3) hx hb dL_checker_88 (by decide) ?_
            refine lv_goto (tgt := 116) hx hb dL_checker_89 (by decide) ?_
            exact jn_71 _ ⟨3, rfl, by decide⟩ _ (lv_sub hl [0, 1, 2, 3, 4, 5, 6, 7, 8] rfl)
        · skip
          refine lv_iconst (v := 0) hx hb dL_checker_77 (by decide) ?_
          refine lv_goto (tgt := 116) hx hb dL_checker_78 (by decide) ?_
          exact jn_71 _ ⟨0, rfl, by decide⟩ _ (lv_sub hl [0, 1, 2, 3, 4, 5, 6, 7, 8] rfl)
  exact lp 71 0 _ _ (by omega) (by omega) (lI_mk (n0 := 0) (Nat.zero_le _) sOk_0 pOk_0 rOk2_0 kOk_00 hP hD) hS _ (lv_sub hl [0, 1, 2, 3, 4, 6, 5] rfl)
