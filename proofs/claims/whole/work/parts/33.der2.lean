-- THE REFERENCE'S DERIVATION
theorem rG_v {kn de : Nat → Int32} {n : Nat} (h : ¬ kn n = 0) : rG kn de n = some (de n) := by unfold rG; rw [if_neg h]
theorem rG_n {kn de : Nat → Int32} {n : Nat} (h : kn n = 0) : rG kn de n = none := by unfold rG; rw [if_pos h]
theorem rPr_s {nC : Nat} {par wt : Nat → Int32} {h : Nat → Option Nat} {v : Nat → Int32} {L : List Nat} {kn de : Nat → Int32} {r k : Nat} (h1 : rPr nC par wt h v L kn de r k) (h2 : L.idxOf k < r → (dV nC par wt h v k).isSome = true → (rG kn de k).isSome = true) : rPr nC par wt h v L kn de r (k + 1) := fun j hj hr hs => by
  rcases Nat.lt_succ_iff_lt_or_eq.mp hj with q | q
  · exact h1 j q hr hs
  · subst q; exact h2 hr hs
section
variable {p : Program} {l : Launch} {e : Env} {R : Room} {s : State} {m : MethodId} {args : Array Value} {below : List Frame} {meth : Method} {c : Code} {H : Heap} {locs : List Loc} {cells slots : Nat} {Q : State → Prop}
variable {pc : Nat} {ls : Array Slot} {rest : List Value} {cc : ByteArray} {D : va_G} {cl : List vw_C} {tys : List (ClassId × FieldType)} {ws : va_W} {A : Nat → Prop} {H0 : Heap}
theorem g_zast (hexec : p.tables.exec = Jvm.exec) (hb : c.code = cc) (hK : va_K D cl tys s) (hP : va_P D cl ws H) (hD : va_D A ws) (hS : va_S A H0 H locs) (q0 t0 : Nat) {cA : ClassId} {n r : Nat} {f : Nat → Int32} (ha : ws[q0]? = some (r, .inl (cA, n, .inl f))) (ht : tys[t0]? = some (cA, .boolean)) {i x : Int32} (hx : vp_nar .boolean x = x) (k : Nat) (hi : i = nI k) (hk : k < n) (hn : n < 2 ^ 31) (hdg : decode cc pc = .ok (.bastore, 1)) (ws' : va_W) (hw : ws.set q0 (r, .inl (cA, n, .inl (upd f k x))) = ws')
    (kk : ∀ (H : Heap) (locs : List Loc), va_P D cl ws' H → va_D A ws' → va_S A H0 H locs → W p l e R s m args below meth c H locs cells slots Q (F0 m (pc + 1) ls rest)) : W p l e R s m args below meth c H locs cells slots Q (F0 m pc ls (.int x :: .int i :: .ref r :: rest)) := by
  subst hi
  subst hw
  refine va_zast hexec hb hK hP hD hS q0 t0 ha ht (vp_in_nI hk hn) hdg ?_
  rw [nI_clamp (Nat.lt_trans hk hn), hx]
  exact kk
end
set_option maxHeartbeats 4000000 in
set_option maxRecDepth 100000 in
/-- what is known of all concepts -/
theorem c5_derives (l : Launch) (D : va_G) (cI cZ cO cL : ClassId) (dt : Nat) (A : Nat → Prop) (b : Nat → Nat) (mC mR mL mF : Nat) (mpar mwt mstk mflw : Nat → Int32) (mc mp mm mf md : Nat → Nat) (mv mder mkn : Nat → Int32) (thr : Int32) (R : va_W) (L : List Nat) (pi mi fi : Int32) (hF : mF ≤ 80) (hC12 : mC ≤ 12) (hmf : ∀ k, mf k < 2 ^ 31) (hmd : ∀ k, md k < 2 ^ 31) (hT : tree mC mpar L)  : Met l yX5_derives wsX5_derives ({ frames := 2, cells := 0, slots := 0, locals := 51 } : Room) (gP D cI cZ cO cL dt A [.ref (b 0), .int pi, .int mi, .int fi] (fun H => va_P D vwCl (WM cI cZ b mC mR mL mF mpar mwt mstk mflw mc mp mm mf md mv mder mkn thr ++ R) H ∧ va_D A (WM cI cZ b mC mR mL mF mpar mwt mstk mflw mc mp mm mf md mv mder mkn thr ++ R))) (va_Qv (fun (u : (Nat → Int32) × (Nat → Int32)) => ∀ k, k < mC → rG u.1 u.2 k = dV mC mpar mwt (fun k => hM mc mp mm mf md mF (nI k) pi mi fi) mv k) (fun u t => va_P D vwCl (WM cI cZ b mC mR mL mF mpar mwt mstk mflw mc mp mm mf md mv u.2 u.1 thr ++ R) t.heap ∧ va_D A (WM cI cZ b mC mR mL mF mpar mwt mstk mflw mc mp mm mf md mv u.2 u.1 thr ++ R)) A) 0 0 A := by
  refine Met.ofW (cc := cX5_derives) (maxL := 10) (ret := none) (by decide) rfl ?_
  intro p9 e9 s m9 args below meth c9 s₁ B hml hv
  obtain ⟨rfl, hg, hP, hD⟩ := hv
  have hx := B.exec
  have hb := B.bytes
  have hr := B.returns
  have hts := atoms_spec (ws := wsX5_derives) B.pre
  have hown : s.vm.findClass RX5 = some m9.cls := findClass_of_methodNamed B.named
  have hlocks := B.notSynchronized
  have hK := hg.1
  have hS : va_S A s.heap s.heap [] := va_S.rf
  have w_0 := hts (.fieldLink RX5 54 "DimfactsModel" "concepts" "I") (by decide +kernel)
  have win_X5 : ∀ w ∈ wsX50, w ∈ wsX5_derives := by decide +kernel
  have w_2 := hts (.fieldLink RX5 47 "DimfactsModel" "isKnown" "[Z") (by decide +kernel)
  have w_3 := hts (.fieldLink RX5 44 "DimfactsModel" "derived" "[I") (by decide +kernel)
  have w_4 := hts (.fieldLink RX5 7 "DimfactsModel" "parent" "[I") (by decide +kernel)
  have w_5 := hts (.fieldLink RX5 13 "DimfactsModel" "weight" "[I") (by decide +kernel)
  have w_6 := hts (.fieldLink RX5 38 "DimfactsModel" "value" "[I") (by decide +kernel)
  have hl := lv_entry ([.ref (b 0), .int pi, .int mi, .int fi]) (n := 10) (Nat.le_of_ble_eq_true rfl)
  rw [lg_entry_eq]
  generalize (lg_sl ([.ref (b 0), .int pi, .int mi, .int fi]) ++ List.replicate (10 - (lg_sl ([.ref (b 0), .int pi, .int mi, .int fi])).length) Slot.unset).toArray = ls at hl ⊢
  have hl : lv_has ls 10 [(0, .ref (b 0)), (1, .int pi), (2, .int mi), (3, .int fi)] := hl
  have lpB : ∀ (n r : Nat) (kn : Nat → Int32) (de : Nat → Int32) (H : Heap) (locs : List Loc), mC < r + n → r ≤ mC → (rOk mC mpar mwt (fun k => hM mc mp mm mf md mF (nI k) pi mi fi) mv kn de) → (rPr mC mpar mwt (fun k => hM mc mp mm mf md mF (nI k) pi mi fi) mv L kn de r mC) → va_P D vwCl (WM cI cZ b mC mR mL mF mpar mwt mstk mflw mc mp mm mf md mv de kn thr ++ R) H → va_D A (WM cI cZ b mC mR mL mF mpar mwt mstk mflw mc mp mm mf md mv de kn thr ++ R) → va_S A s.heap H locs → ∀ ls : Array Slot, lv_has ls 10 [(4, .int (nI r)), (0, .ref (b 0)), (1, .int pi), (2, .int mi), (3, .int fi)] → W p9 l e9 (headSpec wsX5_derives ({ frames := 2, cells := 0, slots := 0, locals := 51 } : Room)).room s m9 ([.ref (b 0), .int pi, .int mi, .int fi] : List Value).toArray below meth c9 H locs 0 0 (MQ below (va_Qv (fun (u : (Nat → Int32) × (Nat → Int32)) => ∀ k, k < mC → rG u.1 u.2 k = dV mC mpar mwt (fun k => hM mc mp mm mf md mF (nI k) pi mi fi) mv k) (fun u t => va_P D vwCl (WM cI cZ b mC mR mL mF mpar mwt mstk mflw mc mp mm mf md mv u.2 u.1 thr ++ R) t.heap ∧ va_D A (WM cI cZ b mC mR mL mF mpar mwt mstk mflw mc mp mm mf md mv u.2 u.1 thr ++ R)) A) ([.ref (b 0), .int pi, .int mi, .int fi] : List Value).toArray s 0 0 A) (F0 m9 78 ls []) := by
    intro n
    induction n with
    | zero => intro r kn de H locs h1 h2; exact absurd h1 (by omega)
    | succ n ih_lpB =>
      intro r kn de H locs hn_lpB hk_lpB hO hp hP hD hS ls hl
      refine lv_iload hx hb dX5_derives_78 (lv_at hl 0 rfl) ?_
      refine lv_aload_n hx hb dX5_derives_80 rfl (lv_at hl 1 rfl) ?_
      refine va_get (D := D) (ci := 4) (v := .int (nI mC)) (C := RX5) (T := TX5) (N := 17) hx hb hts win_X5 hown hK hP (0) (rfl) rfl 0 (by decide) w_0 (fun _ h9 => h9) rfl dX5_derives_81 ?_
      refine lv_icmp_ge (tgt := 277) hx hb dX5_derives_84 (by decide) (fun c_84 => ?_) (fun c_84 => ?_)
      · skip
        have hkF : r = mC := by have := (nI_leI (a := mC) (b := r) (by omega) (by omega)).mp c_84; omega
        subst hkF
        exact W.vret hx hb hr (fun t ht hW => ⟨⟨(kn, de), rfl, fun k hk => rPr_end hT hO hp hk, g_PD ht hP hD⟩, hS.F ht⟩) hS.2.2 dX5_derives_277
      · skip
        have hkR : r < mC := by have := mt (nI_leI (a := mC) (b := r) (by omega) (by omega)).mpr c_84; omega
        refine lv_iconst (v := 0) hx hb dX5_derives_87 (by decide) ?_
        refine lv_istore (lv' := [(5, .int 0), (4, .int (nI r)), (0, .ref (b 0)), (1, .int pi), (2, .int mi), (3, .int fi)]) hx hb dX5_derives_88 hl (by decide) rfl (fun ls hl => ?_)
        have lpC : ∀ (n k : Nat) (kn2 : Nat → Int32) (de2 : Nat → Int32) (H : Heap) (locs : List Loc), mC < k + n → k ≤ mC → (rOk mC mpar mwt (fun k => hM mc mp mm mf md mF (nI k) pi mi fi) mv kn2 de2) → (rPr mC mpar mwt (fun k => hM mc mp mm mf md mF (nI k) pi mi fi) mv L kn2 de2 r mC) → (rPr mC mpar mwt (fun k => hM mc mp mm mf md mF (nI k) pi mi fi) mv L kn2 de2 (r + 1) k) → va_P D vwCl (WM cI cZ b mC mR mL mF mpar mwt mstk mflw mc mp mm mf md mv de2 kn2 thr ++ R) H → va_D A (WM cI cZ b mC mR mL mF mpar mwt mstk mflw mc mp mm mf md mv de2 kn2 thr ++ R) → va_S A s.heap H locs → ∀ ls : Array Slot, lv_has ls 10 [(5, .int (nI k)), (4, .int (nI r)), (0, .ref (b 0)), (1, .int pi), (2, .int mi), (3, .int fi)] → W p9 l e9 (headSpec wsX5_derives ({ frames := 2, cells := 0, slots := 0, locals := 51 } : Room)).room s m9 ([.ref (b 0), .int pi, .int mi, .int fi] : List Value).toArray below meth c9 H locs 0 0 (MQ below (va_Qv (fun (u : (Nat → Int32) × (Nat → Int32)) => ∀ k, k < mC → rG u.1 u.2 k = dV mC mpar mwt (fun k => hM mc mp mm mf md mF (nI k) pi mi fi) mv k) (fun u t => va_P D vwCl (WM cI cZ b mC mR mL mF mpar mwt mstk mflw mc mp mm mf md mv u.2 u.1 thr ++ R) t.heap ∧ va_D A (WM cI cZ b mC mR mL mF mpar mwt mstk mflw mc mp mm mf md mv u.2 u.1 thr ++ R)) A) ([.ref (b 0), .int pi, .int mi, .int fi] : List Value).toArray s 0 0 A) (F0 m9 90 ls []) := by
          intro n
          induction n with
          | zero => intro k kn2 de2 H locs h1 h2; exact absurd h1 (by omega)
          | succ n ih_lpC =>
            intro k kn2 de2 H locs hn_lpC hk_lpC hO2 hp2 hq2 hP hD hS ls hl
            refine lv_iload hx hb dX5_derives_90 (lv_at hl 0 rfl) ?_
            refine lv_aload_n hx hb dX5_derives_92 rfl (lv_at hl 2 rfl) ?_
            refine va_get (D := D) (ci := 4) (v := .int (nI mC)) (C := RX5) (T := TX5) (N := 17) hx hb hts win_X5 hown hK hP (0) (rfl) rfl 0 (by decide) w_0 (fun _ h9 => h9) rfl dX5_derives_93 ?_
            refine lv_icmp_ge (tgt := 271) hx hb dX5_derives_96 (by decide) (fun c_96 => ?_) (fun c_96 => ?_)
            · skip
              have hkF : k = mC := by have := (nI_leI (a := mC) (b := k) (by omega) (by omega)).mp c_96; omega
              subst hkF
              refine lv_iinc (v := nI (r + 1)) (lv' := [(4, .int (nI (r + 1))), (5, .int (nI k)), (0, .ref (b 0)), (1, .int pi), (2, .int mi), (3, .int fi)]) hx hb dX5_derives_271 hl (k := 1) rfl (nI_1 r) (by decide) rfl (fun ls hl => ?_)
              refine lv_goto (tgt := 78) hx hb dX5_derives_274 (by decide) ?_
              exact ih_lpB (r + 1) kn2 de2 _ _ (by omega) (by omega) hO2 hq2 hP hD hS _ (lv_sub hl [0, 2, 3, 4, 5] rfl)
            · skip
              have hkC : k < mC := by have := mt (nI_leI (a := mC) (b := k) (by omega) (by omega)).mpr c_96; omega
              have hcb := chC_le (par := mpar) (k := k) mC
              have hgb := chG_le (par := mpar) (g := rG kn2 de2) (k := k) mC
              refine lv_iconst (v := 0) hx hb dX5_derives_99 (by decide) ?_
              refine lv_istore (lv' := [(6, .int 0), (5, .int (nI k)), (4, .int (nI r)), (0, .ref (b 0)), (1, .int pi), (2, .int mi), (3, .int fi)]) hx hb dX5_derives_100 hl (by decide) rfl (fun ls hl => ?_)
              refine lv_iconst (v := 0) hx hb dX5_derives_102 (by decide) ?_
              refine lv_istore (lv' := [(7, .int 0), (6, .int 0), (5, .int (nI k)), (4, .int (nI r)), (0, .ref (b 0)), (1, .int pi), (2, .int mi), (3, .int fi)]) hx hb dX5_derives_103 hl (by decide) rfl (fun ls hl => ?_)
              refine lv_iconst (v := 0) hx hb dX5_derives_105 (by decide) ?_
              refine lv_istore (lv' := [(8, .int 0), (7, .int 0), (6, .int 0), (5, .int (nI k)), (4, .int (nI r)), (0, .ref (b 0)), (1, .int pi), (2, .int mi), (3, .int fi)]) hx hb dX5_derives_106 hl (by decide) rfl (fun ls hl => ?_)
              refine lv_iconst (v := 0) hx hb dX5_derives_108 (by decide) ?_
              refine lv_istore (lv' := [(9, .int 0), (8, .int 0), (7, .int 0), (6, .int 0), (5, .int (nI k)), (4, .int (nI r)), (0, .ref (b 0)), (1, .int pi), (2, .int mi), (3, .int fi)]) hx hb dX5_derives_109 hl (by decide) rfl (fun ls hl => ?_)
              have lp111 : ∀ (n111 j : Nat)  (x6 : Int32) (x7 : Int32) (x8 : Int32), mC < j + n111 → j ≤ mC → x6 = nI (chC mpar k j) → x7 = nI (chG mpar (rG kn2 de2) k j) → x8 = chS mpar mwt (rG kn2 de2) k j → (j = 0 ∨ kn2 k = 0) → ∀ ls : Array Slot, lv_has ls 10 [(9, .int (nI j)), (6, .int x6), (7, .int x7), (8, .int x8), (5, .int (nI k)), (4, .int (nI r)), (0, .ref (b 0)), (1, .int pi), (2, .int mi), (3, .int fi)] → W p9 l e9 (headSpec wsX5_derives ({ frames := 2, cells := 0, slots := 0, locals := 51 } : Room)).room s m9 ([.ref (b 0), .int pi, .int mi, .int fi] : List Value).toArray below meth c9 H locs 0 0 (MQ below (va_Qv (fun (u : (Nat → Int32) × (Nat → Int32)) => ∀ k, k < mC → rG u.1 u.2 k = dV mC mpar mwt (fun k => hM mc mp mm mf md mF (nI k) pi mi fi) mv k) (fun u t => va_P D vwCl (WM cI cZ b mC mR mL mF mpar mwt mstk mflw mc mp mm mf md mv u.2 u.1 thr ++ R) t.heap ∧ va_D A (WM cI cZ b mC mR mL mF mpar mwt mstk mflw mc mp mm mf md mv u.2 u.1 thr ++ R)) A) ([.ref (b 0), .int pi, .int mi, .int fi] : List Value).toArray s 0 0 A) (F0 m9 111 ls []) := by
                intro n111
                induction n111 with
                | zero => intro j  x6 x7 x8 h1 h2; exact absurd h1 (by omega)
                | succ n111 ih111 =>
                  intro j  x6 x7 x8 hn111 hk111 e111_6 e111_7 e111_8 v111_0 ls hl
                  refine lv_iload hx hb dX5_derives_111 (lv_at hl 0 rfl) ?_
                  refine lv_aload_n hx hb dX5_derives_113 rfl (lv_at hl 6 rfl) ?_
                  refine va_get (D := D) (ci := 4) (v := .int (nI mC)) (C := RX5) (T := TX5) (N := 17) hx hb hts win_X5 hown hK hP (0) (rfl) rfl 0 (by decide) w_0 (fun _ h9 => h9) rfl dX5_derives_114 ?_
                  refine lv_icmp_ge (tgt := 236) hx hb dX5_derives_117 (by decide) (fun c_117 => ?_) (fun c_117 => ?_)
                  · skip
                    have hkF : j = mC := by have := (nI_leI (a := mC) (b := j) (by omega) (by omega)).mp c_117; omega
                    rw [hkF] at e111_6
                    rw [hkF] at e111_7
                    rw [hkF] at e111_8
                    rw [hkF] at v111_0
                    refine lv_iload hx hb dX5_derives_236 (lv_at hl 1 rfl) ?_
                    refine lv_if_le (tgt := 265) hx hb dX5_derives_238 (by decide) (fun c_238 => ?_) (fun c_238 => ?_)
                    · skip
                      have hnoU : L.idxOf k < r + 1 → (dV mC mpar mwt (fun k => hM mc mp mm mf md mF (nI k) pi mi fi) mv k).isSome = true → (rG kn2 de2 k).isSome = true := by
                        first
                        | exact fun _ => hno9
                        | (rw [e111_6] at c_238; exact fun hr9 => rPr_no hT hC12 hp2 hkC hr9 (fun z => by have := (nI_leI (a := chC mpar k mC) (b := 0) (by omega) (by decide)).mp c_238; omega) (hO2.2 k hkC))
                      refine lv_iinc (v := nI (k + 1)) (lv' := [(5, .int (nI (k + 1))), (9, .int (nI j)), (6, .int x6), (7, .int x7), (8, .int x8), (4, .int (nI r)), (0, .ref (b 0)), (1, .int pi), (2, .int mi), (3, .int fi)]) hx hb dX5_derives_265 hl (k := 4) rfl (nI_1 k) (by decide) rfl (fun ls hl => ?_)
                      refine lv_goto (tgt := 90) hx hb dX5_derives_268 (by decide) ?_
                      exact ih_lpC (k + 1) kn2 de2 _ _ (by omega) (by omega) hO2 hp2 (rPr_s hq2 hnoU) hP hD hS _ (lv_sub hl [0, 5, 6, 7, 8, 9] rfl)
                    · skip
                      have h0c : 0 < chC mpar k mC := by
                        rw [e111_6] at c_238
                        have := mt (nI_leI (a := chC mpar k mC) (b := 0) (by omega) (by decide)).mpr c_238
                        omega
                      refine lv_iload hx hb dX5_derives_241 (lv_at hl 2 rfl) ?_
                      refine lv_iload hx hb dX5_derives_243 (lv_at hl 1 rfl) ?_
                      refine lv_icmp_ne (tgt := 265) hx hb dX5_derives_245 (by decide) (fun c_245 => ?_) (fun c_245 => ?_)
                      · skip
                        have hnoU : L.idxOf k < r + 1 → (dV mC mpar mwt (fun k => hM mc mp mm mf md mF (nI k) pi mi fi) mv k).isSome = true → (rG kn2 de2 k).isSome = true := fun hr9 => rPr_no hT hC12 hp2 hkC hr9 (fun z => c_245 (by rw [e111_7, e111_6, z.2])) (hO2.2 k hkC)
                        refine lv_iinc (v := nI (k + 1)) (lv' := [(5, .int (nI (k + 1))), (9, .int (nI j)), (6, .int x6), (7, .int x7), (8, .int x8), (4, .int (nI r)), (0, .ref (b 0)), (1, .int pi), (2, .int mi), (3, .int fi)]) hx hb dX5_derives_265 hl (k := 4) rfl (nI_1 k) (by decide) rfl (fun ls hl => ?_)
                        refine lv_goto (tgt := 90) hx hb dX5_derives_268 (by decide) ?_
                        exact ih_lpC (k + 1) kn2 de2 _ _ (by omega) (by omega) hO2 hp2 (rPr_s hq2 hnoU) hP hD hS _ (lv_sub hl [0, 5, 6, 7, 8, 9] rfl)
                      · skip
                        have hk0 : kn2 k = 0 := v111_0.resolve_left (by omega)
                        have hfull : chG mpar (rG kn2 de2) k mC = chC mpar k mC := by
                          rw [e111_7, e111_6] at c_245
                          exact (nI_eq (by omega) (by omega)).mp c_245
                        refine lv_aload_n hx hb dX5_derives_248 rfl (lv_at hl 6 rfl) ?_
                        refine va_get (D := D) (ci := 4) (v := .ref (b 12)) (C := RX5) (T := TX5) (N := 17) hx hb hts win_X5 hown hK hP (0) (rfl) rfl 15 (by decide) w_2 (fun _ h9 => h9) rfl dX5_derives_249 ?_
                        refine lv_iload hx hb dX5_derives_252 (lv_at hl 4 rfl) ?_
                        refine lv_iconst (v := 1) hx hb dX5_derives_254 (by decide) ?_
                        refine g_zast hx hb hK hP hD hS (12) 1 (n := 12) (f := kn2) (rfl) rfl (x := 1) (by decide) k rfl (by omega) (by decide) dX5_derives_255 (WM cI cZ b mC mR mL mF mpar mwt mstk mflw mc mp mm mf md mv de2 (upd kn2 k 1) thr ++ R) rfl (fun H locs hP hD hS => ?_)
                        refine lv_aload_n hx hb dX5_derives_256 rfl (lv_at hl 6 rfl) ?_
                        refine va_get (D := D) (ci := 4) (v := .ref (b 11)) (C := RX5) (T := TX5) (N := 17) hx hb hts win_X5 hown hK hP (0) (rfl) rfl 14 (by decide) w_3 (fun _ h9 => h9) rfl dX5_derives_257 ?_
                        refine lv_iload hx hb dX5_derives_260 (lv_at hl 4 rfl) ?_
                        refine lv_iload hx hb dX5_derives_262 (lv_at hl 3 rfl) ?_
                        refine g_iast hx hb hK hP hD hS (11) 0 (n := 12) (f := de2) (rfl) rfl k rfl (by omega) (by decide) dX5_derives_264 (WM cI cZ b mC mR mL mF mpar mwt mstk mflw mc mp mm mf md mv (upd de2 k x8) (upd kn2 k 1) thr ++ R) rfl (fun H locs hP hD hS => ?_)
                        refine lv_iinc (v := nI (k + 1)) (lv' := [(5, .int (nI (k + 1))), (9, .int (nI j)), (6, .int x6), (7, .int x7), (8, .int x8), (4, .int (nI r)), (0, .ref (b 0)), (1, .int pi), (2, .int mi), (3, .int fi)]) hx hb dX5_derives_265 hl (k := 4) rfl (nI_1 k) (by decide) rfl (fun ls hl => ?_)
                        refine lv_goto (tgt := 90) hx hb dX5_derives_268 (by decide) ?_
                        exact ih_lpC (k + 1) _ _ _ _ (by omega) (by omega) (by rw [e111_8]; exact rOk_up hT hC12 hO2 hkC hk0 h0c hfull) (rPr_mono hp2) (rPr_s (rPr_mono hq2) (fun _ _ => by rw [rG_up, if_pos rfl]; rfl)) hP hD hS _ (lv_sub hl [0, 5, 6, 7, 8, 9] rfl)
                  · skip
                    have hkF : j < mC := by have := mt (nI_leI (a := mC) (b := j) (by omega) (by omega)).mpr c_117; omega
                    refine lv_aload_n hx hb dX5_derives_120 rfl (lv_at hl 6 rfl) ?_
                    refine va_get (D := D) (ci := 4) (v := .ref (b 12)) (C := RX5) (T := TX5) (N := 17) hx hb hts win_X5 hown hK hP (0) (rfl) rfl 15 (by decide) w_2 (fun _ h9 => h9) rfl dX5_derives_121 ?_
                    refine lv_iload hx hb dX5_derives_124 (lv_at hl 4 rfl) ?_
                    refine g_zald hx hb hK hP (12) 1 (n := 12) (f := kn2) (rfl) rfl k rfl (by omega) (by decide) dX5_derives_126 ?_
                    refine lv_if_ne (tgt := 236) hx hb dX5_derives_127 (by decide) (fun c_127 => ?_) (fun c_127 => ?_)
                    · skip
                      have hj0 : j = 0 := v111_0.resolve_right c_127
                      subst hj0
                      have hx6 : x6 = 0 := e111_6
                      have hno9 : (dV mC mpar mwt (fun k => hM mc mp mm mf md mF (nI k) pi mi fi) mv k).isSome = true → (rG kn2 de2 k).isSome = true := fun _ => rG_s.mpr c_127
                      refine lv_iload hx hb dX5_derives_236 (lv_at hl 1 rfl) ?_
                      refine lv_if_le (tgt := 265) hx hb dX5_derives_238 (by decide) (fun c_238 => ?_) (fun c_238 => ?_)
                      · skip
                        have hnoU : L.idxOf k < r + 1 → (dV mC mpar mwt (fun k => hM mc mp mm mf md mF (nI k) pi mi fi) mv k).isSome = true → (rG kn2 de2 k).isSome = true := by
                          first
                          | exact fun _ => hno9
                          | (rw [e111_6] at c_238; exact fun hr9 => rPr_no hT hC12 hp2 hkC hr9 (fun z => by have := (nI_leI (a := chC mpar k mC) (b := 0) (by omega) (by decide)).mp c_238; omega) (hO2.2 k hkC))
                        refine lv_iinc (v := nI (k + 1)) (lv' := [(5, .int (nI (k + 1))), (9, .int (nI (0))), (6, .int x6), (7, .int x7), (8, .int x8), (4, .int (nI r)), (0, .ref (b 0)), (1, .int pi), (2, .int mi), (3, .int fi)]) hx hb dX5_derives_265 hl (k := 4) rfl (nI_1 k) (by decide) rfl (fun ls hl => ?_)
                        refine lv_goto (tgt := 90) hx hb dX5_derives_268 (by decide) ?_
                        exact ih_lpC (k + 1) kn2 de2 _ _ (by omega) (by omega) hO2 hp2 (rPr_s hq2 hnoU) hP hD hS _ (lv_sub hl [0, 5, 6, 7, 8, 9] rfl)
                      · skip
                        exact absurd (by rw [hx6]; decide) c_238
                    · skip
                      refine lv_iload hx hb dX5_derives_130 (lv_at hl 1 rfl) ?_
                      refine lv_aload_n hx hb dX5_derives_132 rfl (lv_at hl 6 rfl) ?_
                      refine va_get (D := D) (ci := 4) (v := .ref (b 1)) (C := RX5) (T := TX5) (N := 17) hx hb hts win_X5 hown hK hP (0) (rfl) rfl 1 (by decide) w_4 (fun _ h9 => h9) rfl dX5_derives_133 ?_
                      refine lv_iload hx hb dX5_derives_136 (lv_at hl 0 rfl) ?_
                      refine g_iald hx hb hK hP (1) 0 (n := 12) (f := mpar) (rfl) rfl j rfl (by omega) (by decide) dX5_derives_138 ?_
                      refine lv_iload hx hb dX5_derives_139 (lv_at hl 4 rfl) ?_
                      refine lv_icmp_ne (tgt := 148) hx hb dX5_derives_141 (by decide) (fun c_141 => ?_) (fun c_141 => ?_)
                      · skip
                        refine lv_iconst (v := 0) hx hb dX5_derives_148 (by decide) ?_
                        refine lv_iadd hx hb dX5_derives_149 ?_
                        refine lv_istore (lv' := [(6, .int (x6 + 0)), (9, .int (nI j)), (7, .int x7), (8, .int x8), (5, .int (nI k)), (4, .int (nI r)), (0, .ref (b 0)), (1, .int pi), (2, .int mi), (3, .int fi)]) hx hb dX5_derives_150 hl (by decide) rfl (fun ls hl => ?_)
                        refine lv_iload hx hb dX5_derives_152 (lv_at hl 2 rfl) ?_
                        refine lv_aload_n hx hb dX5_derives_154 rfl (lv_at hl 6 rfl) ?_
                        refine va_get (D := D) (ci := 4) (v := .ref (b 1)) (C := RX5) (T := TX5) (N := 17) hx hb hts win_X5 hown hK hP (0) (rfl) rfl 1 (by decide) w_4 (fun _ h9 => h9) rfl dX5_derives_155 ?_
                        refine lv_iload hx hb dX5_derives_158 (lv_at hl 1 rfl) ?_
                        refine g_iald hx hb hK hP (1) 0 (n := 12) (f := mpar) (rfl) rfl j rfl (by omega) (by decide) dX5_derives_160 ?_
                        refine lv_iload hx hb dX5_derives_161 (lv_at hl 4 rfl) ?_
                        refine lv_icmp_ne (tgt := 180) hx hb dX5_derives_163 (by decide) (fun c_163 => ?_) (fun c_163 => ?_)
                        · skip
                          refine lv_iconst (v := 0) hx hb dX5_derives_180 (by decide) ?_
                          refine lv_iadd hx hb dX5_derives_181 ?_
                          refine lv_istore (lv' := [(7, .int (x7 + 0)), (6, .int (x6 + 0)), (9, .int (nI j)), (8, .int x8), (5, .int (nI k)), (4, .int (nI r)), (0, .ref (b 0)), (1, .int pi), (2, .int mi), (3, .int fi)]) hx hb dX5_derives_182 hl (by decide) rfl (fun ls hl => ?_)
                          refine lv_iload hx hb dX5_derives_184 (lv_at hl 3 rfl) ?_
                          refine lv_aload_n hx hb dX5_derives_186 rfl (lv_at hl 6 rfl) ?_
                          refine va_get (D := D) (ci := 4) (v := .ref (b 1)) (C := RX5) (T := TX5) (N := 17) hx hb hts win_X5 hown hK hP (0) (rfl) rfl 1 (by decide) w_4 (fun _ h9 => h9) rfl dX5_derives_187 ?_
                          refine lv_iload hx hb dX5_derives_190 (lv_at hl 2 rfl) ?_
                          refine g_iald hx hb hK hP (1) 0 (n := 12) (f := mpar) (rfl) rfl j rfl (by omega) (by decide) dX5_derives_192 ?_
                          refine lv_iload hx hb dX5_derives_193 (lv_at hl 4 rfl) ?_
                          refine lv_icmp_ne (tgt := 226) hx hb dX5_derives_195 (by decide) (fun c_195 => ?_) (fun c_195 => ?_)
                          · skip
                            refine lv_iconst (v := 0) hx hb dX5_derives_226 (by decide) ?_
                            refine lv_iadd hx hb dX5_derives_227 ?_
                            refine lv_istore (lv' := [(8, .int (x8 + 0)), (7, .int (x7 + 0)), (6, .int (x6 + 0)), (9, .int (nI j)), (5, .int (nI k)), (4, .int (nI r)), (0, .ref (b 0)), (1, .int pi), (2, .int mi), (3, .int fi)]) hx hb dX5_derives_228 hl (by decide) rfl (fun ls hl => ?_)
                            refine lv_iinc (v := nI (j + 1)) (lv' := [(9, .int (nI (j + 1))), (8, .int (x8 + 0)), (7, .int (x7 + 0)), (6, .int (x6 + 0)), (5, .int (nI k)), (4, .int (nI r)), (0, .ref (b 0)), (1, .int pi), (2, .int mi), (3, .int fi)]) hx hb dX5_derives_230 hl (k := 3) rfl (nI_1 j) (by decide) rfl (fun ls hl => ?_)
                            refine lv_goto (tgt := 111) hx hb dX5_derives_233 (by decide) ?_
                            exact ih111 (j + 1)  (x6 + 0) (x7 + 0) (x8 + 0) (by omega) (by omega) (by rw [e111_6, chC_s, if_neg c_141]; exact Int32.add_zero _) (by rw [e111_7, chG_s, if_neg (fun z => c_141 z.1)]; exact Int32.add_zero _) (by rw [e111_8, chS_s, if_neg c_141]) (Or.inr c_127) _ (lv_sub hl [0, 3, 2, 1, 4, 5, 6, 7, 8, 9] rfl)
                          · skip
                            exact absurd c_195 c_141
                        · skip
                          exact absurd c_163 c_141
                      · skip
                        refine lv_iconst (v := 1) hx hb dX5_derives_144 (by decide) ?_
                        refine lv_goto (tgt := 149) hx hb dX5_derives_145 (by decide) ?_
                        refine lv_iadd hx hb dX5_derives_149 ?_
                        refine lv_istore (lv' := [(6, .int (x6 + 1)), (9, .int (nI j)), (7, .int x7), (8, .int x8), (5, .int (nI k)), (4, .int (nI r)), (0, .ref (b 0)), (1, .int pi), (2, .int mi), (3, .int fi)]) hx hb dX5_derives_150 hl (by decide) rfl (fun ls hl => ?_)
                        refine lv_iload hx hb dX5_derives_152 (lv_at hl 2 rfl) ?_
                        refine lv_aload_n hx hb dX5_derives_154 rfl (lv_at hl 6 rfl) ?_
                        refine va_get (D := D) (ci := 4) (v := .ref (b 1)) (C := RX5) (T := TX5) (N := 17) hx hb hts win_X5 hown hK hP (0) (rfl) rfl 1 (by decide) w_4 (fun _ h9 => h9) rfl dX5_derives_155 ?_
                        refine lv_iload hx hb dX5_derives_158 (lv_at hl 1 rfl) ?_
                        refine g_iald hx hb hK hP (1) 0 (n := 12) (f := mpar) (rfl) rfl j rfl (by omega) (by decide) dX5_derives_160 ?_
                        refine lv_iload hx hb dX5_derives_161 (lv_at hl 4 rfl) ?_
                        refine lv_icmp_ne (tgt := 180) hx hb dX5_derives_163 (by decide) (fun c_163 => ?_) (fun c_163 => ?_)
                        · skip
                          exact absurd c_141 c_163
                        · skip
                          refine lv_aload_n hx hb dX5_derives_166 rfl (lv_at hl 6 rfl) ?_
                          refine va_get (D := D) (ci := 4) (v := .ref (b 12)) (C := RX5) (T := TX5) (N := 17) hx hb hts win_X5 hown hK hP (0) (rfl) rfl 15 (by decide) w_2 (fun _ h9 => h9) rfl dX5_derives_167 ?_
                          refine lv_iload hx hb dX5_derives_170 (lv_at hl 1 rfl) ?_
                          refine g_zald hx hb hK hP (12) 1 (n := 12) (f := kn2) (rfl) rfl j rfl (by omega) (by decide) dX5_derives_172 ?_
                          refine lv_if_eq (tgt := 180) hx hb dX5_derives_173 (by decide) (fun c_173 => ?_) (fun c_173 => ?_)
                          · skip
                            refine lv_iconst (v := 0) hx hb dX5_derives_180 (by decide) ?_
                            refine lv_iadd hx hb dX5_derives_181 ?_
                            refine lv_istore (lv' := [(7, .int (x7 + 0)), (6, .int (x6 + 1)), (9, .int (nI j)), (8, .int x8), (5, .int (nI k)), (4, .int (nI r)), (0, .ref (b 0)), (1, .int pi), (2, .int mi), (3, .int fi)]) hx hb dX5_derives_182 hl (by decide) rfl (fun ls hl => ?_)
                            refine lv_iload hx hb dX5_derives_184 (lv_at hl 3 rfl) ?_
                            refine lv_aload_n hx hb dX5_derives_186 rfl (lv_at hl 6 rfl) ?_
                            refine va_get (D := D) (ci := 4) (v := .ref (b 1)) (C := RX5) (T := TX5) (N := 17) hx hb hts win_X5 hown hK hP (0) (rfl) rfl 1 (by decide) w_4 (fun _ h9 => h9) rfl dX5_derives_187 ?_
                            refine lv_iload hx hb dX5_derives_190 (lv_at hl 2 rfl) ?_
                            refine g_iald hx hb hK hP (1) 0 (n := 12) (f := mpar) (rfl) rfl j rfl (by omega) (by decide) dX5_derives_192 ?_
                            refine lv_iload hx hb dX5_derives_193 (lv_at hl 4 rfl) ?_
                            refine lv_icmp_ne (tgt := 226) hx hb dX5_derives_195 (by decide) (fun c_195 => ?_) (fun c_195 => ?_)
                            · skip
                              exact absurd c_141 c_195
                            · skip
                              refine lv_aload_n hx hb dX5_derives_198 rfl (lv_at hl 6 rfl) ?_
                              refine va_get (D := D) (ci := 4) (v := .ref (b 12)) (C := RX5) (T := TX5) (N := 17) hx hb hts win_X5 hown hK hP (0) (rfl) rfl 15 (by decide) w_2 (fun _ h9 => h9) rfl dX5_derives_199 ?_
                              refine lv_iload hx hb dX5_derives_202 (lv_at hl 2 rfl) ?_
                              refine g_zald hx hb hK hP (12) 1 (n := 12) (f := kn2) (rfl) rfl j rfl (by omega) (by decide) dX5_derives_204 ?_
                              refine lv_if_eq (tgt := 226) hx hb dX5_derives_205 (by decide) (fun c_205 => ?_) (fun c_205 => ?_)
                              · skip
                                refine lv_iconst (v := 0) hx hb dX5_derives_226 (by decide) ?_
                                refine lv_iadd hx hb dX5_derives_227 ?_
                                refine lv_istore (lv' := [(8, .int (x8 + 0)), (7, .int (x7 + 0)), (6, .int (x6 + 1)), (9, .int (nI j)), (5, .int (nI k)), (4, .int (nI r)), (0, .ref (b 0)), (1, .int pi), (2, .int mi), (3, .int fi)]) hx hb dX5_derives_228 hl (by decide) rfl (fun ls hl => ?_)
                                refine lv_iinc (v := nI (j + 1)) (lv' := [(9, .int (nI (j + 1))), (8, .int (x8 + 0)), (7, .int (x7 + 0)), (6, .int (x6 + 1)), (5, .int (nI k)), (4, .int (nI r)), (0, .ref (b 0)), (1, .int pi), (2, .int mi), (3, .int fi)]) hx hb dX5_derives_230 hl (k := 3) rfl (nI_1 j) (by decide) rfl (fun ls hl => ?_)
                                refine lv_goto (tgt := 111) hx hb dX5_derives_233 (by decide) ?_
                                exact ih111 (j + 1)  (x6 + 1) (x7 + 0) (x8 + 0) (by omega) (by omega) (by rw [e111_6, chC_s, if_pos c_141]; exact nI_1 _) (by rw [e111_7, chG_s, if_neg (fun z => rG_s.mp z.2 c_173)]; exact Int32.add_zero _) (by rw [e111_8, chS_s, if_pos c_141, rG_n c_173]) (Or.inr c_127) _ (lv_sub hl [0, 3, 2, 1, 4, 5, 6, 7, 8, 9] rfl)
                              · skip
                                exact absurd c_173 c_205
                          · skip
                            refine lv_iconst (v := 1) hx hb dX5_derives_176 (by decide) ?_
                            refine lv_goto (tgt := 181) hx hb dX5_derives_177 (by decide) ?_
                            refine lv_iadd hx hb dX5_derives_181 ?_
                            refine lv_istore (lv' := [(7, .int (x7 + 1)), (6, .int (x6 + 1)), (9, .int (nI j)), (8, .int x8), (5, .int (nI k)), (4, .int (nI r)), (0, .ref (b 0)), (1, .int pi), (2, .int mi), (3, .int fi)]) hx hb dX5_derives_182 hl (by decide) rfl (fun ls hl => ?_)
                            refine lv_iload hx hb dX5_derives_184 (lv_at hl 3 rfl) ?_
                            refine lv_aload_n hx hb dX5_derives_186 rfl (lv_at hl 6 rfl) ?_
                            refine va_get (D := D) (ci := 4) (v := .ref (b 1)) (C := RX5) (T := TX5) (N := 17) hx hb hts win_X5 hown hK hP (0) (rfl) rfl 1 (by decide) w_4 (fun _ h9 => h9) rfl dX5_derives_187 ?_
                            refine lv_iload hx hb dX5_derives_190 (lv_at hl 2 rfl) ?_
                            refine g_iald hx hb hK hP (1) 0 (n := 12) (f := mpar) (rfl) rfl j rfl (by omega) (by decide) dX5_derives_192 ?_
                            refine lv_iload hx hb dX5_derives_193 (lv_at hl 4 rfl) ?_
                            refine lv_icmp_ne (tgt := 226) hx hb dX5_derives_195 (by decide) (fun c_195 => ?_) (fun c_195 => ?_)
                            · skip
                              exact absurd c_141 c_195
                            · skip
                              refine lv_aload_n hx hb dX5_derives_198 rfl (lv_at hl 6 rfl) ?_
                              refine va_get (D := D) (ci := 4) (v := .ref (b 12)) (C := RX5) (T := TX5) (N := 17) hx hb hts win_X5 hown hK hP (0) (rfl) rfl 15 (by decide) w_2 (fun _ h9 => h9) rfl dX5_derives_199 ?_
                              refine lv_iload hx hb dX5_derives_202 (lv_at hl 2 rfl) ?_
                              refine g_zald hx hb hK hP (12) 1 (n := 12) (f := kn2) (rfl) rfl j rfl (by omega) (by decide) dX5_derives_204 ?_
                              refine lv_if_eq (tgt := 226) hx hb dX5_derives_205 (by decide) (fun c_205 => ?_) (fun c_205 => ?_)
                              · skip
                                exact absurd c_205 c_173
                              · skip
                                refine lv_aload_n hx hb dX5_derives_208 rfl (lv_at hl 6 rfl) ?_
                                refine va_get (D := D) (ci := 4) (v := .ref (b 2)) (C := RX5) (T := TX5) (N := 17) hx hb hts win_X5 hown hK hP (0) (rfl) rfl 2 (by decide) w_5 (fun _ h9 => h9) rfl dX5_derives_209 ?_
                                refine lv_iload hx hb dX5_derives_212 (lv_at hl 2 rfl) ?_
                                refine g_iald hx hb hK hP (2) 0 (n := 12) (f := mwt) (rfl) rfl j rfl (by omega) (by decide) dX5_derives_214 ?_
                                refine lv_aload_n hx hb dX5_derives_215 rfl (lv_at hl 6 rfl) ?_
                                refine va_get (D := D) (ci := 4) (v := .ref (b 11)) (C := RX5) (T := TX5) (N := 17) hx hb hts win_X5 hown hK hP (0) (rfl) rfl 14 (by decide) w_3 (fun _ h9 => h9) rfl dX5_derives_216 ?_
                                refine lv_iload hx hb dX5_derives_219 (lv_at hl 2 rfl) ?_
                                refine g_iald hx hb hK hP (11) 0 (n := 12) (f := de2) (rfl) rfl j rfl (by omega) (by decide) dX5_derives_221 ?_
                                refine lv_imul hx hb dX5_derives_222 ?_
                                refine lv_goto (tgt := 227) hx hb dX5_derives_223 (by decide) ?_
                                refine lv_iadd hx hb dX5_derives_227 ?_
                                refine lv_istore (lv' := [(8, .int (x8 + ((mwt j) * (de2 j)))), (7, .int (x7 + 1)), (6, .int (x6 + 1)), (9, .int (nI j)), (5, .int (nI k)), (4, .int (nI r)), (0, .ref (b 0)), (1, .int pi), (2, .int mi), (3, .int fi)]) hx hb dX5_derives_228 hl (by decide) rfl (fun ls hl => ?_)
                                refine lv_iinc (v := nI (j + 1)) (lv' := [(9, .int (nI (j + 1))), (8, .int (x8 + ((mwt j) * (de2 j)))), (7, .int (x7 + 1)), (6, .int (x6 + 1)), (5, .int (nI k)), (4, .int (nI r)), (0, .ref (b 0)), (1, .int pi), (2, .int mi), (3, .int fi)]) hx hb dX5_derives_230 hl (k := 3) rfl (nI_1 j) (by decide) rfl (fun ls hl => ?_)
                                refine lv_goto (tgt := 111) hx hb dX5_derives_233 (by decide) ?_
                                exact ih111 (j + 1)  (x6 + 1) (x7 + 1) (x8 + ((mwt j) * (de2 j))) (by omega) (by omega) (by rw [e111_6, chC_s, if_pos c_141]; exact nI_1 _) (by rw [e111_7, chG_s, if_pos ⟨c_141, rG_s.mpr c_173⟩]; exact nI_1 _) (by rw [e111_8, chS_s, if_pos c_141, rG_v c_173]) (Or.inr c_127) _ (lv_sub hl [0, 3, 2, 1, 4, 5, 6, 7, 8, 9] rfl)
              exact lp111 (mC + 1) 0  0 0 0 (by omega) (by omega) rfl rfl rfl (Or.inl rfl) _ (lv_sub hl [0, 3, 2, 1, 4, 5, 6, 7, 8, 9] rfl)
        exact lpC (mC + 1) 0 kn de _ _ (by omega) (by omega) hO hp (fun i hi => absurd hi (Nat.not_lt_zero _)) hP hD hS _ (lv_sub hl [0, 1, 2, 3, 4, 5] rfl)
  have lpA : ∀ (n k : Nat) (kn : Nat → Int32) (de : Nat → Int32) (H : Heap) (locs : List Loc), mC < k + n → k ≤ mC → (∀ i, i < k → rG kn de i = (hM mc mp mm mf md mF (nI i) pi mi fi).map mv) → va_P D vwCl (WM cI cZ b mC mR mL mF mpar mwt mstk mflw mc mp mm mf md mv de kn thr ++ R) H → va_D A (WM cI cZ b mC mR mL mF mpar mwt mstk mflw mc mp mm mf md mv de kn thr ++ R) → va_S A s.heap H locs → ∀ ls : Array Slot, lv_has ls 10 [(4, .int (nI k)), (0, .ref (b 0)), (1, .int pi), (2, .int mi), (3, .int fi)] → W p9 l e9 (headSpec wsX5_derives ({ frames := 2, cells := 0, slots := 0, locals := 51 } : Room)).room s m9 ([.ref (b 0), .int pi, .int mi, .int fi] : List Value).toArray below meth c9 H locs 0 0 (MQ below (va_Qv (fun (u : (Nat → Int32) × (Nat → Int32)) => ∀ k, k < mC → rG u.1 u.2 k = dV mC mpar mwt (fun k => hM mc mp mm mf md mF (nI k) pi mi fi) mv k) (fun u t => va_P D vwCl (WM cI cZ b mC mR mL mF mpar mwt mstk mflw mc mp mm mf md mv u.2 u.1 thr ++ R) t.heap ∧ va_D A (WM cI cZ b mC mR mL mF mpar mwt mstk mflw mc mp mm mf md mv u.2 u.1 thr ++ R)) A) ([.ref (b 0), .int pi, .int mi, .int fi] : List Value).toArray s 0 0 A) (F0 m9 3 ls []) := by
    intro n
    induction n with
    | zero => intro k kn de H locs h1 h2; exact absurd h1 (by omega)
    | succ n ih_lpA =>
      intro k kn de H locs hn_lpA hk_lpA h0 hP hD hS ls hl
      refine lv_iload hx hb dX5_derives_3 (lv_at hl 0 rfl) ?_
      refine lv_aload_n hx hb dX5_derives_5 rfl (lv_at hl 1 rfl) ?_
      refine va_get (D := D) (ci := 4) (v := .int (nI mC)) (C := RX5) (T := TX5) (N := 17) hx hb hts win_X5 hown hK hP (0) (rfl) rfl 0 (by decide) w_0 (fun _ h9 => h9) rfl dX5_derives_6 ?_
      refine lv_icmp_ge (tgt := 75) hx hb dX5_derives_9 (by decide) (fun c_9 => ?_) (fun c_9 => ?_)
      · skip
        have hkF : k = mC := by have := (nI_leI (a := mC) (b := k) (by omega) (by omega)).mp c_9; omega
        rw [hkF] at h0
        refine lv_iconst (v := 0) hx hb dX5_derives_75 (by decide) ?_
        refine lv_istore (lv' := [(4, .int 0), (0, .ref (b 0)), (1, .int pi), (2, .int mi), (3, .int fi)]) hx hb dX5_derives_76 hl (by decide) rfl (fun ls hl => ?_)
        exact lpB (mC + 1) 0 kn de _ _ (by omega) (by omega) (rOk_0 hT hC12 h0) (fun i _ hi => absurd hi (Nat.not_lt_zero _)) hP hD hS _ (lv_sub hl [0, 1, 2, 3, 4] rfl)
      · skip
        have hkF : k < mC := by have := mt (nI_leI (a := mC) (b := k) (by omega) (by omega)).mpr c_9; omega
        refine lv_aload_n hx hb dX5_derives_12 rfl (lv_at hl 1 rfl) ?_
        refine lv_iload hx hb dX5_derives_13 (lv_at hl 0 rfl) ?_
        refine lv_iload_n hx hb dX5_derives_15 rfl (lv_at hl 2 rfl) ?_
        refine lv_iload_n hx hb dX5_derives_16 rfl (lv_at hl 3 rfl) ?_
        refine lv_iload_n hx hb dX5_derives_17 rfl (lv_at hl 4 rfl) ?_
        refine g_csi (va_runV (As := [.int (nI k), .int pi, .int mi, .int fi]) (rest := []) ⟨hx, hb, hml, hown, hts⟩ (c5_holds l D cI cZ cO cL dt A b mC mR mL mF mpar mwt mstk mflw mc mp mm mf md mv de kn thr R (nI k) pi mi fi hF hmf hmd) (cwV 4 hts gX5_derives_X5_holds rfl rfl rfl (by decide +kernel) ⟨Nat.le_of_ble_eq_true rfl, Nat.le_of_ble_eq_true rfl⟩) (gP.v (hg.on hS) hP 4 rfl (0) (rfl) hP) rfl rfl hl.1 rfl (lv_room (Nat.le_of_ble_eq_true rfl)) dX5_derives_18 ⟨Nat.le_of_ble_eq_true rfl, Nat.le_of_ble_eq_true rfl⟩) (fun r_1 hr_1 => ?_)
        obtain ⟨o_r_1, hN⟩ : ∃ z, hM mc mp mm mf md mF (nI k) pi mi fi = z := ⟨_, rfl⟩
        rcases o_r_1 with _ | j
        · skip
          obtain rfl : r_1 = (-1) := hr_1.trans (congrArg oI hN)
          refine lv_istore (lv' := [(5, .int (-1)), (4, .int (nI k)), (0, .ref (b 0)), (1, .int pi), (2, .int mi), (3, .int fi)]) hx hb dX5_derives_21 hl (by decide) rfl (fun ls hl => ?_)
          refine lv_aload_n hx hb dX5_derives_23 rfl (lv_at hl 2 rfl) ?_
          refine va_get (D := D) (ci := 4) (v := .ref (b 12)) (C := RX5) (T := TX5) (N := 17) hx hb hts win_X5 hown hK hP (0) (rfl) rfl 15 (by decide) w_2 (fun _ h9 => h9) rfl dX5_derives_24 ?_
          refine lv_iload hx hb dX5_derives_27 (lv_at hl 1 rfl) ?_
          refine lv_iload hx hb dX5_derives_29 (lv_at hl 0 rfl) ?_
          refine lv_iconst (v := (-1)) hx hb dX5_derives_31 (by decide) ?_
          refine lv_icmp_eq (tgt := 39) hx hb dX5_derives_32 (by decide) (fun c_32 => ?_) (fun c_32 => ?_)
          · skip
            refine lv_iconst (v := 0) hx hb dX5_derives_39 (by decide) ?_
            refine g_zast hx hb hK hP hD hS (12) 1 (n := 12) (f := kn) (rfl) rfl (x := 0) (by decide) k rfl (by omega) (by decide) dX5_derives_40 (WM cI cZ b mC mR mL mF mpar mwt mstk mflw mc mp mm mf md mv de (upd kn k 0) thr ++ R) rfl (fun H locs hP hD hS => ?_)
            refine lv_aload_n hx hb dX5_derives_41 rfl (lv_at hl 2 rfl) ?_
            refine va_get (D := D) (ci := 4) (v := .ref (b 11)) (C := RX5) (T := TX5) (N := 17) hx hb hts win_X5 hown hK hP (0) (rfl) rfl 14 (by decide) w_3 (fun _ h9 => h9) rfl dX5_derives_42 ?_
            refine lv_iload hx hb dX5_derives_45 (lv_at hl 1 rfl) ?_
            refine lv_aload_n hx hb dX5_derives_47 rfl (lv_at hl 2 rfl) ?_
            refine va_get (D := D) (ci := 4) (v := .ref (b 12)) (C := RX5) (T := TX5) (N := 17) hx hb hts win_X5 hown hK hP (0) (rfl) rfl 15 (by decide) w_2 (fun _ h9 => h9) rfl dX5_derives_48 ?_
            refine lv_iload hx hb dX5_derives_51 (lv_at hl 1 rfl) ?_
            refine g_zald hx hb hK hP (12) 1 (n := 12) (f := (upd kn k 0)) (rfl) rfl k rfl (by omega) (by decide) dX5_derives_53 ?_
            refine lv_if_eq (tgt := 67) hx hb dX5_derives_54 (by decide) (fun c_54 => ?_) (fun c_54 => ?_)
            · skip
              refine lv_iconst (v := 0) hx hb dX5_derives_67 (by decide) ?_
              refine g_iast hx hb hK hP hD hS (11) 0 (n := 12) (f := de) (rfl) rfl k rfl (by omega) (by decide) dX5_derives_68 (WM cI cZ b mC mR mL mF mpar mwt mstk mflw mc mp mm mf md mv (upd de k 0) (upd kn k 0) thr ++ R) rfl (fun H locs hP hD hS => ?_)
              refine lv_iinc (v := nI (k + 1)) (lv' := [(4, .int (nI (k + 1))), (5, .int (-1)), (0, .ref (b 0)), (1, .int pi), (2, .int mi), (3, .int fi)]) hx hb dX5_derives_69 hl (k := 1) rfl (nI_1 k) (by decide) rfl (fun ls hl => ?_)
              refine lv_goto (tgt := 3) hx hb dX5_derives_72 (by decide) ?_
              exact ih_lpA (k + 1) _ _ _ _ (by omega) (by omega) (fun i hi => by
                    rw [rG_no]; by_cases q : i = k
                    · rw [if_pos q, q, hN]; rfl
                    · rw [if_neg q]; exact h0 i (by omega)) hP hD hS _ (lv_sub hl [0, 2, 3, 4, 5] rfl)
            · skip
              exact absurd (by simp [upd]) c_54
          · skip
            exact absurd c_32 (by decide)
        · skip
          obtain rfl : r_1 = nI j := hr_1.trans (congrArg oI hN)
          have hj := (sel_lt hN).1
          refine lv_istore (lv' := [(5, .int (nI j)), (4, .int (nI k)), (0, .ref (b 0)), (1, .int pi), (2, .int mi), (3, .int fi)]) hx hb dX5_derives_21 hl (by decide) rfl (fun ls hl => ?_)
          refine lv_aload_n hx hb dX5_derives_23 rfl (lv_at hl 2 rfl) ?_
          refine va_get (D := D) (ci := 4) (v := .ref (b 12)) (C := RX5) (T := TX5) (N := 17) hx hb hts win_X5 hown hK hP (0) (rfl) rfl 15 (by decide) w_2 (fun _ h9 => h9) rfl dX5_derives_24 ?_
          refine lv_iload hx hb dX5_derives_27 (lv_at hl 1 rfl) ?_
          refine lv_iload hx hb dX5_derives_29 (lv_at hl 0 rfl) ?_
          refine lv_iconst (v := (-1)) hx hb dX5_derives_31 (by decide) ?_
          refine lv_icmp_eq (tgt := 39) hx hb dX5_derives_32 (by decide) (fun c_32 => ?_) (fun c_32 => ?_)
          · skip
            exact absurd c_32 (nI_nm1 (by omega))
          · skip
            refine lv_iconst (v := 1) hx hb dX5_derives_35 (by decide) ?_
            refine lv_goto (tgt := 40) hx hb dX5_derives_36 (by decide) ?_
            refine g_zast hx hb hK hP hD hS (12) 1 (n := 12) (f := kn) (rfl) rfl (x := 1) (by decide) k rfl (by omega) (by decide) dX5_derives_40 (WM cI cZ b mC mR mL mF mpar mwt mstk mflw mc mp mm mf md mv de (upd kn k 1) thr ++ R) rfl (fun H locs hP hD hS => ?_)
            refine lv_aload_n hx hb dX5_derives_41 rfl (lv_at hl 2 rfl) ?_
            refine va_get (D := D) (ci := 4) (v := .ref (b 11)) (C := RX5) (T := TX5) (N := 17) hx hb hts win_X5 hown hK hP (0) (rfl) rfl 14 (by decide) w_3 (fun _ h9 => h9) rfl dX5_derives_42 ?_
            refine lv_iload hx hb dX5_derives_45 (lv_at hl 1 rfl) ?_
            refine lv_aload_n hx hb dX5_derives_47 rfl (lv_at hl 2 rfl) ?_
            refine va_get (D := D) (ci := 4) (v := .ref (b 12)) (C := RX5) (T := TX5) (N := 17) hx hb hts win_X5 hown hK hP (0) (rfl) rfl 15 (by decide) w_2 (fun _ h9 => h9) rfl dX5_derives_48 ?_
            refine lv_iload hx hb dX5_derives_51 (lv_at hl 1 rfl) ?_
            refine g_zald hx hb hK hP (12) 1 (n := 12) (f := (upd kn k 1)) (rfl) rfl k rfl (by omega) (by decide) dX5_derives_53 ?_
            refine lv_if_eq (tgt := 67) hx hb dX5_derives_54 (by decide) (fun c_54 => ?_) (fun c_54 => ?_)
            · skip
              exact absurd c_54 (by simp [upd])
            · skip
              refine lv_aload_n hx hb dX5_derives_57 rfl (lv_at hl 2 rfl) ?_
              refine va_get (D := D) (ci := 4) (v := .ref (b 9)) (C := RX5) (T := TX5) (N := 17) hx hb hts win_X5 hown hK hP (0) (rfl) rfl 12 (by decide) w_6 (fun _ h9 => h9) rfl dX5_derives_58 ?_
              refine lv_iload hx hb dX5_derives_61 (lv_at hl 0 rfl) ?_
              refine g_iald hx hb hK hP (9) 0 (n := 80) (f := mv) (rfl) rfl j rfl (by omega) (by decide) dX5_derives_63 ?_
              refine lv_goto (tgt := 68) hx hb dX5_derives_64 (by decide) ?_
              refine g_iast hx hb hK hP hD hS (11) 0 (n := 12) (f := de) (rfl) rfl k rfl (by omega) (by decide) dX5_derives_68 (WM cI cZ b mC mR mL mF mpar mwt mstk mflw mc mp mm mf md mv (upd de k (mv j)) (upd kn k 1) thr ++ R) rfl (fun H locs hP hD hS => ?_)
              refine lv_iinc (v := nI (k + 1)) (lv' := [(4, .int (nI (k + 1))), (5, .int (nI j)), (0, .ref (b 0)), (1, .int pi), (2, .int mi), (3, .int fi)]) hx hb dX5_derives_69 hl (k := 1) rfl (nI_1 k) (by decide) rfl (fun ls hl => ?_)
              refine lv_goto (tgt := 3) hx hb dX5_derives_72 (by decide) ?_
              exact ih_lpA (k + 1) _ _ _ _ (by omega) (by omega) (fun i hi => by
                    rw [rG_up]; by_cases q : i = k
                    · rw [if_pos q, q, hN]; rfl
                    · rw [if_neg q]; exact h0 i (by omega)) hP hD hS _ (lv_sub hl [0, 2, 3, 4, 5] rfl)
  refine lv_iconst (v := 0) hx hb dX5_derives_0 (by decide) ?_
  refine lv_istore (lv' := [(4, .int 0), (0, .ref (b 0)), (1, .int pi), (2, .int mi), (3, .int fi)]) hx hb dX5_derives_1 hl (by decide) rfl (fun ls hl => ?_)
  exact lpA (mC + 1) 0 mkn mder _ _ (by omega) (by omega) (fun i hi => absurd hi (Nat.not_lt_zero _)) hP hD hS _ (lv_sub hl [0, 1, 2, 3, 4] rfl)
set_option maxHeartbeats 4000000 in
set_option maxRecDepth 100000 in
/-- not there -/
theorem c5_derived_1 (l : Launch) (D : va_G) (cI cZ cO cL : ClassId) (dt : Nat) (A : Nat → Prop) (b : Nat → Nat) (mC mR mL mF : Nat) (mpar mwt mstk mflw : Nat → Int32) (mc mp mm mf md : Nat → Nat) (mv mder mkn : Nat → Int32) (thr : Int32) (R : va_W) (ci pi mi fi : Int32) (hno : ¬ (((0 ≤ ci ∧ ci ≤ nI mC - 1) ∧ (0 ≤ pi ∧ pi ≤ 9) ∧ (0 ≤ mi ∧ mi ≤ 3)) ∧ (0 ≤ fi ∧ fi ≤ nI (mL + 1) - 1))) : Met l yX5_derived wsX5_derived ({ frames := 4, cells := 0, slots := 0, locals := 90 } : Room) (gP D cI cZ cO cL dt A [.ref (b 0), .int ci, .int pi, .int mi, .int fi] (fun H => va_P D vwCl (WM cI cZ b mC mR mL mF mpar mwt mstk mflw mc mp mm mf md mv mder mkn thr ++ R) H ∧ va_D A (WM cI cZ b mC mR mL mF mpar mwt mstk mflw mc mp mm mf md mv mder mkn thr ++ R))) (va_Qi (fun (r : Int32) (_ : Unit) => r = 0) (fun _ t => va_P D vwCl (WM cI cZ b mC mR mL mF mpar mwt mstk mflw mc mp mm mf md mv mder mkn 1 ++ R) t.heap ∧ va_D A (WM cI cZ b mC mR mL mF mpar mwt mstk mflw mc mp mm mf md mv mder mkn 1 ++ R)) A) 0 0 A := by
  refine Met.ofW (cc := cX5_derived) (maxL := 5) (ret := (some .int)) (by decide) rfl ?_
  intro p9 e9 s m9 args below meth c9 s₁ B hml hv
  obtain ⟨rfl, hg, hP, hD⟩ := hv
  have hx := B.exec
  have hb := B.bytes
  have hr := B.returns
  have hts := atoms_spec (ws := wsX5_derived) B.pre
  have hown : s.vm.findClass RX5 = some m9.cls := findClass_of_methodNamed B.named
  have hlocks := B.notSynchronized
  have hK := hg.1
  have hS : va_S A s.heap s.heap [] := va_S.rf
  have hl := lv_entry ([.ref (b 0), .int ci, .int pi, .int mi, .int fi]) (n := 5) (Nat.le_of_ble_eq_true rfl)
  rw [lg_entry_eq]
  generalize (lg_sl ([.ref (b 0), .int ci, .int pi, .int mi, .int fi]) ++ List.replicate (5 - (lg_sl ([.ref (b 0), .int ci, .int pi, .int mi, .int fi])).length) Slot.unset).toArray = ls at hl ⊢
  have hl : lv_has ls 5 [(0, .ref (b 0)), (1, .int ci), (2, .int pi), (3, .int mi), (4, .int fi)] := hl
  refine lv_aload_n hx hb dX5_derived_0 rfl (lv_at hl 0 rfl) ?_
  refine lv_aload_n hx hb dX5_derived_1 rfl (lv_at hl 0 rfl) ?_
  refine lv_iload_n hx hb dX5_derived_2 rfl (lv_at hl 1 rfl) ?_
  refine lv_iload_n hx hb dX5_derived_3 rfl (lv_at hl 2 rfl) ?_
  refine lv_iload_n hx hb dX5_derived_4 rfl (lv_at hl 3 rfl) ?_
  refine lv_iload hx hb dX5_derived_5 (lv_at hl 4 rfl) ?_
  refine g_csi (va_runV (As := [.int ci, .int pi, .int mi, .int fi]) (rest := [.ref (b 0)]) ⟨hx, hb, hml, hown, hts⟩ (c5_isAsked l D cI cZ cO cL dt A b mC mR mL mF mpar mwt mstk mflw mc mp mm mf md mv mder mkn thr R ci pi mi fi) (cwV 4 hts gX5_derived_X5_isAsked rfl rfl rfl (by decide +kernel) ⟨Nat.le_of_ble_eq_true rfl, Nat.le_of_ble_eq_true rfl⟩) (gP.v hg hP 4 rfl (0) (rfl) hP) rfl rfl hl.1 rfl (lv_room (Nat.le_of_ble_eq_true rfl)) dX5_derived_7 ⟨Nat.le_of_ble_eq_true rfl, Nat.le_of_ble_eq_true rfl⟩) (fun r_1 hr_1 => ?_)
  obtain rfl : r_1 = bI (((0 ≤ ci ∧ ci ≤ nI mC - 1) ∧ (0 ≤ pi ∧ pi ≤ 9) ∧ (0 ≤ mi ∧ mi ≤ 3)) ∧ (0 ≤ fi ∧ fi ≤ nI (mL + 1) - 1)) := hr_1
  refine lv_if_eq (tgt := 17) hx hb dX5_derived_10 (by decide) (fun c_10 => ?_) (fun c_10 => ?_)
  · skip
    have c_10 := bI_z c_10
    refine lv_iconst (v := 1) hx hb dX5_derived_17 (by decide) ?_
    refine va_calli (va_runV (As := [.int 1]) (rest := []) ⟨hx, hb, hml, hown, hts⟩ (c5_can l D cI cZ cO cL dt A b mC mR mL mF mpar mwt mstk mflw mc mp mm mf md mv mder mkn thr R 1) (cwV 1 hts gX5_derived_X5_can rfl rfl rfl (by decide +kernel) ⟨Nat.le_of_ble_eq_true rfl, Nat.le_of_ble_eq_true rfl⟩) (gP.v hg hP 4 rfl (0) (rfl) (⟨hP, hD⟩)) rfl rfl hl.1 rfl (lv_room (Nat.le_of_ble_eq_true rfl)) dX5_derived_18 ⟨Nat.le_of_ble_eq_true rfl, Nat.le_of_ble_eq_true rfl⟩) hS (fun q _ h => h) (fun q h => h) (fun r_2 ur_2 tr_2 H locs htr_2 hvmr_2 hwr_2 hB hzr_2 hkr_2 hS => ?_)
    rw [htr_2] at hB
    obtain ⟨hP, hD⟩ := hB
    obtain rfl : r_2 = bI (1 = 0) := hwr_2
    have hP : va_P D vwCl (WM cI cZ b mC mR mL mF mpar mwt mstk mflw mc mp mm mf md mv mder mkn 1 ++ R) H := hP
    have hD : va_D A (WM cI cZ b mC mR mL mF mpar mwt mstk mflw mc mp mm mf md mv mder mkn 1 ++ R) := hD
    refine lv_if_ne (tgt := 26) hx hb dX5_derived_21 (by decide) (fun c_21 => ?_) (fun c_21 => ?_)
    · skip
      have c_21 := bI_n c_21
      exact absurd c_21 (by decide)
    · skip
      have c_21 := bI_z c_21
      refine lv_iconst (v := 0) hx hb dX5_derived_24 (by decide) ?_
      exact W.iret (v := 0) hx hb hr (fun t ht hW => ⟨⟨0, (), rfl, rfl, g_PD ht hP hD⟩, hS.F ht⟩) hS.2.2 dX5_derived_25
  · skip
    have c_10 := bI_n c_10
    exact absurd c_10 hno
set_option maxHeartbeats 4000000 in
set_option maxRecDepth 100000 in
/-- none is -/
theorem c5_derived_2 (l : Launch) (D : va_G) (cI cZ cO cL : ClassId) (dt : Nat) (A : Nat → Prop) (b : Nat → Nat) (mC mR mL mF : Nat) (mpar mwt mstk mflw : Nat → Int32) (mc mp mm mf md : Nat → Nat) (mv mder mkn : Nat → Int32) (thr : Int32) (R : va_W) (L : List Nat) (c : Nat) (pi mi fi : Int32) (hF : mF ≤ 80) (hC12 : mC ≤ 12) (hmf : ∀ k, mf k < 2 ^ 31) (hmd : ∀ k, md k < 2 ^ 31) (hT : tree mC mpar L) (hc : c < mC) (hy : ((0 ≤ (nI c) ∧ (nI c) ≤ nI mC - 1) ∧ (0 ≤ pi ∧ pi ≤ 9) ∧ (0 ≤ mi ∧ mi ≤ 3)) ∧ (0 ≤ fi ∧ fi ≤ nI (mL + 1) - 1)) (hd : dV mC mpar mwt (fun k => hM mc mp mm mf md mF (nI k) pi mi fi) mv c = none) : Met l yX5_derived wsX5_derived ({ frames := 4, cells := 0, slots := 0, locals := 90 } : Room) (gP D cI cZ cO cL dt A [.ref (b 0), .int (nI c), .int pi, .int mi, .int fi] (fun H => va_P D vwCl (WM cI cZ b mC mR mL mF mpar mwt mstk mflw mc mp mm mf md mv mder mkn thr ++ R) H ∧ va_D A (WM cI cZ b mC mR mL mF mpar mwt mstk mflw mc mp mm mf md mv mder mkn thr ++ R))) (va_Qi (fun (r : Int32) (u : (Nat → Int32) × (Nat → Int32)) => r = 0) (fun u t => va_P D vwCl (WM cI cZ b mC mR mL mF mpar mwt mstk mflw mc mp mm mf md mv u.2 u.1 2 ++ R) t.heap ∧ va_D A (WM cI cZ b mC mR mL mF mpar mwt mstk mflw mc mp mm mf md mv u.2 u.1 2 ++ R)) A) 0 0 A := by
  refine Met.ofW (cc := cX5_derived) (maxL := 5) (ret := (some .int)) (by decide) rfl ?_
  intro p9 e9 s m9 args below meth c9 s₁ B hml hv
  obtain ⟨rfl, hg, hP, hD⟩ := hv
  have hx := B.exec
  have hb := B.bytes
  have hr := B.returns
  have hts := atoms_spec (ws := wsX5_derived) B.pre
  have hown : s.vm.findClass RX5 = some m9.cls := findClass_of_methodNamed B.named
  have hlocks := B.notSynchronized
  have hK := hg.1
  have hS : va_S A s.heap s.heap [] := va_S.rf
  have w_0 := hts (.fieldLink RX5 47 "DimfactsModel" "isKnown" "[Z") (by decide +kernel)
  have win_X5 : ∀ w ∈ wsX50, w ∈ wsX5_derived := by decide +kernel
  have hl := lv_entry ([.ref (b 0), .int (nI c), .int pi, .int mi, .int fi]) (n := 5) (Nat.le_of_ble_eq_true rfl)
  rw [lg_entry_eq]
  generalize (lg_sl ([.ref (b 0), .int (nI c), .int pi, .int mi, .int fi]) ++ List.replicate (5 - (lg_sl ([.ref (b 0), .int (nI c), .int pi, .int mi, .int fi])).length) Slot.unset).toArray = ls at hl ⊢
  have hl : lv_has ls 5 [(0, .ref (b 0)), (1, .int (nI c)), (2, .int pi), (3, .int mi), (4, .int fi)] := hl
  refine lv_aload_n hx hb dX5_derived_0 rfl (lv_at hl 0 rfl) ?_
  refine lv_aload_n hx hb dX5_derived_1 rfl (lv_at hl 0 rfl) ?_
  refine lv_iload_n hx hb dX5_derived_2 rfl (lv_at hl 1 rfl) ?_
  refine lv_iload_n hx hb dX5_derived_3 rfl (lv_at hl 2 rfl) ?_
  refine lv_iload_n hx hb dX5_derived_4 rfl (lv_at hl 3 rfl) ?_
  refine lv_iload hx hb dX5_derived_5 (lv_at hl 4 rfl) ?_
  refine g_csi (va_runV (As := [.int (nI c), .int pi, .int mi, .int fi]) (rest := [.ref (b 0)]) ⟨hx, hb, hml, hown, hts⟩ (c5_isAsked l D cI cZ cO cL dt A b mC mR mL mF mpar mwt mstk mflw mc mp mm mf md mv mder mkn thr R (nI c) pi mi fi) (cwV 4 hts gX5_derived_X5_isAsked rfl rfl rfl (by decide +kernel) ⟨Nat.le_of_ble_eq_true rfl, Nat.le_of_ble_eq_true rfl⟩) (gP.v hg hP 4 rfl (0) (rfl) hP) rfl rfl hl.1 rfl (lv_room (Nat.le_of_ble_eq_true rfl)) dX5_derived_7 ⟨Nat.le_of_ble_eq_true rfl, Nat.le_of_ble_eq_true rfl⟩) (fun r_1 hr_1 => ?_)
  obtain rfl : r_1 = bI (((0 ≤ (nI c) ∧ (nI c) ≤ nI mC - 1) ∧ (0 ≤ pi ∧ pi ≤ 9) ∧ (0 ≤ mi ∧ mi ≤ 3)) ∧ (0 ≤ fi ∧ fi ≤ nI (mL + 1) - 1)) := hr_1
  refine lv_if_eq (tgt := 17) hx hb dX5_derived_10 (by decide) (fun c_10 => ?_) (fun c_10 => ?_)
  · skip
    have c_10 := bI_z c_10
    exact absurd hy c_10
  · skip
    have c_10 := bI_n c_10
    refine lv_iconst (v := 0) hx hb dX5_derived_13 (by decide) ?_
    refine lv_goto (tgt := 18) hx hb dX5_derived_14 (by decide) ?_
    refine va_calli (va_runV (As := [.int 0]) (rest := []) ⟨hx, hb, hml, hown, hts⟩ (c5_can l D cI cZ cO cL dt A b mC mR mL mF mpar mwt mstk mflw mc mp mm mf md mv mder mkn thr R 0) (cwV 1 hts gX5_derived_X5_can rfl rfl rfl (by decide +kernel) ⟨Nat.le_of_ble_eq_true rfl, Nat.le_of_ble_eq_true rfl⟩) (gP.v hg hP 4 rfl (0) (rfl) (⟨hP, hD⟩)) rfl rfl hl.1 rfl (lv_room (Nat.le_of_ble_eq_true rfl)) dX5_derived_18 ⟨Nat.le_of_ble_eq_true rfl, Nat.le_of_ble_eq_true rfl⟩) hS (fun q _ h => h) (fun q h => h) (fun r_2 ur_2 tr_2 H locs htr_2 hvmr_2 hwr_2 hB hzr_2 hkr_2 hS => ?_)
    rw [htr_2] at hB
    obtain ⟨hP, hD⟩ := hB
    obtain rfl : r_2 = bI (0 = 0) := hwr_2
    have hP : va_P D vwCl (WM cI cZ b mC mR mL mF mpar mwt mstk mflw mc mp mm mf md mv mder mkn 0 ++ R) H := hP
    have hD : va_D A (WM cI cZ b mC mR mL mF mpar mwt mstk mflw mc mp mm mf md mv mder mkn 0 ++ R) := hD
    refine lv_if_ne (tgt := 26) hx hb dX5_derived_21 (by decide) (fun c_21 => ?_) (fun c_21 => ?_)
    · skip
      have c_21 := bI_n c_21
      refine lv_aload_n hx hb dX5_derived_26 rfl (lv_at hl 0 rfl) ?_
      refine lv_iload_n hx hb dX5_derived_27 rfl (lv_at hl 2 rfl) ?_
      refine lv_iload_n hx hb dX5_derived_28 rfl (lv_at hl 3 rfl) ?_
      refine lv_iload hx hb dX5_derived_29 (lv_at hl 4 rfl) ?_
      refine va_callv (va_runV (As := [.int pi, .int mi, .int fi]) (rest := []) ⟨hx, hb, hml, hown, hts⟩ (c5_derives l D cI cZ cO cL dt A b mC mR mL mF mpar mwt mstk mflw mc mp mm mf md mv mder mkn 0 R L pi mi fi hF hC12 hmf hmd hT) (cwV 3 hts gX5_derived_X5_derives rfl rfl rfl (by decide +kernel) ⟨Nat.le_of_ble_eq_true rfl, Nat.le_of_ble_eq_true rfl⟩) (gP.v (hg.on hS) hP 4 rfl (0) (rfl) (⟨hP, hD⟩)) rfl rfl hl.1 rfl (lv_room (Nat.le_of_ble_eq_true rfl)) dX5_derived_31 ⟨Nat.le_of_ble_eq_true rfl, Nat.le_of_ble_eq_true rfl⟩) hS (fun q _ h => h) (fun q h => h) (fun ur_3 tr_3 H locs htr_3 hvmr_3 hwr_3 hB hzr_3 hkr_3 hS => ?_)
      rw [htr_3] at hB
      obtain ⟨hP, hD⟩ := hB
      have hP : va_P D vwCl (WM cI cZ b mC mR mL mF mpar mwt mstk mflw mc mp mm mf md mv ur_3.2 ur_3.1 0 ++ R) H := hP
      have hD : va_D A (WM cI cZ b mC mR mL mF mpar mwt mstk mflw mc mp mm mf md mv ur_3.2 ur_3.1 0 ++ R) := hD
      have hkn := hwr_3 c hc
      refine lv_aload_n hx hb dX5_derived_34 rfl (lv_at hl 0 rfl) ?_
      refine lv_aload_n hx hb dX5_derived_35 rfl (lv_at hl 0 rfl) ?_
      refine va_get (D := D) (ci := 4) (v := .ref (b 12)) (C := RX5) (T := TX5) (N := 17) hx hb hts win_X5 hown hK hP (0) (rfl) rfl 15 (by decide) w_0 (fun _ h9 => h9) rfl dX5_derived_36 ?_
      refine lv_iload_n hx hb dX5_derived_39 rfl (lv_at hl 1 rfl) ?_
      refine g_zald hx hb hK hP (12) 1 (n := 12) (f := ur_3.1) (rfl) rfl c rfl (by omega) (by decide) dX5_derived_40 ?_
      refine lv_if_eq (tgt := 48) hx hb dX5_derived_41 (by decide) (fun c_41 => ?_) (fun c_41 => ?_)
      · skip
        refine lv_iconst (v := 2) hx hb dX5_derived_48 (by decide) ?_
        refine va_calli (va_runV (As := [.int 2]) (rest := []) ⟨hx, hb, hml, hown, hts⟩ (c5_can l D cI cZ cO cL dt A b mC mR mL mF mpar mwt mstk mflw mc mp mm mf md mv ur_3.2 ur_3.1 0 R 2) (cwV 1 hts gX5_derived_X5_can rfl rfl rfl (by decide +kernel) ⟨Nat.le_of_ble_eq_true rfl, Nat.le_of_ble_eq_true rfl⟩) (gP.v (hg.on hS) hP 4 rfl (0) (rfl) (⟨hP, hD⟩)) rfl rfl hl.1 rfl (lv_room (Nat.le_of_ble_eq_true rfl)) dX5_derived_49 ⟨Nat.le_of_ble_eq_true rfl, Nat.le_of_ble_eq_true rfl⟩) hS (fun q _ h => h) (fun q h => h) (fun r_4 ur_4 tr_4 H locs htr_4 hvmr_4 hwr_4 hB hzr_4 hkr_4 hS => ?_)
        rw [htr_4] at hB
        obtain ⟨hP, hD⟩ := hB
        obtain rfl : r_4 = bI (2 = 0) := hwr_4
        have hP : va_P D vwCl (WM cI cZ b mC mR mL mF mpar mwt mstk mflw mc mp mm mf md mv ur_3.2 ur_3.1 2 ++ R) H := hP
        have hD : va_D A (WM cI cZ b mC mR mL mF mpar mwt mstk mflw mc mp mm mf md mv ur_3.2 ur_3.1 2 ++ R) := hD
        refine lv_if_eq (tgt := 64) hx hb dX5_derived_52 (by decide) (fun c_52 => ?_) (fun c_52 => ?_)
        · skip
          have c_52 := bI_z c_52
          refine lv_iconst (v := 0) hx hb dX5_derived_64 (by decide) ?_
          exact W.iret (v := 0) hx hb hr (fun t ht hW => ⟨⟨0, (ur_3.1, ur_3.2), rfl, rfl, g_PD ht hP hD⟩, hS.F ht⟩) hS.2.2 dX5_derived_65
        · skip
          have c_52 := bI_n c_52
          exact absurd c_52 (by decide)
      · skip
        exact absurd (rG_s.mpr c_41) (by rw [hkn, hd]; decide)
    · skip
      have c_21 := bI_z c_21
      exact absurd (by decide) c_21
set_option maxHeartbeats 4000000 in
set_option maxRecDepth 100000 in
/-- what is derived -/
theorem c5_derived_0 (l : Launch) (D : va_G) (cI cZ cO cL : ClassId) (dt : Nat) (A : Nat → Prop) (b : Nat → Nat) (mC mR mL mF : Nat) (mpar mwt mstk mflw : Nat → Int32) (mc mp mm mf md : Nat → Nat) (mv mder mkn : Nat → Int32) (thr : Int32) (R : va_W) (L : List Nat) (c : Nat) (pi mi fi : Int32) (x0 : Int32) (hF : mF ≤ 80) (hC12 : mC ≤ 12) (hmf : ∀ k, mf k < 2 ^ 31) (hmd : ∀ k, md k < 2 ^ 31) (hT : tree mC mpar L) (hc : c < mC) (hy : ((0 ≤ (nI c) ∧ (nI c) ≤ nI mC - 1) ∧ (0 ≤ pi ∧ pi ≤ 9) ∧ (0 ≤ mi ∧ mi ≤ 3)) ∧ (0 ≤ fi ∧ fi ≤ nI (mL + 1) - 1)) (hd : dV mC mpar mwt (fun k => hM mc mp mm mf md mF (nI k) pi mi fi) mv c = some x0) : Met l yX5_derived wsX5_derived ({ frames := 4, cells := 0, slots := 0, locals := 90 } : Room) (gP D cI cZ cO cL dt A [.ref (b 0), .int (nI c), .int pi, .int mi, .int fi] (fun H => va_P D vwCl (WM cI cZ b mC mR mL mF mpar mwt mstk mflw mc mp mm mf md mv mder mkn thr ++ R) H ∧ va_D A (WM cI cZ b mC mR mL mF mpar mwt mstk mflw mc mp mm mf md mv mder mkn thr ++ R))) (va_Qi (fun (r : Int32) (u : (Nat → Int32) × (Nat → Int32)) => r = x0) (fun u t => va_P D vwCl (WM cI cZ b mC mR mL mF mpar mwt mstk mflw mc mp mm mf md mv u.2 u.1 0 ++ R) t.heap ∧ va_D A (WM cI cZ b mC mR mL mF mpar mwt mstk mflw mc mp mm mf md mv u.2 u.1 0 ++ R)) A) 0 0 A := by
  refine Met.ofW (cc := cX5_derived) (maxL := 5) (ret := (some .int)) (by decide) rfl ?_
  intro p9 e9 s m9 args below meth c9 s₁ B hml hv
  obtain ⟨rfl, hg, hP, hD⟩ := hv
  have hx := B.exec
  have hb := B.bytes
  have hr := B.returns
  have hts := atoms_spec (ws := wsX5_derived) B.pre
  have hown : s.vm.findClass RX5 = some m9.cls := findClass_of_methodNamed B.named
  have hlocks := B.notSynchronized
  have hK := hg.1
  have hS : va_S A s.heap s.heap [] := va_S.rf
  have w_0 := hts (.fieldLink RX5 47 "DimfactsModel" "isKnown" "[Z") (by decide +kernel)
  have win_X5 : ∀ w ∈ wsX50, w ∈ wsX5_derived := by decide +kernel
  have w_2 := hts (.fieldLink RX5 44 "DimfactsModel" "derived" "[I") (by decide +kernel)
  have hl := lv_entry ([.ref (b 0), .int (nI c), .int pi, .int mi, .int fi]) (n := 5) (Nat.le_of_ble_eq_true rfl)
  rw [lg_entry_eq]
  generalize (lg_sl ([.ref (b 0), .int (nI c), .int pi, .int mi, .int fi]) ++ List.replicate (5 - (lg_sl ([.ref (b 0), .int (nI c), .int pi, .int mi, .int fi])).length) Slot.unset).toArray = ls at hl ⊢
  have hl : lv_has ls 5 [(0, .ref (b 0)), (1, .int (nI c)), (2, .int pi), (3, .int mi), (4, .int fi)] := hl
  refine lv_aload_n hx hb dX5_derived_0 rfl (lv_at hl 0 rfl) ?_
  refine lv_aload_n hx hb dX5_derived_1 rfl (lv_at hl 0 rfl) ?_
  refine lv_iload_n hx hb dX5_derived_2 rfl (lv_at hl 1 rfl) ?_
  refine lv_iload_n hx hb dX5_derived_3 rfl (lv_at hl 2 rfl) ?_
  refine lv_iload_n hx hb dX5_derived_4 rfl (lv_at hl 3 rfl) ?_
  refine lv_iload hx hb dX5_derived_5 (lv_at hl 4 rfl) ?_
  refine g_csi (va_runV (As := [.int (nI c), .int pi, .int mi, .int fi]) (rest := [.ref (b 0)]) ⟨hx, hb, hml, hown, hts⟩ (c5_isAsked l D cI cZ cO cL dt A b mC mR mL mF mpar mwt mstk mflw mc mp mm mf md mv mder mkn thr R (nI c) pi mi fi) (cwV 4 hts gX5_derived_X5_isAsked rfl rfl rfl (by decide +kernel) ⟨Nat.le_of_ble_eq_true rfl, Nat.le_of_ble_eq_true rfl⟩) (gP.v hg hP 4 rfl (0) (rfl) hP) rfl rfl hl.1 rfl (lv_room (Nat.le_of_ble_eq_true rfl)) dX5_derived_7 ⟨Nat.le_of_ble_eq_true rfl, Nat.le_of_ble_eq_true rfl⟩) (fun r_1 hr_1 => ?_)
  obtain rfl : r_1 = bI (((0 ≤ (nI c) ∧ (nI c) ≤ nI mC - 1) ∧ (0 ≤ pi ∧ pi ≤ 9) ∧ (0 ≤ mi ∧ mi ≤ 3)) ∧ (0 ≤ fi ∧ fi ≤ nI (mL + 1) - 1)) := hr_1
  refine lv_if_eq (tgt := 17) hx hb dX5_derived_10 (by decide) (fun c_10 => ?_) (fun c_10 => ?_)
  · skip
    have c_10 := bI_z c_10
    exact absurd hy c_10
  · skip
    have c_10 := bI_n c_10
    refine lv_iconst (v := 0) hx hb dX5_derived_13 (by decide) ?_
    refine lv_goto (tgt := 18) hx hb dX5_derived_14 (by decide) ?_
    refine va_calli (va_runV (As := [.int 0]) (rest := []) ⟨hx, hb, hml, hown, hts⟩ (c5_can l D cI cZ cO cL dt A b mC mR mL mF mpar mwt mstk mflw mc mp mm mf md mv mder mkn thr R 0) (cwV 1 hts gX5_derived_X5_can rfl rfl rfl (by decide +kernel) ⟨Nat.le_of_ble_eq_true rfl, Nat.le_of_ble_eq_true rfl⟩) (gP.v hg hP 4 rfl (0) (rfl) (⟨hP, hD⟩)) rfl rfl hl.1 rfl (lv_room (Nat.le_of_ble_eq_true rfl)) dX5_derived_18 ⟨Nat.le_of_ble_eq_true rfl, Nat.le_of_ble_eq_true rfl⟩) hS (fun q _ h => h) (fun q h => h) (fun r_2 ur_2 tr_2 H locs htr_2 hvmr_2 hwr_2 hB hzr_2 hkr_2 hS => ?_)
    rw [htr_2] at hB
    obtain ⟨hP, hD⟩ := hB
    obtain rfl : r_2 = bI (0 = 0) := hwr_2
    have hP : va_P D vwCl (WM cI cZ b mC mR mL mF mpar mwt mstk mflw mc mp mm mf md mv mder mkn 0 ++ R) H := hP
    have hD : va_D A (WM cI cZ b mC mR mL mF mpar mwt mstk mflw mc mp mm mf md mv mder mkn 0 ++ R) := hD
    refine lv_if_ne (tgt := 26) hx hb dX5_derived_21 (by decide) (fun c_21 => ?_) (fun c_21 => ?_)
    · skip
      have c_21 := bI_n c_21
      refine lv_aload_n hx hb dX5_derived_26 rfl (lv_at hl 0 rfl) ?_
      refine lv_iload_n hx hb dX5_derived_27 rfl (lv_at hl 2 rfl) ?_
      refine lv_iload_n hx hb dX5_derived_28 rfl (lv_at hl 3 rfl) ?_
      refine lv_iload hx hb dX5_derived_29 (lv_at hl 4 rfl) ?_
      refine va_callv (va_runV (As := [.int pi, .int mi, .int fi]) (rest := []) ⟨hx, hb, hml, hown, hts⟩ (c5_derives l D cI cZ cO cL dt A b mC mR mL mF mpar mwt mstk mflw mc mp mm mf md mv mder mkn 0 R L pi mi fi hF hC12 hmf hmd hT) (cwV 3 hts gX5_derived_X5_derives rfl rfl rfl (by decide +kernel) ⟨Nat.le_of_ble_eq_true rfl, Nat.le_of_ble_eq_true rfl⟩) (gP.v (hg.on hS) hP 4 rfl (0) (rfl) (⟨hP, hD⟩)) rfl rfl hl.1 rfl (lv_room (Nat.le_of_ble_eq_true rfl)) dX5_derived_31 ⟨Nat.le_of_ble_eq_true rfl, Nat.le_of_ble_eq_true rfl⟩) hS (fun q _ h => h) (fun q h => h) (fun ur_3 tr_3 H locs htr_3 hvmr_3 hwr_3 hB hzr_3 hkr_3 hS => ?_)
      rw [htr_3] at hB
      obtain ⟨hP, hD⟩ := hB
      have hP : va_P D vwCl (WM cI cZ b mC mR mL mF mpar mwt mstk mflw mc mp mm mf md mv ur_3.2 ur_3.1 0 ++ R) H := hP
      have hD : va_D A (WM cI cZ b mC mR mL mF mpar mwt mstk mflw mc mp mm mf md mv ur_3.2 ur_3.1 0 ++ R) := hD
      have hkn := hwr_3 c hc
      refine lv_aload_n hx hb dX5_derived_34 rfl (lv_at hl 0 rfl) ?_
      refine lv_aload_n hx hb dX5_derived_35 rfl (lv_at hl 0 rfl) ?_
      refine va_get (D := D) (ci := 4) (v := .ref (b 12)) (C := RX5) (T := TX5) (N := 17) hx hb hts win_X5 hown hK hP (0) (rfl) rfl 15 (by decide) w_0 (fun _ h9 => h9) rfl dX5_derived_36 ?_
      refine lv_iload_n hx hb dX5_derived_39 rfl (lv_at hl 1 rfl) ?_
      refine g_zald hx hb hK hP (12) 1 (n := 12) (f := ur_3.1) (rfl) rfl c rfl (by omega) (by decide) dX5_derived_40 ?_
      refine lv_if_eq (tgt := 48) hx hb dX5_derived_41 (by decide) (fun c_41 => ?_) (fun c_41 => ?_)
      · skip
        exact absurd (hkn.trans hd) (by rw [rG_n c_41]; exact fun z => nomatch z)
      · skip
        have hv := (rG_v (de := ur_3.2) c_41).symm.trans (hkn.trans hd)
        refine lv_iconst (v := 0) hx hb dX5_derived_44 (by decide) ?_
        refine lv_goto (tgt := 49) hx hb dX5_derived_45 (by decide) ?_
        refine va_calli (va_runV (As := [.int 0]) (rest := []) ⟨hx, hb, hml, hown, hts⟩ (c5_can l D cI cZ cO cL dt A b mC mR mL mF mpar mwt mstk mflw mc mp mm mf md mv ur_3.2 ur_3.1 0 R 0) (cwV 1 hts gX5_derived_X5_can rfl rfl rfl (by decide +kernel) ⟨Nat.le_of_ble_eq_true rfl, Nat.le_of_ble_eq_true rfl⟩) (gP.v (hg.on hS) hP 4 rfl (0) (rfl) (⟨hP, hD⟩)) rfl rfl hl.1 rfl (lv_room (Nat.le_of_ble_eq_true rfl)) dX5_derived_49 ⟨Nat.le_of_ble_eq_true rfl, Nat.le_of_ble_eq_true rfl⟩) hS (fun q _ h => h) (fun q h => h) (fun r_4 ur_4 tr_4 H locs htr_4 hvmr_4 hwr_4 hB hzr_4 hkr_4 hS => ?_)
        rw [htr_4] at hB
        obtain ⟨hP, hD⟩ := hB
        obtain rfl : r_4 = bI (0 = 0) := hwr_4
        have hP : va_P D vwCl (WM cI cZ b mC mR mL mF mpar mwt mstk mflw mc mp mm mf md mv ur_3.2 ur_3.1 0 ++ R) H := hP
        have hD : va_D A (WM cI cZ b mC mR mL mF mpar mwt mstk mflw mc mp mm mf md mv ur_3.2 ur_3.1 0 ++ R) := hD
        refine lv_if_eq (tgt := 64) hx hb dX5_derived_52 (by decide) (fun c_52 => ?_) (fun c_52 => ?_)
        · skip
          have c_52 := bI_z c_52
          exact absurd (by decide) c_52
        · skip
          have c_52 := bI_n c_52
          refine lv_aload_n hx hb dX5_derived_55 rfl (lv_at hl 0 rfl) ?_
          refine va_get (D := D) (ci := 4) (v := .ref (b 11)) (C := RX5) (T := TX5) (N := 17) hx hb hts win_X5 hown hK hP (0) (rfl) rfl 14 (by decide) w_2 (fun _ h9 => h9) rfl dX5_derived_56 ?_
          refine lv_iload_n hx hb dX5_derived_59 rfl (lv_at hl 1 rfl) ?_
          refine g_iald hx hb hK hP (11) 0 (n := 12) (f := ur_3.2) (rfl) rfl c rfl (by omega) (by decide) dX5_derived_60 ?_
          refine lv_goto (tgt := 65) hx hb dX5_derived_61 (by decide) ?_
          exact W.iret (v := ur_3.2 c) hx hb hr (fun t ht hW => ⟨⟨ur_3.2 c, (ur_3.1, ur_3.2), rfl, (Option.some.inj hv), g_PD ht hP hD⟩, hS.F ht⟩) hS.2.2 dX5_derived_65
    · skip
      have c_21 := bI_z c_21
      exact absurd (by decide) c_21
