-- THE CLASS'S DERIVATION
theorem chC_mono {par : Nat → Int32} {k m : Nat} : ∀ {n : Nat}, m ≤ n → chC par k m ≤ chC par k n
  | 0, h => by rw [Nat.le_zero.mp h]; exact Nat.le_refl _
  | n + 1, h => by
    rcases Nat.lt_or_eq_of_le h with z | z
    · rw [chC_s]; exact Nat.le_trans (chC_mono (Nat.le_of_lt_succ z)) (Nat.le_add_right _ _)
    · rw [z]; exact Nat.le_refl _
theorem osum_one {g : Nat → Option Int32} {c : Nat} : g c = osum g 0 [(c, 1)] := by
  show g c = (match g c with | none => none | some x => some (0 + 1 * x))
  cases g c with
  | none => rfl
  | some x => show some x = some (0 + 1 * x); rw [Int32.one_mul, Int32.zero_add]
theorem kids_s {par : Nat → Int32} {k : Nat} (n : Nat) : kids par k (n + 1) = kids par k n ++ (if par n = nI k then [n] else []) := rfl
theorem qOk_one {rea sig : Nat → Int32} {c : Nat} : qOk (upd rea 0 (nI c)) (upd sig 0 1) ([] ++ [(c, 1)]) := qOk_push (Q := []) (fun i x hi => by cases hi)
theorem reachd_one {nC c : Nat} {par : Nat → Int32} {L : List Nat} (hc : c < nC) : reachd nC par L c [] [(c, 1)] := by
  refine ⟨by simp, fun x hx => ?_, fun x hx => ?_⟩
  · have hx : x = (c, 1) := List.mem_singleton.mp hx
    rw [hx]; exact ⟨hc, Nat.le_refl _⟩
  · have hx : x = (c, 1) := List.mem_singleton.mp hx
    rw [hx]; exact Or.inl rfl
section
variable {p : Program} {l : Launch} {e : Env} {R : Room} {s : State} {m : MethodId} {args : Array Value} {below : List Frame} {meth : Method} {c : Code} {H : Heap} {locs : List Loc} {cells slots : Nat}
variable {pc : Nat} {ls : Array Slot} {rest : List Value} {mc ms : Nat} {cc : ByteArray} {D : va_G} {A : Nat → Prop} {Qc : Array Value → State → Outcome → State → Prop} {XC : String → State → State → Prop}
/-- NoSuchElementException out of a world that has changed -/
theorem g_throwNW {cI cZ cO cL : ClassId} {dt : Nat} {text : String} {is : Nat} (hexec : p.tables.exec = Jvm.exec) (hb : c.code = cc) (hl : l.stackTraces = false) (hown : s.vm.findClass RX4 = some m.cls) (_ : True)
    (hk : (Cond.classLink RX4 153 nx_N).before args s = true) (hini : (Cond.initialized nx_N).before args s = true) (hq : (is, text) ∈ gTx) (hg : gG D cI cZ cO cL dt A s s.heap) (h1 : ∀ w ∈ (nx_at RX4 157).filter goodWord, w.before args s = true) (h3 : va_Nw (.castable nx_N nx_N) s) (hsize : ls.size = c.maxLocals)
    (d0 : decode cc pc = .ok (.new 153, 3)) (d3 : decode cc (pc + 3) = .ok (.dup, 1)) (d4 : decode cc (pc + 4) = .ok (.ldc is, 2)) (d6 : decode cc (pc + 6) = .ok (.invokespecial 157, 3)) (d9 : decode cc (pc + 9) = .ok (.athrow, 1))
    (hout : ∀ x ∈ c.exceptionTable.toList, False) (hRframes : 5 < R.frames) (hRlocals : (rest.map fun v => v.category).sum + 82 ≤ R.locals) (hRcells : cells + 1 ≤ R.cells) (hRslots : slots + 6 ≤ R.slots) (hlocks : meth.locks = false)
    (hX : ∃ ws : va_W, va_P D vwCl ws H ∧ va_D A ws ∧ va_S A s.heap H locs ∧ ∀ t : State, va_P D vwCl ws t.heap → va_F A s t → XC nx_N s t) (hc : cells + 1 ≤ mc) (hs : slots + 6 ≤ ms) :
    W p l e R s m args below meth c H locs cells slots (vx_MQ below Qc XC args s mc ms A) (F0 m pc ls rest) := by
  obtain ⟨sa, hsa⟩ := hg.2.2.1 _ hq
  obtain ⟨ws, hP, hD, hS, hX⟩ := hX
  refine nx_throwS hexec hb hl hown hk hini hsa (vx_hat h1 nx_ng (gEB_ok hg.2.1 h3)) hg.2.2.2.1 hg.2.2.2.2.1 hS hsize d0 d3 d4 d6 d9 hout hRframes hRlocals hRcells hRslots hlocks (fun t _ hz hk => hX t ?_ ?_) hS.2.2 hc hs
  · exact hP.kept (fun k q hq => hk _ (hP k q hq).lt)
  · exact ⟨Nat.le_trans hS.1 hz, fun q h1 h2 => (hk q (Nat.lt_of_lt_of_le h1 hS.1)).trans (hS.2.1 q h1 h2)⟩
theorem g_outW {E : String} {ce : Cell} {q : Addr} {H1 : Heap} (hout : ∀ x ∈ c.exceptionTable.toList, False) (hlocks : meth.locks = false)
    (hX : ∃ ws : va_W, va_P D vwCl ws s.heap ∧ ∀ t : State, va_P D vwCl ws t.heap → va_F A s t → XC E s t) (hz : s.heap.size ≤ H1.size) (hk : ∀ q : Nat, q < s.heap.size → H1[q]? = s.heap[q]?) (hcell : H1[q]? = some ce) (hv : ce.vm = .none) (hcl : s.vm.findClass E = some ce.cls) (hf : ∀ z ∈ locs, A z.base) (hc : cells ≤ mc) (hs : slots ≤ ms) :
    vx_W p l e R s m args below meth c H1 locs cells slots (vx_MQ below Qc XC args s mc ms A) (F0 m pc ls rest) q := by
  obtain ⟨ws, hP, hX⟩ := hX
  refine vx_out (fun x hx => (hout x hx).elim) hlocks hcell hv hcl (fun t ht _ => hX t ?_ ?_) hf hc hs
  · rw [ht]; exact hP.kept (fun k q hq => hk _ (hP k q hq).lt)
  · exact ⟨by rw [ht]; exact hz, fun q h1 _ => by rw [ht]; exact hk q h1⟩
end
set_option maxHeartbeats 4000000 in
set_option maxRecDepth 100000 in
/-- the parts of a concept are reached -/
theorem c4_reachParts (l : Launch) (D : va_G) (cI cZ cO cL : ClassId) (dt : Nat) (A : Nat → Prop) (a FA : Nat → Nat) (nC nR nL nF : Nat) (par wt stk flw : Nat → Int32) (hd : Nat → Option Nat) (rea sig : Nat → Int32) (ck cf cd : Nat → Nat) (cv : Nat → Int32) (nx : Nat → Option Nat) (R : va_W) (at0 : Nat) (Q : List (Nat × Int32)) (q : Nat) (s1 : Int32) (hC12 : nC ≤ 12) (hQ : qOk rea sig Q) (hat : Q[at0]? = some (q, s1)) (hatl : at0 < Q.length) (hlen : Q.length + chC par q nC ≤ 12) : Met l yX4_reachParts wsX4_reachParts ({ frames := 0, cells := 0, slots := 0, locals := 0 } : Room) (gP D cI cZ cO cL dt A [.ref (a 0), .int (nI at0), .int (nI Q.length)] (fun H => va_P D vwCl (WD cI cO a FA nC nR nL nF par wt stk flw hd rea sig ++ (WF FA ck cf cd cv nx nF ++ R)) H ∧ va_D A (WD cI cO a FA nC nR nL nF par wt stk flw hd rea sig ++ (WF FA ck cf cd cv nx nF ++ R)))) (va_Qi (fun (r : Int32) (u : (Nat → Int32) × (Nat → Int32)) => qOk u.1 u.2 (Q ++ (kids par q nC).map (fun c => (c, s1 * wt c))) ∧ r = nI (Q ++ (kids par q nC).map (fun c => (c, s1 * wt c))).length) (fun u t => va_P D vwCl (WD cI cO a FA nC nR nL nF par wt stk flw hd u.1 u.2 ++ (WF FA ck cf cd cv nx nF ++ R)) t.heap ∧ va_D A (WD cI cO a FA nC nR nL nF par wt stk flw hd u.1 u.2 ++ (WF FA ck cf cd cv nx nF ++ R))) A) 0 0 A := by
  refine Met.ofW (cc := cX4_reachParts) (maxL := 5) (ret := (some .int)) (by decide) rfl ?_
  intro p9 e9 s m9 args below meth c9 s₁ B hml hv
  obtain ⟨rfl, hg, hP, hD⟩ := hv
  have hx := B.exec
  have hb := B.bytes
  have hr := B.returns
  have hts := atoms_spec (ws := wsX4_reachParts) B.pre
  have hown : s.vm.findClass RX4 = some m9.cls := findClass_of_methodNamed B.named
  have hlocks := B.notSynchronized
  have hK := hg.1
  have hS : va_S A s.heap s.heap [] := va_S.rf
  have w_0 := hts (.fieldLink RX4 42 "Dimfacts" "conceptCount" "I") (by decide +kernel)
  have win_X4 : ∀ w ∈ wsX40, w ∈ wsX4_reachParts := by decide +kernel
  have w_2 := hts (.fieldLink RX4 9 "Dimfacts" "parents" "[I") (by decide +kernel)
  have w_3 := hts (.fieldLink RX4 36 "Dimfacts" "reached" "[I") (by decide +kernel)
  have w_4 := hts (.fieldLink RX4 39 "Dimfacts" "signs" "[I") (by decide +kernel)
  have w_5 := hts (.fieldLink RX4 13 "Dimfacts" "weights" "[I") (by decide +kernel)
  have hl := lv_entry ([.ref (a 0), .int (nI at0), .int (nI Q.length)]) (n := 5) (Nat.le_of_ble_eq_true rfl)
  rw [lg_entry_eq]
  generalize (lg_sl ([.ref (a 0), .int (nI at0), .int (nI Q.length)]) ++ List.replicate (5 - (lg_sl ([.ref (a 0), .int (nI at0), .int (nI Q.length)])).length) Slot.unset).toArray = ls at hl ⊢
  have hl : lv_has ls 5 [(0, .ref (a 0)), (1, .int (nI at0)), (2, .int (nI Q.length))] := hl
  have lp : ∀ (n k : Nat) (g : Nat) (r9 : Nat → Int32) (s9 : Nat → Int32) (H : Heap) (locs : List Loc), nC < k + n → k ≤ nC → (g = (Q ++ (kids par q k).map (fun c => (c, s1 * wt c))).length) → (qOk r9 s9 (Q ++ (kids par q k).map (fun c => (c, s1 * wt c)))) → va_P D vwCl (WD cI cO a FA nC nR nL nF par wt stk flw hd r9 s9 ++ (WF FA ck cf cd cv nx nF ++ R)) H → va_D A (WD cI cO a FA nC nR nL nF par wt stk flw hd r9 s9 ++ (WF FA ck cf cd cv nx nF ++ R)) → va_S A s.heap H locs → ∀ ls : Array Slot, lv_has ls 5 [(4, .int (nI k)), (3, .int (nI g)), (0, .ref (a 0)), (1, .int (nI at0)), (2, .int (nI Q.length))] → W p9 l e9 (headSpec wsX4_reachParts ({ frames := 0, cells := 0, slots := 0, locals := 0 } : Room)).room s m9 ([.ref (a 0), .int (nI at0), .int (nI Q.length)] : List Value).toArray below meth c9 H locs 0 0 (MQ below (va_Qi (fun (r : Int32) (u : (Nat → Int32) × (Nat → Int32)) => qOk u.1 u.2 (Q ++ (kids par q nC).map (fun c => (c, s1 * wt c))) ∧ r = nI (Q ++ (kids par q nC).map (fun c => (c, s1 * wt c))).length) (fun u t => va_P D vwCl (WD cI cO a FA nC nR nL nF par wt stk flw hd u.1 u.2 ++ (WF FA ck cf cd cv nx nF ++ R)) t.heap ∧ va_D A (WD cI cO a FA nC nR nL nF par wt stk flw hd u.1 u.2 ++ (WF FA ck cf cd cv nx nF ++ R))) A) ([.ref (a 0), .int (nI at0), .int (nI Q.length)] : List Value).toArray s 0 0 A) (F0 m9 5 ls []) := by
    intro n
    induction n with
    | zero => intro k g r9 s9 H locs h1 h2; exact absurd h1 (by omega)
    | succ n ih_lp =>
      intro k g r9 s9 H locs hn_lp hk_lp hg9 hq9 hP hD hS ls hl
      refine lv_iload hx hb dX4_reachParts_5 (lv_at hl 0 rfl) ?_
      refine lv_aload_n hx hb dX4_reachParts_7 rfl (lv_at hl 2 rfl) ?_
      refine va_get (D := D) (ci := 3) (v := .int (nI nC)) (C := RX4) (T := TX4) (N := 11) hx hb hts win_X4 hown hK hP (0) (rfl) rfl 2 (by decide) w_0 (fun _ h9 => h9) rfl dX4_reachParts_8 ?_
      refine lv_icmp_ge (tgt := 73) hx hb dX4_reachParts_11 (by decide) (fun c_11 => ?_) (fun c_11 => ?_)
      · skip
        have hkF : k = nC := by have := (nI_leI (a := nC) (b := k) (by omega) (by omega)).mp c_11; omega
        subst hkF
        refine lv_iload_n hx hb dX4_reachParts_73 rfl (lv_at hl 1 rfl) ?_
        exact W.iret (v := nI g) hx hb hr (fun t ht hW => ⟨⟨nI g, (r9, s9), rfl, ⟨hq9, by rw [hg9]⟩, g_PD ht hP hD⟩, hS.F ht⟩) hS.2.2 dX4_reachParts_74
      · skip
        have hkF : k < nC := by have := mt (nI_leI (a := nC) (b := k) (by omega) (by omega)).mpr c_11; omega
        have hgl : g = Q.length + chC par q k := by rw [hg9, List.length_append, List.length_map, kids_len]
        have hcm := chC_mono (par := par) (k := q) (Nat.succ_le_of_lt hkF)
        rw [Nat.succ_eq_add_one, chC_s] at hcm
        have hqa := hq9 at0 _ (by rw [List.getElem?_append_left hatl]; exact hat)
        refine lv_aload_n hx hb dX4_reachParts_14 rfl (lv_at hl 2 rfl) ?_
        refine va_get (D := D) (ci := 3) (v := .ref (a 1)) (C := RX4) (T := TX4) (N := 11) hx hb hts win_X4 hown hK hP (0) (rfl) rfl 0 (by decide) w_2 (fun _ h9 => h9) rfl dX4_reachParts_15 ?_
        refine lv_iload hx hb dX4_reachParts_18 (lv_at hl 0 rfl) ?_
        refine g_iald hx hb hK hP (1) 0 (n := 12) (f := par) (rfl) rfl k rfl (by omega) (by decide) dX4_reachParts_20 ?_
        refine lv_aload_n hx hb dX4_reachParts_21 rfl (lv_at hl 2 rfl) ?_
        refine va_get (D := D) (ci := 3) (v := .ref (a 7)) (C := RX4) (T := TX4) (N := 11) hx hb hts win_X4 hown hK hP (0) (rfl) rfl 9 (by decide) w_3 (fun _ h9 => h9) rfl dX4_reachParts_22 ?_
        refine lv_iload_n hx hb dX4_reachParts_25 rfl (lv_at hl 3 rfl) ?_
        refine g_iald hx hb hK hP (7) 0 (n := 12) (f := r9) (rfl) rfl at0 rfl (by omega) (by decide) dX4_reachParts_26 ?_
        refine lv_icmp_ne (tgt := 67) hx hb dX4_reachParts_27 (by decide) (fun c_27 => ?_) (fun c_27 => ?_)
        · skip
          rw [hqa.1] at c_27
          have hkd : (kids par q (k + 1)).map (fun c => (c, s1 * wt c)) = (kids par q k).map (fun c => (c, s1 * wt c)) := by rw [kids_s, if_neg c_27, List.append_nil]
          refine lv_iinc (v := nI (k + 1)) (lv' := [(4, .int (nI (k + 1))), (3, .int (nI g)), (0, .ref (a 0)), (1, .int (nI at0)), (2, .int (nI Q.length))]) hx hb dX4_reachParts_67 hl (k := 0) rfl (nI_1 k) (by decide) rfl (fun ls hl => ?_)
          refine lv_goto (tgt := 5) hx hb dX4_reachParts_70 (by decide) ?_
          exact ih_lp (k + 1) g _ _ _ _ (by omega) (by omega) (by rw [hkd]; exact hg9) (by rw [hkd]; exact hq9) hP hD hS _ (lv_sub hl [0, 1, 2, 3, 4] rfl)
        · skip
          rw [hqa.1] at c_27
          rw [if_pos c_27] at hcm
          have hkd : (kids par q (k + 1)).map (fun c => (c, s1 * wt c)) = (kids par q k).map (fun c => (c, s1 * wt c)) ++ [(k, s1 * wt k)] := by rw [kids_s, if_pos c_27, List.map_append]; rfl
          refine lv_iload_n hx hb dX4_reachParts_30 rfl (lv_at hl 1 rfl) ?_
          refine lv_bipush (v := 12) hx hb dX4_reachParts_31 (by decide) ?_
          refine lv_icmp_ge (tgt := 67) hx hb dX4_reachParts_33 (by decide) (fun c_33 => ?_) (fun c_33 => ?_)
          · skip
            exact absurd ((nI_leI (a := 12) (b := g) (by decide) (by omega)).mp c_33) (by omega)
          · skip
            refine lv_aload_n hx hb dX4_reachParts_36 rfl (lv_at hl 2 rfl) ?_
            refine va_get (D := D) (ci := 3) (v := .ref (a 7)) (C := RX4) (T := TX4) (N := 11) hx hb hts win_X4 hown hK hP (0) (rfl) rfl 9 (by decide) w_3 (fun _ h9 => h9) rfl dX4_reachParts_37 ?_
            refine lv_iload_n hx hb dX4_reachParts_40 rfl (lv_at hl 1 rfl) ?_
            refine lv_iload hx hb dX4_reachParts_41 (lv_at hl 0 rfl) ?_
            refine g_iast hx hb hK hP hD hS (7) 0 (n := 12) (f := r9) (rfl) rfl g rfl (by omega) (by decide) dX4_reachParts_43 (WD cI cO a FA nC nR nL nF par wt stk flw hd (upd r9 g (nI k)) s9 ++ (WF FA ck cf cd cv nx nF ++ R)) rfl (fun H locs hP hD hS => ?_)
            refine lv_aload_n hx hb dX4_reachParts_44 rfl (lv_at hl 2 rfl) ?_
            refine va_get (D := D) (ci := 3) (v := .ref (a 8)) (C := RX4) (T := TX4) (N := 11) hx hb hts win_X4 hown hK hP (0) (rfl) rfl 10 (by decide) w_4 (fun _ h9 => h9) rfl dX4_reachParts_45 ?_
            refine lv_iload_n hx hb dX4_reachParts_48 rfl (lv_at hl 1 rfl) ?_
            refine lv_aload_n hx hb dX4_reachParts_49 rfl (lv_at hl 2 rfl) ?_
            refine va_get (D := D) (ci := 3) (v := .ref (a 8)) (C := RX4) (T := TX4) (N := 11) hx hb hts win_X4 hown hK hP (0) (rfl) rfl 10 (by decide) w_4 (fun _ h9 => h9) rfl dX4_reachParts_50 ?_
            refine lv_iload_n hx hb dX4_reachParts_53 rfl (lv_at hl 3 rfl) ?_
            refine g_iald hx hb hK hP (8) 0 (n := 12) (f := s9) (rfl) rfl at0 rfl (by omega) (by decide) dX4_reachParts_54 ?_
            refine lv_aload_n hx hb dX4_reachParts_55 rfl (lv_at hl 2 rfl) ?_
            refine va_get (D := D) (ci := 3) (v := .ref (a 2)) (C := RX4) (T := TX4) (N := 11) hx hb hts win_X4 hown hK hP (0) (rfl) rfl 1 (by decide) w_5 (fun _ h9 => h9) rfl dX4_reachParts_56 ?_
            refine lv_iload hx hb dX4_reachParts_59 (lv_at hl 0 rfl) ?_
            refine g_iald hx hb hK hP (2) 0 (n := 12) (f := wt) (rfl) rfl k rfl (by omega) (by decide) dX4_reachParts_61 ?_
            refine lv_imul hx hb dX4_reachParts_62 ?_
            refine g_iast hx hb hK hP hD hS (8) 0 (n := 12) (f := s9) (rfl) rfl g rfl (by omega) (by decide) dX4_reachParts_63 (WD cI cO a FA nC nR nL nF par wt stk flw hd (upd r9 g (nI k)) (upd s9 g ((s9 at0) * (wt k))) ++ (WF FA ck cf cd cv nx nF ++ R)) rfl (fun H locs hP hD hS => ?_)
            refine lv_iinc (v := nI (g + 1)) (lv' := [(3, .int (nI (g + 1))), (4, .int (nI k)), (0, .ref (a 0)), (1, .int (nI at0)), (2, .int (nI Q.length))]) hx hb dX4_reachParts_64 hl (k := 1) rfl (nI_1 g) (by decide) rfl (fun ls hl => ?_)
            refine lv_iinc (v := nI (k + 1)) (lv' := [(4, .int (nI (k + 1))), (3, .int (nI (g + 1))), (0, .ref (a 0)), (1, .int (nI at0)), (2, .int (nI Q.length))]) hx hb dX4_reachParts_67 hl (k := 1) rfl (nI_1 k) (by decide) rfl (fun ls hl => ?_)
            refine lv_goto (tgt := 5) hx hb dX4_reachParts_70 (by decide) ?_
            exact ih_lp (k + 1) (g + 1) _ _ _ _ (by omega) (by omega) (by rw [hkd, ← List.append_assoc, List.length_append, hg9]; rfl) (by rw [hkd, ← List.append_assoc, show (upd s9 g (s9 at0 * wt k)) = upd s9 g (s1 * wt k) by rw [hqa.2], hg9]; exact qOk_push hq9) hP hD hS _ (lv_sub hl [0, 1, 2, 3, 4] rfl)
  refine lv_iload_n hx hb dX4_reachParts_0 rfl (lv_at hl 2 rfl) ?_
  refine lv_istore_n (lv' := [(3, .int (nI Q.length)), (0, .ref (a 0)), (1, .int (nI at0)), (2, .int (nI Q.length))]) hx hb dX4_reachParts_1 rfl hl (by decide) rfl (fun ls hl => ?_)
  refine lv_iconst (v := 0) hx hb dX4_reachParts_2 (by decide) ?_
  refine lv_istore (lv' := [(4, .int 0), (3, .int (nI Q.length)), (0, .ref (a 0)), (1, .int (nI at0)), (2, .int (nI Q.length))]) hx hb dX4_reachParts_3 hl (by decide) rfl (fun ls hl => ?_)
  exact lp (nC + 1) 0 Q.length rea sig _ _ (by omega) (by omega) (by simp [kids]) (by simpa [kids] using hQ) hP hD hS _ (lv_sub hl [0, 1, 2, 3, 4] rfl)
set_option maxHeartbeats 4000000 in
set_option maxRecDepth 100000 in
/-- what is derived -/
theorem c4_derived (l : Launch) (D : va_G) (cI cZ cO cL : ClassId) (dt : Nat) (A : Nat → Prop) (a FA : Nat → Nat) (nC nR nL nF : Nat) (par wt stk flw : Nat → Int32) (hd : Nat → Option Nat) (rea sig : Nat → Int32) (ck cf cd : Nat → Nat) (cv : Nat → Int32) (nx : Nat → Option Nat) (R : va_W) (L : List Nat) (ci pi mi fi : Int32) (hlt : l.stackTraces = false) (hC12 : nC ≤ 12) (hL8 : nL < 8) (hck : ∀ k, ck k < 480) (hcf : ∀ k, cf k < 2 ^ 31) (hcd : ∀ k, cd k ≤ 4) (hCh : chOk ck cf cd hd nx nF) (hF : nF ≤ 80) (hT : tree nC par L) : vx_Met l yX4_derived wsX4_derived ({ frames := 8, cells := 4, slots := 24, locals := 134 } : Room) (gP D cI cZ cO cL dt A [.ref (a 0), .int ci, .int pi, .int mi, .int fi] (fun H => va_P D vwCl (WD cI cO a FA nC nR nL nF par wt stk flw hd rea sig ++ (WF FA ck cf cd cv nx nF ++ R)) H ∧ va_D A (WD cI cO a FA nC nR nL nF par wt stk flw hd rea sig ++ (WF FA ck cf cd cv nx nF ++ R)))) (va_Qi (fun (r : Int32) (u : ((Nat × Nat) × (Nat × Nat)) × ((Nat → Int32) × (Nat → Int32))) => kV nC nL ci pi mi fi u.1.1.1 u.1.1.2 u.1.2.1 u.1.2.2 ∧ dV nC par wt (fun k => hC ck cf cd nF (nI (k * 40 + u.1.1.2 * 4 + u.1.2.1)) (nI u.1.2.2)) cv u.1.1.1 = some r) (fun u t => va_P D vwCl (WD cI cO a FA nC nR nL nF par wt stk flw hd u.2.1 u.2.2 ++ (WF FA ck cf cd cv nx nF ++ R)) t.heap ∧ va_D A (WD cI cO a FA nC nR nL nF par wt stk flw hd u.2.1 u.2.2 ++ (WF FA ck cf cd cv nx nF ++ R))) A) (vx_X (S := (Nat → Int32) × (Nat → Int32)) (fun _ => True) (fun E u t => ((E = "java/lang/IndexOutOfBoundsException" ∧ kNo nC nL ci pi mi fi) ∨ (E = "java/util/NoSuchElementException" ∧ ∃ c p m f : Nat, kV nC nL ci pi mi fi c p m f ∧ dV nC par wt (fun k => hC ck cf cd nF (nI (k * 40 + p * 4 + m)) (nI f)) cv c = none)) ∧ va_P D vwCl (WD cI cO a FA nC nR nL nF par wt stk flw hd u.1 u.2 ++ (WF FA ck cf cd cv nx nF ++ R)) t.heap ∧ va_D A (WD cI cO a FA nC nR nL nF par wt stk flw hd u.1 u.2 ++ (WF FA ck cf cd cv nx nF ++ R))) A) 4 24 A := by
  refine vx_ofW (cc := cX4_derived) (maxL := 10) (ret := (some .int)) (by decide) rfl ?_
  intro p9 e9 s m9 args below meth c9 s₁ B hml hout hv
  obtain ⟨rfl, hg, hP, hD⟩ := hv
  have hx := B.exec
  have hb := B.bytes
  have hr := B.returns
  have hts := atoms_spec (ws := wsX4_derived) B.pre
  have hown : s.vm.findClass RX4 = some m9.cls := findClass_of_methodNamed B.named
  have hlocks := B.notSynchronized
  have hK := hg.1
  have hS : va_S A s.heap s.heap [] := va_S.rf
  have w_0 := hts (.fieldLink RX4 36 "Dimfacts" "reached" "[I") (by decide +kernel)
  have win_X4 : ∀ w ∈ wsX40, w ∈ wsX4_derived := by decide +kernel
  have w_2 := hts (.fieldLink RX4 39 "Dimfacts" "signs" "[I") (by decide +kernel)
  have w_3 := hts (.fieldLink RX4 32 "Dimfacts" "keyed" "LDimfacts$KeyedFacts;") (by decide +kernel)
  have w_4 := hts (.classLink RX4 153 "java/util/NoSuchElementException") (by decide +kernel)
  have w_5 := hts (.initialized "java/util/NoSuchElementException") (by decide +kernel)
  have hat_3 : ∀ w ∈ (nx_at RX4 157).filter goodWord, w.before _ s = true := fun w h => hts w (List.mem_cons_of_mem _ (List.mem_append_left _ (List.mem_append_right _ h)))
  have w_7 := hts (.fieldLink RX4 135 "Dimfacts$Fact" "value" "I") (by decide +kernel)
  have win_X0 : ∀ w ∈ wsX00, w ∈ wsX4_derived := by decide +kernel
  have hl := lv_entry ([.ref (a 0), .int ci, .int pi, .int mi, .int fi]) (n := 10) (Nat.le_of_ble_eq_true rfl)
  rw [lg_entry_eq]
  generalize (lg_sl ([.ref (a 0), .int ci, .int pi, .int mi, .int fi]) ++ List.replicate (10 - (lg_sl ([.ref (a 0), .int ci, .int pi, .int mi, .int fi])).length) Slot.unset).toArray = ls at hl ⊢
  have hl : lv_has ls 10 [(0, .ref (a 0)), (1, .int ci), (2, .int pi), (3, .int mi), (4, .int fi)] := hl
  refine lv_aload_n hx hb dX4_derived_0 rfl (lv_at hl 0 rfl) ?_
  refine lv_iload_n hx hb dX4_derived_1 rfl (lv_at hl 1 rfl) ?_
  refine lv_iload_n hx hb dX4_derived_2 rfl (lv_at hl 2 rfl) ?_
  refine lv_iload_n hx hb dX4_derived_3 rfl (lv_at hl 3 rfl) ?_
  refine g_cxv (vx_runV (As := [.int ci, .int pi, .int mi]) (rest := []) ⟨hx, hb, hml, hown, hts⟩ (c4_checkKey l D cI cZ cO cL dt A a FA nC nR nL nF par wt stk flw hd rea sig ck cf cd cv nx R ci pi mi hlt hC12 hL8) (cwV 3 hts gX4_derived_X4_checkKey rfl rfl rfl (by decide +kernel) ⟨Nat.le_of_ble_eq_true rfl, Nat.le_of_ble_eq_true rfl⟩) (gP.v hg hP 3 rfl (0) (rfl) hP) rfl rfl hl.1 rfl (lv_room (Nat.le_of_ble_eq_true rfl)) dX4_derived_4 ⟨Nat.le_of_ble_eq_true rfl, Nat.le_of_ble_eq_true rfl⟩) (fun E9 ce9 q9 H9 hE9 hz9 hk9 hc9 hv9 hf9 => g_outW hout hlocks (⟨_, hP, fun t hP hF => ⟨(rea, sig), trivial, ⟨Or.inl ⟨hE9.1, fun z => hE9.2 z.1⟩, hP, hD⟩, hF⟩⟩) hz9 hk9 hc9 hv9 hf9 (fun _ h => nomatch h) (Nat.le_of_ble_eq_true rfl) (Nat.le_of_ble_eq_true rfl)) (fun hr_1 => ?_)
  refine W.widen (k := 2) (n := 12) (Nat.le_of_ble_eq_true rfl) (Nat.le_of_ble_eq_true rfl) ?_
  obtain ⟨⟨c1, rfl, hc1⟩, ⟨p1, rfl, hp1⟩, ⟨m1, rfl, hm1⟩⟩ := hr_1
  refine lv_aload_n hx hb dX4_derived_7 rfl (lv_at hl 0 rfl) ?_
  refine lv_iload hx hb dX4_derived_8 (lv_at hl 4 rfl) ?_
  refine g_cxv (vx_runV (As := [.int fi]) (rest := []) ⟨hx, hb, hml, hown, hts⟩ (c4_checkFiling l D cI cZ cO cL dt A a FA nC nR nL nF par wt stk flw hd rea sig ck cf cd cv nx R fi hlt hC12 hL8) (cwV 1 hts gX4_derived_X4_checkFiling rfl rfl rfl (by decide +kernel) ⟨Nat.le_of_ble_eq_true rfl, Nat.le_of_ble_eq_true rfl⟩) (gP.v hg hP 3 rfl (0) (rfl) hP) rfl rfl hl.1 rfl (lv_room (Nat.le_of_ble_eq_true rfl)) dX4_derived_10 ⟨Nat.le_of_ble_eq_true rfl, Nat.le_of_ble_eq_true rfl⟩) (fun E9 ce9 q9 H9 hE9 hz9 hk9 hc9 hv9 hf9 => g_outW hout hlocks (⟨_, hP, fun t hP hF => ⟨(rea, sig), trivial, ⟨Or.inl ⟨hE9.1, fun z => hE9.2 z.2⟩, hP, hD⟩, hF⟩⟩) hz9 hk9 hc9 hv9 hf9 (fun _ h => nomatch h) (Nat.le_of_ble_eq_true rfl) (Nat.le_of_ble_eq_true rfl)) (fun hr_2 => ?_)
  refine W.widen (k := 3) (n := 18) (Nat.le_of_ble_eq_true rfl) (Nat.le_of_ble_eq_true rfl) ?_
  obtain ⟨f1, rfl, hf1⟩ := hr_2
  refine lv_aload_n hx hb dX4_derived_13 rfl (lv_at hl 0 rfl) ?_
  refine va_get (D := D) (ci := 3) (v := .ref (a 7)) (C := RX4) (T := TX4) (N := 11) hx hb hts win_X4 hown hK hP (0) (rfl) rfl 9 (by decide) w_0 (fun _ h9 => h9) rfl dX4_derived_14 ?_
  refine lv_iconst (v := 0) hx hb dX4_derived_17 (by decide) ?_
  refine lv_iload_n hx hb dX4_derived_18 rfl (lv_at hl 1 rfl) ?_
  refine g_iast hx hb hK hP hD hS (7) 0 (n := 12) (f := rea) (rfl) rfl 0 rfl (by omega) (by decide) dX4_derived_19 (WD cI cO a FA nC nR nL nF par wt stk flw hd (upd rea 0 (nI c1)) sig ++ (WF FA ck cf cd cv nx nF ++ R)) rfl (fun H locs hP hD hS => ?_)
  refine lv_aload_n hx hb dX4_derived_20 rfl (lv_at hl 0 rfl) ?_
  refine va_get (D := D) (ci := 3) (v := .ref (a 8)) (C := RX4) (T := TX4) (N := 11) hx hb hts win_X4 hown hK hP (0) (rfl) rfl 10 (by decide) w_2 (fun _ h9 => h9) rfl dX4_derived_21 ?_
  refine lv_iconst (v := 0) hx hb dX4_derived_24 (by decide) ?_
  refine lv_iconst (v := 1) hx hb dX4_derived_25 (by decide) ?_
  refine g_iast hx hb hK hP hD hS (8) 0 (n := 12) (f := sig) (rfl) rfl 0 rfl (by omega) (by decide) dX4_derived_26 (WD cI cO a FA nC nR nL nF par wt stk flw hd (upd rea 0 (nI c1)) (upd sig 0 1) ++ (WF FA ck cf cd cv nx nF ++ R)) rfl (fun H locs hP hD hS => ?_)
  refine lv_iconst (v := 1) hx hb dX4_derived_27 (by decide) ?_
  refine lv_istore (lv' := [(5, .int 1), (0, .ref (a 0)), (1, .int (nI c1)), (2, .int (nI p1)), (3, .int (nI m1)), (4, .int (nI f1))]) hx hb dX4_derived_28 hl (by decide) rfl (fun ls hl => ?_)
  refine lv_iconst (v := 0) hx hb dX4_derived_30 (by decide) ?_
  refine lv_istore (lv' := [(6, .int 0), (5, .int 1), (0, .ref (a 0)), (1, .int (nI c1)), (2, .int (nI p1)), (3, .int (nI m1)), (4, .int (nI f1))]) hx hb dX4_derived_31 hl (by decide) rfl (fun ls hl => ?_)
  refine lv_iconst (v := 0) hx hb dX4_derived_33 (by decide) ?_
  refine lv_istore (lv' := [(7, .int 0), (6, .int 0), (5, .int 1), (0, .ref (a 0)), (1, .int (nI c1)), (2, .int (nI p1)), (3, .int (nI m1)), (4, .int (nI f1))]) hx hb dX4_derived_34 hl (by decide) rfl (fun ls hl => ?_)
  have lp : ∀ (n : Nat) (P9 N9 : List (Nat × Int32)) (tot : Int32) (r9 s9 : Nat → Int32) (H : Heap) (locs : List Loc), 12 < P9.length + n → reachd nC par L c1 P9 N9 → qOk r9 s9 (P9 ++ N9) → dV nC par wt (fun k => hC ck cf cd nF (nI (k * 40 + p1 * 4 + m1)) (nI f1)) cv c1 = osum (dV nC par wt (fun k => hC ck cf cd nF (nI (k * 40 + p1 * 4 + m1)) (nI f1)) cv) tot N9 → va_P D vwCl (WD cI cO a FA nC nR nL nF par wt stk flw hd r9 s9 ++ (WF FA ck cf cd cv nx nF ++ R)) H → va_D A (WD cI cO a FA nC nR nL nF par wt stk flw hd r9 s9 ++ (WF FA ck cf cd cv nx nF ++ R)) → va_S A s.heap H locs → ∀ ls : Array Slot, lv_has ls 10 [(7, .int (nI P9.length)), (6, .int tot), (5, .int (nI (P9 ++ N9).length)), (0, .ref (a 0)), (1, .int (nI c1)), (2, .int (nI p1)), (3, .int (nI m1)), (4, .int (nI f1))] → W p9 l e9 (headSpec wsX4_derived ({ frames := 8, cells := 4, slots := 24, locals := 134 } : Room)).room s m9 ([.ref (a 0), .int (nI c1), .int (nI p1), .int (nI m1), .int (nI f1)] : List Value).toArray below meth c9 H locs 3 18 (vx_MQ below (va_Qi (fun (r : Int32) (u : ((Nat × Nat) × (Nat × Nat)) × ((Nat → Int32) × (Nat → Int32))) => kV nC nL (nI c1) (nI p1) (nI m1) (nI f1) u.1.1.1 u.1.1.2 u.1.2.1 u.1.2.2 ∧ dV nC par wt (fun k => hC ck cf cd nF (nI (k * 40 + u.1.1.2 * 4 + u.1.2.1)) (nI u.1.2.2)) cv u.1.1.1 = some r) (fun u t => va_P D vwCl (WD cI cO a FA nC nR nL nF par wt stk flw hd u.2.1 u.2.2 ++ (WF FA ck cf cd cv nx nF ++ R)) t.heap ∧ va_D A (WD cI cO a FA nC nR nL nF par wt stk flw hd u.2.1 u.2.2 ++ (WF FA ck cf cd cv nx nF ++ R))) A) (vx_X (S := (Nat → Int32) × (Nat → Int32)) (fun _ => True) (fun E u t => ((E = "java/lang/IndexOutOfBoundsException" ∧ kNo nC nL (nI c1) (nI p1) (nI m1) (nI f1)) ∨ (E = "java/util/NoSuchElementException" ∧ ∃ c p m f : Nat, kV nC nL (nI c1) (nI p1) (nI m1) (nI f1) c p m f ∧ dV nC par wt (fun k => hC ck cf cd nF (nI (k * 40 + p * 4 + m)) (nI f)) cv c = none)) ∧ va_P D vwCl (WD cI cO a FA nC nR nL nF par wt stk flw hd u.1 u.2 ++ (WF FA ck cf cd cv nx nF ++ R)) t.heap ∧ va_D A (WD cI cO a FA nC nR nL nF par wt stk flw hd u.1 u.2 ++ (WF FA ck cf cd cv nx nF ++ R))) A) ([.ref (a 0), .int (nI c1), .int (nI p1), .int (nI m1), .int (nI f1)] : List Value).toArray s 4 24 A) (F0 m9 36 ls []) := by
    intro n
    induction n with
    | zero => intro P9 N9 tot r9 s9 H locs h1 h2; exact absurd (reachd_len h2) (by rw [List.length_append]; omega)
    | succ n ih_lp =>
      intro P9 N9 tot r9 s9 H locs hn9 hr9 hq9 hO9 hP hD hS ls hl
      have hl12 : (P9 ++ N9).length ≤ 12 := Nat.le_trans (reachd_len hr9) hC12
      have hPN : P9.length ≤ (P9 ++ N9).length := by rw [List.length_append]; omega
      refine lv_iload hx hb dX4_derived_36 (lv_at hl 0 rfl) ?_
      refine lv_bipush (v := 12) hx hb dX4_derived_38 (by decide) ?_
      refine lv_icmp_ge (tgt := 136) hx hb dX4_derived_40 (by decide) (fun c_40 => ?_) (fun c_40 => ?_)
      · skip
        have hN0 : N9 = [] := by
          have h1 := (nI_leI (a := 12) (b := P9.length) (by decide) (by omega)).mp c_40
          have h2 : (P9 ++ N9).length = P9.length + N9.length := List.length_append
          exact List.length_eq_zero_iff.mp (by omega)
        subst hN0
        refine lv_iload hx hb dX4_derived_136 (lv_at hl 1 rfl) ?_
        exact vx_ret (W.widen (k := 4) (n := 24) (Nat.le_of_ble_eq_true rfl) (Nat.le_of_ble_eq_true rfl) (W.iret (v := tot) hx hb hr (fun t ht hW => ⟨⟨tot, (((c1, p1), (m1, f1)), (r9, s9)), rfl, ⟨⟨⟨rfl, hc1⟩, ⟨rfl, hp1⟩, ⟨rfl, hm1⟩, ⟨rfl, hf1⟩⟩, hO9⟩, g_PD ht hP hD⟩, hS.F ht⟩) hS.2.2 dX4_derived_138))
      · skip
        refine lv_iload hx hb dX4_derived_43 (lv_at hl 0 rfl) ?_
        refine lv_iload hx hb dX4_derived_45 (lv_at hl 2 rfl) ?_
        refine lv_icmp_ge (tgt := 136) hx hb dX4_derived_47 (by decide) (fun c_47 => ?_) (fun c_47 => ?_)
        · skip
          have hN0 : N9 = [] := by
            have h1 := (nI_leI (a := (P9 ++ N9).length) (b := P9.length) (by omega) (by omega)).mp c_47
            have h2 : (P9 ++ N9).length = P9.length + N9.length := List.length_append
            exact List.length_eq_zero_iff.mp (by omega)
          subst hN0
          refine lv_iload hx hb dX4_derived_136 (lv_at hl 1 rfl) ?_
          exact vx_ret (W.widen (k := 4) (n := 24) (Nat.le_of_ble_eq_true rfl) (Nat.le_of_ble_eq_true rfl) (W.iret (v := tot) hx hb hr (fun t ht hW => ⟨⟨tot, (((c1, p1), (m1, f1)), (r9, s9)), rfl, ⟨⟨⟨rfl, hc1⟩, ⟨rfl, hp1⟩, ⟨rfl, hm1⟩, ⟨rfl, hf1⟩⟩, hO9⟩, g_PD ht hP hD⟩, hS.F ht⟩) hS.2.2 dX4_derived_138))
        · skip
          have h1 := mt (nI_leI (a := (P9 ++ N9).length) (b := P9.length) (by omega) (by omega)).mpr c_47
          obtain ⟨q, sg, N2, rfl⟩ : ∃ q sg N2, N9 = (q, sg) :: N2 := by
            cases N9 with
            | nil => rw [List.append_nil] at h1; exact absurd (Nat.le_refl _) h1
            | cons x N2 => exact ⟨x.1, x.2, N2, rfl⟩
          have hqa := qOk_at hq9
          have hq1 := (hr9.2.1 (q, sg) (List.mem_append_right _ List.mem_cons_self)).1
          have hPl : P9.length < (P9 ++ (q, sg) :: N2).length := by simp
          have hlen9 : (P9 ++ (q, sg) :: N2).length + chC par q nC ≤ 12 := by
            have := reachd_len (reachd_kids (f := fun c => sg * wt c) hT hC12 hr9 hc1)
            simp only [List.length_append, List.length_cons, List.length_nil, List.length_map, kids_len] at this ⊢
            omega
          refine lv_aload_n hx hb dX4_derived_50 rfl (lv_at hl 3 rfl) ?_
          refine va_get (D := D) (ci := 3) (v := .ref (a 6)) (C := RX4) (T := TX4) (N := 11) hx hb hts win_X4 hown hK hP (0) (rfl) rfl 8 (by decide) w_3 (fun _ h9 => h9) rfl dX4_derived_51 ?_
          refine lv_aload_n hx hb dX4_derived_54 rfl (lv_at hl 3 rfl) ?_
          refine va_get (D := D) (ci := 3) (v := .ref (a 7)) (C := RX4) (T := TX4) (N := 11) hx hb hts win_X4 hown hK hP (0) (rfl) rfl 9 (by decide) w_0 (fun _ h9 => h9) rfl dX4_derived_55 ?_
          refine lv_iload hx hb dX4_derived_58 (lv_at hl 0 rfl) ?_
          refine g_iald hx hb hK hP (7) 0 (n := 12) (f := r9) (rfl) rfl P9.length rfl (by omega) (by decide) dX4_derived_60 ?_
          rw [hqa.1]
          refine lv_iload_n hx hb dX4_derived_61 rfl (lv_at hl 5 rfl) ?_
          refine lv_iload_n hx hb dX4_derived_62 rfl (lv_at hl 6 rfl) ?_
          refine g_csi (va_runS (As := [.int (nI q), .int (nI p1), .int (nI m1)]) (rest := [.ref (a 6)]) ⟨hx, hb, hml, hown, hts⟩ (c4_keyOf l D cI cZ cO cL dt A q p1 m1 (WD cI cO a FA nC nR nL nF par wt stk flw hd r9 s9 ++ (WF FA ck cf cd cv nx nF ++ R))) (va_cwS 3 hts gX4_derived_X4_keyOf rfl rfl rfl (by decide +kernel) ⟨Nat.le_of_ble_eq_true rfl, Nat.le_of_ble_eq_true rfl⟩) (gP.s (hg.on hS) hP) rfl rfl hl.1 rfl (lv_room (Nat.le_of_ble_eq_true rfl)) dX4_derived_63 ⟨Nat.le_of_ble_eq_true rfl, Nat.le_of_ble_eq_true rfl⟩) (fun r_3 hr_3 => ?_)
          obtain rfl : r_3 = nI (q * 40 + p1 * 4 + m1) := hr_3
          refine lv_iload hx hb dX4_derived_66 (lv_at hl 7 rfl) ?_
          refine g_csq (va_runV (As := [.int (nI (q * 40 + p1 * 4 + m1)), .int (nI f1)]) (rest := []) ⟨hx, hb, hml, hown, hts⟩ (c2_holding l D cI cZ cO cL dt A a FA nC nR nL nF par wt stk flw hd r9 s9 ck cf cd cv nx R (q * 40 + p1 * 4 + m1) (nI f1) (by omega) hck hCh) (cwV 2 hts gX4_derived_X2_holding rfl rfl rfl (by decide +kernel) ⟨Nat.le_of_ble_eq_true rfl, Nat.le_of_ble_eq_true rfl⟩) (gP.v (hg.on hS) hP 1 rfl (6) (rfl) hP) rfl rfl hl.1 rfl (lv_room (Nat.le_of_ble_eq_true rfl)) dX4_derived_68 ⟨Nat.le_of_ble_eq_true rfl, Nat.le_of_ble_eq_true rfl⟩) (fun r_4 hr_4 => ?_)
          obtain ⟨o_r_4, hH⟩ : ∃ z, hC ck cf cd nF (nI (q * 40 + p1 * 4 + m1)) (nI f1) = z := ⟨_, rfl⟩
          rcases o_r_4 with _ | j
          · skip
            obtain rfl : r_4 = none := hr_4.trans (congrArg (Option.map FA) hH)
            refine lv_astoreN (lv' := [(8, .null), (7, .int (nI P9.length)), (6, .int tot), (5, .int (nI (P9 ++ (((q, sg) :: N2))).length)), (0, .ref (a 0)), (1, .int (nI c1)), (2, .int (nI p1)), (3, .int (nI m1)), (4, .int (nI f1))]) hx hb dX4_derived_71 hl (by decide) rfl (fun ls hl => ?_)
            refine lv_aloadN hx hb dX4_derived_73 (lv_at hl 0 rfl) ?_
            refine lv_ifnullN (tgt := 99) hx hb dX4_derived_75 (by decide) ?_
            refine lv_aload_n hx hb dX4_derived_99 rfl (lv_at hl 4 rfl) ?_
            refine lv_iload hx hb dX4_derived_100 (lv_at hl 1 rfl) ?_
            refine lv_iload hx hb dX4_derived_102 (lv_at hl 3 rfl) ?_
            refine va_calli (va_runV (As := [.int (nI P9.length), .int (nI (P9 ++ (((q, sg) :: N2))).length)]) (rest := []) ⟨hx, hb, hml, hown, hts⟩ (c4_reachParts l D cI cZ cO cL dt A a FA nC nR nL nF par wt stk flw hd r9 s9 ck cf cd cv nx R P9.length (P9 ++ (q, sg) :: N2) q sg hC12 hq9 (by rw [List.getElem?_append_right (Nat.le_refl _), Nat.sub_self]; rfl) (by simp) hlen9) (cwV 2 hts gX4_derived_X4_reachParts rfl rfl rfl (by decide +kernel) ⟨Nat.le_of_ble_eq_true rfl, Nat.le_of_ble_eq_true rfl⟩) (gP.v (hg.on hS) hP 3 rfl (0) (rfl) (⟨hP, hD⟩)) rfl rfl hl.1 rfl (lv_room (Nat.le_of_ble_eq_true rfl)) dX4_derived_104 ⟨Nat.le_of_ble_eq_true rfl, Nat.le_of_ble_eq_true rfl⟩) hS (fun q _ h => h) (fun q h => h) (fun r_5 ur_5 tr_5 H locs htr_5 hvmr_5 hwr_5 hB hzr_5 hkr_5 hS => ?_)
            rw [htr_5] at hB
            obtain ⟨hP, hD⟩ := hB
            obtain rfl : r_5 = nI (P9 ++ (q, sg) :: N2 ++ (kids par q nC).map (fun c => (c, sg * wt c))).length := hwr_5.2
            have hP : va_P D vwCl (WD cI cO a FA nC nR nL nF par wt stk flw hd ur_5.1 ur_5.2 ++ (WF FA ck cf cd cv nx nF ++ R)) H := hP
            have hD : va_D A (WD cI cO a FA nC nR nL nF par wt stk flw hd ur_5.1 ur_5.2 ++ (WF FA ck cf cd cv nx nF ++ R)) := hD
            refine lv_istore (lv' := [(9, .int (nI (P9 ++ (q, sg) :: N2 ++ (kids par q nC).map (fun c => (c, sg * wt c))).length)), (8, .null), (7, .int (nI P9.length)), (6, .int tot), (5, .int (nI (P9 ++ (((q, sg) :: N2))).length)), (0, .ref (a 0)), (1, .int (nI c1)), (2, .int (nI p1)), (3, .int (nI m1)), (4, .int (nI f1))]) hx hb dX4_derived_107 hl (by decide) rfl (fun ls hl => ?_)
            refine lv_iload hx hb dX4_derived_109 (lv_at hl 0 rfl) ?_
            refine lv_iload hx hb dX4_derived_111 (lv_at hl 4 rfl) ?_
            refine lv_icmp_ne (tgt := 126) hx hb dX4_derived_113 (by decide) (fun c_113 => ?_) (fun c_113 => ?_)
            · skip
              have h0 : 0 < chC par q nC := by
                rcases Nat.eq_zero_or_pos (chC par q nC) with z | z
                · exfalso; apply c_113; rw [List.length_append (bs := (kids par q nC).map _), List.length_map, kids_len, z]; rfl
                · exact z
              refine lv_iload hx hb dX4_derived_126 (lv_at hl 0 rfl) ?_
              refine lv_istore (lv' := [(5, .int (nI (P9 ++ (q, sg) :: N2 ++ (kids par q nC).map (fun c => (c, sg * wt c))).length)), (9, .int (nI (P9 ++ (q, sg) :: N2 ++ (kids par q nC).map (fun c => (c, sg * wt c))).length)), (8, .null), (7, .int (nI P9.length)), (6, .int tot), (0, .ref (a 0)), (1, .int (nI c1)), (2, .int (nI p1)), (3, .int (nI m1)), (4, .int (nI f1))]) hx hb dX4_derived_128 hl (by decide) rfl (fun ls hl => ?_)
              refine lv_iinc (v := nI (P9.length + 1)) (lv' := [(7, .int (nI (P9.length + 1))), (5, .int (nI (P9 ++ (q, sg) :: N2 ++ (kids par q nC).map (fun c => (c, sg * wt c))).length)), (9, .int (nI (P9 ++ (q, sg) :: N2 ++ (kids par q nC).map (fun c => (c, sg * wt c))).length)), (8, .null), (6, .int tot), (0, .ref (a 0)), (1, .int (nI c1)), (2, .int (nI p1)), (3, .int (nI m1)), (4, .int (nI f1))]) hx hb dX4_derived_130 hl (k := 3) rfl (nI_1 P9.length) (by decide) rfl (fun ls hl => ?_)
              refine lv_goto (tgt := 36) hx hb dX4_derived_133 (by decide) ?_
              have hl7 : (nI (P9.length + 1) : Int32) = nI (P9 ++ [(q, sg)]).length := by rw [List.length_append]; rfl
              have hll : P9 ++ (q, sg) :: N2 ++ (kids par q nC).map (fun c => (c, sg * wt c)) = P9 ++ [(q, sg)] ++ (N2 ++ (kids par q nC).map (fun c => (c, sg * wt c))) := by simp
              rw [hl7] at hl
              rw [hll] at hl
              exact ih_lp (P9 ++ [(q, sg)]) (N2 ++ (kids par q nC).map (fun c => (c, sg * wt c))) tot _ _ _ _ (by rw [List.length_append]; show 12 < P9.length + 1 + n; omega) (reachd_kids hT hC12 hr9 hc1) (by rw [← hll]; exact hwr_5.1) (by rw [hO9]; exact os_kids hT hC12 hq1 hH h0) hP hD hS _ (lv_sub hl [0, 4, 1, 5, 6, 7, 8, 9] rfl)
            · skip
              have h0 : chC par q nC = 0 := by
                have hl2 : (P9 ++ (q, sg) :: N2 ++ (kids par q nC).map (fun c => (c, sg * wt c))).length = (P9 ++ (q, sg) :: N2).length + chC par q nC := by rw [List.length_append (bs := (kids par q nC).map _), List.length_map, kids_len]
                have := (nI_eq (by omega) (by omega)).mp c_113
                omega
              exact g_throwNW (D := D) (cI := cI) (cZ := cZ) (cO := cO) (cL := cL) (dt := dt) (A := A) (text := "a value neither holds nor is derived") hx hb hlt hown (by decide +kernel) w_4 w_5 (by decide +kernel) hg hat_3 hg.2.1.2.2.2.2.2.2.2.2.2.1 (hl.1.trans hml.symm) dX4_derived_116 dX4_derived_119 dX4_derived_120 dX4_derived_122 dX4_derived_125 hout (Nat.le_of_ble_eq_true rfl) (Nat.le_of_ble_eq_true rfl) (Nat.le_of_ble_eq_true rfl) (Nat.le_of_ble_eq_true rfl) hlocks (⟨_, hP, hD, hS, fun t hP hF => ⟨(ur_5.1, ur_5.2), trivial, ⟨Or.inr ⟨rfl, c1, p1, m1, f1, ⟨⟨rfl, hc1⟩, ⟨rfl, hp1⟩, ⟨rfl, hm1⟩, ⟨rfl, hf1⟩⟩, by rw [hO9]; exact os_dead hT hC12 hq1 hH h0⟩, hP, hD⟩, hF⟩⟩) (Nat.le_of_ble_eq_true rfl) (Nat.le_of_ble_eq_true rfl)
          · skip
            obtain rfl : r_4 = some (FA j) := hr_4.trans (congrArg (Option.map FA) hH)
            have hj := (sel_lt hH).1
            refine lv_astore (lv' := [(8, .ref (FA j)), (7, .int (nI P9.length)), (6, .int tot), (5, .int (nI (P9 ++ (((q, sg) :: N2))).length)), (0, .ref (a 0)), (1, .int (nI c1)), (2, .int (nI p1)), (3, .int (nI m1)), (4, .int (nI f1))]) hx hb dX4_derived_71 hl (by decide) rfl (fun ls hl => ?_)
            refine lv_aload hx hb dX4_derived_73 (lv_at hl 0 rfl) ?_
            refine lv_ifnull hx hb dX4_derived_75 ?_
            refine lv_iload hx hb dX4_derived_78 (lv_at hl 2 rfl) ?_
            refine lv_aload_n hx hb dX4_derived_80 rfl (lv_at hl 4 rfl) ?_
            refine va_get (D := D) (ci := 3) (v := .ref (a 8)) (C := RX4) (T := TX4) (N := 11) hx hb hts win_X4 hown hK hP (0) (rfl) rfl 10 (by decide) w_2 (fun _ h9 => h9) rfl dX4_derived_81 ?_
            refine lv_iload hx hb dX4_derived_84 (lv_at hl 1 rfl) ?_
            refine g_iald hx hb hK hP (8) 0 (n := 12) (f := s9) (rfl) rfl P9.length rfl (by omega) (by decide) dX4_derived_86 ?_
            refine lv_aload hx hb dX4_derived_87 (lv_at hl 0 rfl) ?_
            refine va_get (D := D) (ci := 0) (v := .int (cv j)) (C := RX0) (T := TX0) (N := 5) hx hb hts win_X0 hown hK hP (11 + j) (WDG_at (by omega)) rfl 2 (by decide) w_7 (fun _ h9 => h9) rfl dX4_derived_89 ?_
            refine lv_imul hx hb dX4_derived_92 ?_
            refine lv_iadd hx hb dX4_derived_93 ?_
            refine lv_istore (lv' := [(6, .int (tot + ((s9 P9.length) * (cv j)))), (8, .ref (FA j)), (7, .int (nI P9.length)), (5, .int (nI (P9 ++ (((q, sg) :: N2))).length)), (0, .ref (a 0)), (1, .int (nI c1)), (2, .int (nI p1)), (3, .int (nI m1)), (4, .int (nI f1))]) hx hb dX4_derived_94 hl (by decide) rfl (fun ls hl => ?_)
            refine lv_goto (tgt := 130) hx hb dX4_derived_96 (by decide) ?_
            refine lv_iinc (v := nI (P9.length + 1)) (lv' := [(7, .int (nI (P9.length + 1))), (6, .int (tot + ((s9 P9.length) * (cv j)))), (8, .ref (FA j)), (5, .int (nI (P9 ++ (((q, sg) :: N2))).length)), (0, .ref (a 0)), (1, .int (nI c1)), (2, .int (nI p1)), (3, .int (nI m1)), (4, .int (nI f1))]) hx hb dX4_derived_130 hl (k := 2) rfl (nI_1 P9.length) (by decide) rfl (fun ls hl => ?_)
            refine lv_goto (tgt := 36) hx hb dX4_derived_133 (by decide) ?_
            have hl7 : (nI (P9.length + 1) : Int32) = nI (P9 ++ [(q, sg)]).length := by rw [List.length_append]; rfl
            have hll : P9 ++ (q, sg) :: N2 = P9 ++ [(q, sg)] ++ N2 := by simp
            rw [hl7, hll] at hl
            exact ih_lp (P9 ++ [(q, sg)]) N2 _ _ _ _ _ (by rw [List.length_append]; show 12 < P9.length + 1 + n; omega) (reachd_val hr9) (by rw [← hll]; exact hq9) (by rw [hO9, hqa.2]; exact os_val hT hC12 hq1 hH) hP hD hS _ (lv_sub hl [0, 1, 3, 4, 5, 6, 7, 8] rfl)
  exact lp 13 [] [(c1, 1)] 0 _ _ _ _ (by show 12 < 0 + 13; omega) (reachd_one hc1) qOk_one osum_one hP hD hS _ (lv_sub hl [0, 1, 2, 3, 4, 5, 6, 7] rfl)
