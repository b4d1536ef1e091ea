-- THE LAW, FROM ITS ENTRY
theorem lw_gt {i L : Nat} (hi : i < 2 ^ 30) (hL : L < 2 ^ 30) : (nI L - 6 < nI i) ↔ L < i + 6 := by
  rw [Int32.lt_iff_toInt_lt, nI_toInt (by omega), Int32.toInt_sub, nI_toInt (by omega), show (6 : Int32).toInt = 6 by decide, Int.bmod_eq_of_le (by omega) (by omega)]
  omega
theorem lw_6 {j : Nat} : nI (6 * j) + 6 = nI (6 * (j + 1)) := nI_add (6 * j) 6
set_option maxHeartbeats 4000000 in
set_option maxRecDepth 100000 in
theorem law_loop {p9 : Program} {e9 : Env} {s : State} {m9 : MethodId} {below : List Frame} {meth : Method} {c9 : Code} (l : Launch) (hlt : l.stackTraces = false) {D : va_G} {cI cZ cO cL : ClassId} {dt b0 Ls : Nat} {xs : Nat → Int32} (hLs : Ls ≤ 3072) (C0 : lw_At p9 s m9 meth c9 b0 Ls xs)
    (hg : gG D cI cZ cO cL dt (fun q : Nat => s.heap.size ≤ q) s s.heap) (hts : ∀ w ∈ wsL_law, w.before #[Value.ref b0] s = true) (a b : Nat → Nat) (ob : Nat) :
    ∀ (n j : Nat) (H : Heap) (locs : List Loc) (ls : Array Slot), Ls < 6 * j + n → 6 * j ≤ Ls → lInv D cI cZ cO cL (fun q : Nat => s.heap.size ≤ q) a b ob H → va_S (fun q : Nat => s.heap.size ≤ q) s.heap H locs → lv_has ls 7 [(4, .int (nI (6 * j))), (3, .ref ob), (2, .ref (b 0)), (1, .ref (a 0)), (0, .ref b0)] →
      W p9 l e9 room_1 s m9 #[Value.ref b0] below meth c9 H locs (25 + 4 * j) (1188 + 24 * j) (lw_Z below #[Value.ref b0] s) (F0 m9 23 ls []) := by
  obtain ⟨hx, hb, hr, hml, hown, -, hX, hb0, hlocks, hgv⟩ := C0
  have hbA : ¬ (fun q : Nat => s.heap.size ≤ q) b0 := Nat.not_le.mpr hb0
  intro n
  induction n with
  | zero => intro j H locs ls h1 h2; exact absurd h1 (by omega)
  | succ n ih =>
    intro j H locs ls hn hj hI hS hl
    refine lv_iload hx hb dL_law_23 (lv_at hl 0 rfl) ?_
    refine lv_aload_n hx hb dL_law_25 rfl (lv_at hl 4 rfl) ?_
    refine va_slen hx hb hX hb0 hbA hS dL_law_26 ?_
    refine lv_bipush (v := 6) hx hb dL_law_27 (by decide) ?_
    refine lv_isub hx hb dL_law_29 ?_
    refine lv_icmp_gt (tgt := 1419) hx hb dL_law_30 (by decide) (fun c_30 => ?_) (fun c_30 => ?_)
    · refine lv_iconst (v := 1) hx hb dL_law_1419 (by decide) ?_
      refine va_forget (fun q hq => hS.2.2 q hq) ?_
      refine W.widen (k := 601024) (n := 7293034) (by omega) (by omega) ?_
      exact lw_ret hx hb hr hlocks dL_law_1420
    · have hi : 6 * j + 6 ≤ Ls := by
        have := mt (lw_gt (i := 6 * j) (L := Ls) (by omega) (by omega)).mpr c_30
        omega
      have next : ∀ (H : Heap) (locs : List Loc) (ls : Array Slot), lInv D cI cZ cO cL (fun q : Nat => s.heap.size ≤ q) a b ob H → va_S (fun q : Nat => s.heap.size ≤ q) s.heap H locs → lv_has ls 7 [(4, .int (nI (6 * j))), (3, .ref ob), (2, .ref (b 0)), (1, .ref (a 0)), (0, .ref b0)] →
          W p9 l e9 room_1 s m9 #[Value.ref b0] below meth c9 H locs (25 + 4 * j + 4) (1188 + 24 * j + 24) (lw_Z below #[Value.ref b0] s) (F0 m9 1413 ls []) := by
        intro H locs ls hI hS hl
        refine lv_iinc (v := nI (6 * (j + 1))) (lv' := [(4, .int (nI (6 * (j + 1)))), (3, .ref ob), (2, .ref (b 0)), (1, .ref (a 0)), (0, .ref b0)]) hx hb dL_law_1413 hl (k := 0) rfl lw_6 (by decide) rfl (fun ls hl => ?_)
        refine lv_goto (tgt := 23) hx hb dL_law_1416 (by decide) ?_
        have := ih (j + 1) H locs ls (by omega) (by omega) hI hS hl
        rwa [show 25 + 4 * (j + 1) = 25 + 4 * j + 4 by omega, show 1188 + 24 * (j + 1) = 1188 + 24 * j + 24 by omega] at this
      refine lv_aload_n hx hb dL_law_33 rfl (lv_at hl 4 rfl) ?_
      refine lv_iload hx hb dL_law_34 (lv_at hl 0 rfl) ?_
      refine va_sld hx hb hX hb0 hbA hS (vp_in_nI (n := 6 * j) (by omega) (by omega)) dL_law_36 ?_
      refine lv_bipush (v := 31) hx hb dL_law_37 (by decide) ?_
      refine lv_iand hx hb dL_law_39 ?_
      refine lv_topi (fun x9 _ => ?_)
      by_cases ho : x9.toInt < 0 ∨ 16 < x9.toInt
      · refine lv_tableOut (tgt := 1413) hx hb dL_law_40 ho (by decide) ?_
        refine W.widen (k := 25 + 4 * j + 4) (n := 1188 + 24 * j + 24) (by omega) (by omega) ?_
        exact next _ _ _ hI hS hl
      · have h17 : x9.toInt = 0 ∨ x9.toInt = 1 ∨ x9.toInt = 2 ∨ x9.toInt = 3 ∨ x9.toInt = 4 ∨ x9.toInt = 5 ∨ x9.toInt = 6 ∨ x9.toInt = 7 ∨ x9.toInt = 8 ∨ x9.toInt = 9 ∨ x9.toInt = 10 ∨ x9.toInt = 11 ∨ x9.toInt = 12 ∨ x9.toInt = 13 ∨ x9.toInt = 14 ∨ x9.toInt = 15 ∨ x9.toInt = 16 := by omega
        rcases h17 with h9 | h9 | h9 | h9 | h9 | h9 | h9 | h9 | h9 | h9 | h9 | h9 | h9 | h9 | h9 | h9 | h9
        · refine lv_tableIn (off := 84) (tgt := 124) hx hb dL_law_40 (by omega) (by omega) (by rw [h9]; rfl) (by decide) ?_
          exact lw_addConcept l hlt hx hb hml hown hts hg hX hb0 hbA hi hLs hI hS hl (by omega) (by omega) next
        · refine lv_tableIn (off := 128) (tgt := 168) hx hb dL_law_40 (by omega) (by omega) (by rw [h9]; rfl) (by decide) ?_
          exact lw_hang l hlt hx hb hml hown hts hg hX hb0 hbA hi hLs hI hS hl (by omega) (by omega) next
        · refine lv_tableIn (off := 224) (tgt := 264) hx hb dL_law_40 (by omega) (by omega) (by rw [h9]; rfl) (by decide) ?_
          exact lw_unhang l hlt hx hb hml hown hts hg hX hb0 hbA hi hLs hI hS hl (by omega) (by omega) next
        · refine lv_tableIn (off := 280) (tgt := 320) hx hb dL_law_40 (by omega) (by omega) (by rw [h9]; rfl) (by decide) ?_
          exact lw_addRoll l hlt hx hb hml hown hts hg hX hb0 hbA hi hLs hI hS hl (by omega) (by omega) next
        · refine lv_tableIn (off := 348) (tgt := 388) hx hb dL_law_40 (by omega) (by omega) (by rw [h9]; rfl) (by decide) ?_
          exact lw_file l hlt hx hb hml hown hts hg hX hb0 hbA hi hLs hI hS hl (by omega) (by omega) next
        · refine lv_tableIn (off := 392) (tgt := 432) hx hb dL_law_40 (by omega) (by omega) (by rw [h9]; rfl) (by decide) ?_
          exact lw_tell l hlt hx hb hml hown hts hg hX hb0 hbA hi hLs hI hS hl (by omega) (by omega) next
        · refine lv_tableIn (off := 496) (tgt := 536) hx hb dL_law_40 (by omega) (by omega) (by rw [h9]; rfl) (by decide) ?_
          exact lw_disagreements l hlt hx hb hml hown hts hg hX hb0 hbA hi hLs hI hS hl (by omega) (by omega) next
        · refine lv_tableIn (off := 552) (tgt := 592) hx hb dL_law_40 (by omega) (by omega) (by rw [h9]; rfl) (by decide) ?_
          exact lw_restated l hlt hx hb hml hown hts hg hX hb0 hbA hi hLs hI hS hl (by omega) (by omega) next
        · refine lv_tableIn (off := 608) (tgt := 648) hx hb dL_law_40 (by omega) (by omega) (by rw [h9]; rfl) (by decide) ?_
          exact lw_value l hlt hx hb hml hown hts hg hX hb0 hbA hi hLs hI hS hl (by omega) (by omega) next
        · refine lv_tableIn (off := 700) (tgt := 740) hx hb dL_law_40 (by omega) (by omega) (by rw [h9]; rfl) (by decide) ?_
          exact lw_doubt l hlt hx hb hml hown hts hg hX hb0 hbA hi hLs hI hS hl (by omega) (by omega) next
        · refine lv_tableIn (off := 792) (tgt := 832) hx hb dL_law_40 (by omega) (by omega) (by rw [h9]; rfl) (by decide) ?_
          exact lw_sum l hlt hx hb hml hown hts hg hX hb0 hbA hi hLs hI hS hl (by omega) (by omega) next
        · refine lv_tableIn (off := 884) (tgt := 924) hx hb dL_law_40 (by omega) (by omega) (by rw [h9]; rfl) (by decide) ?_
          exact lw_derived l hlt hx hb hml hown hts hg hX hb0 hbA hi hLs hI hS hl (by omega) (by omega) next
        · refine lv_tableIn (off := 976) (tgt := 1016) hx hb dL_law_40 (by omega) (by omega) (by rw [h9]; rfl) (by decide) ?_
          exact lw_isSumOff l hlt hx hb hml hown hts hg hX hb0 hbA hi hLs hI hS hl (by omega) (by omega) next
        · refine lv_tableIn (off := 1075) (tgt := 1115) hx hb dL_law_40 (by omega) (by omega) (by rw [h9]; rfl) (by decide) ?_
          exact lw_areMembersOff l hlt hx hb hml hown hts hg hX hb0 hbA hi hLs hI hS hl (by omega) (by omega) next
        · refine lv_tableIn (off := 1162) (tgt := 1202) hx hb dL_law_40 (by omega) (by omega) (by rw [h9]; rfl) (by decide) ?_
          exact lw_isRollOff l hlt hx hb hml hown hts hg hX hb0 hbA hi hLs hI hS hl (by omega) (by omega) next
        · refine lv_tableIn (off := 1261) (tgt := 1301) hx hb dL_law_40 (by omega) (by omega) (by rw [h9]; rfl) (by decide) ?_
          exact lw_faults l hlt hx hb hml hown hts hg hX hb0 hbA hi hLs hI hS hl (by omega) (by omega) next
        · refine lv_tableIn (off := 1317) (tgt := 1357) hx hb dL_law_40 (by omega) (by omega) (by rw [h9]; rfl) (by decide) ?_
          exact lw_faultsByList l hlt hx hb hml hown hts hg hX hb0 hbA hi hLs hI hS hl (by omega) (by omega) next
