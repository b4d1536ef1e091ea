-- THE GROUND that every contract stands on: the classes known, the statics, the nest links, the texts; what no method changes
abbrev gTys (cI _cZ cO _cL : ClassId) : List (ClassId × FieldType) := [(cI, .int), (cI, .int), (cO, .object RX0), (cI, .int)]
/-- the method that FactStore declares -/
abbrev gHold : MethodName := ⟨"Dimfacts$FactStore", "holding", "(II)LDimfacts$Fact;"⟩
/-- the words of no list of any method: nest links, casts -/
def gN (U : State) : Prop :=
  va_Nw (.methodLinkNest RX4 24 yX3_init RX4) U ∧ va_Nw (.methodLinkNest RX4 31 yX2_init RX4) U ∧ va_Nw (.methodLinkNest RX0 22 yX4_isApart RX4) U ∧ va_Nw (.methodLinkNest RX2 3 yX1_init RX4) U ∧ va_Nw (.methodLinkNest RX3 3 yX1_init RX4) U ∧ va_Nw (.declares gHold) U ∧
  va_Nw (.castable "java/lang/IllegalStateException" "java/lang/IllegalStateException") U ∧ va_Nw (.castable "java/lang/IllegalArgumentException" "java/lang/IllegalArgumentException") U ∧ va_Nw (.castable "java/lang/IndexOutOfBoundsException" "java/lang/IndexOutOfBoundsException") U ∧ va_Nw (.castable "java/util/NoSuchElementException" "java/util/NoSuchElementException") U ∧
  True ∧ True ∧ va_Nc "java/lang/IllegalStateException" "java/lang/IllegalArgumentException" U ∧ True ∧
  va_Nw (.declares (Bundle.initS "java/lang/RuntimeException")) U ∧ va_Nw (.declares (Bundle.initS "java/lang/Exception")) U ∧ va_Nw (.declares (Bundle.initS "java/lang/Throwable")) U
theorem gN.warm {s U : State} (hW : s.WarmedH U.vm) (h : gN s) : gN U := by
  obtain ⟨h1, h2, h3, h4, h5, h0, h6, h7, h8, h9, n1, n2, n3, n4, d1, d2, d3⟩ := h
  exact ⟨h1.warmM hW, h2.warmM hW, h3.warmM hW, h4.warmM hW, h5.warmM hW, h0.warmD hW, h6.warmC hW, h7.warmC hW, h8.warmC hW, h9.warmC hW, n1, n2, n3.moved hW.alike, n4, d1.warmD hW, d2.warmD hW, d3.warmD hW⟩
/-- the texts that are thrown -/
abbrev gTx : List (Nat × String) := [(48, "there are 12 concepts"), (63, "the parent is the concept or hangs under it"), (66, "stock and flow are the same"), (71, "there are 5 rules"), (76, "there are 8 filings"), (84, "the value is out of range"), (86, "the decimals are out of range"), (92, "there are 80 facts"), (155, "a value neither holds nor is derived"), (168, "no such rule"), (186, "no such concept"), (188, "no such period"), (190, "no such member"), (192, "no such filing"), (194, "no fact holds")]
def gT (U : State) : Prop := ∀ q ∈ gTx, ∃ a : Nat, vk_R RX4 q.1 q.2 a U
theorem gT.warm {s U : State} (hW : s.WarmedH U.vm) (h : gT s) : gT U := fun q hq => by
  obtain ⟨a, ha⟩ := h q hq
  exact ⟨a, ha.warm hW⟩
def gG (D : va_G) (cI cZ cO cL : ClassId) (dt : Nat) (A : Nat → Prop) (U : State) (H : Heap) : Prop :=
  va_K D vwCl (gTys cI cZ cO cL) U ∧ gN U ∧ gT U ∧
  vx_Zq Bundle.tN "UNASSIGNED_STACK" Bundle.steD A U H ∧ vx_Zq Bundle.tN "SUPPRESSED_SENTINEL" Bundle.listD A U H ∧
  va_Z RX4 "DOUBTS" "[I" (.ref dt) A U H ∧ va_T .int dt 5 (fun j => .int (nI (10 ^ j))) A U H ∧
  ∀ q : Nat, H.size ≤ q → A q
theorem gG.warm {D : va_G} {cI cZ cO cL : ClassId} {dt : Nat} {A : Nat → Prop} {s U : State} {H : Heap} (hW : s.WarmedH U.vm) (h : gG D cI cZ cO cL dt A s H) : gG D cI cZ cO cL dt A U H := by
  obtain ⟨h1, h2, h3, h4, h5, h6, h7, h8⟩ := h
  exact ⟨h1.moved hW.alike, h2.warm hW, h3.warm hW, h4.moved hW.alike, h5.moved hW.alike, h6.moved hW.alike, h7.moved hW.alike, h8⟩
theorem gG.kept {D : va_G} {cI cZ cO cL : ClassId} {dt : Nat} {A : Nat → Prop} {s : State} {H H1 : Heap} (h : gG D cI cZ cO cL dt A s H) (hz : H.size ≤ H1.size) (hq : ∀ q : Nat, q < H.size → ¬ A q → H1[q]? = H[q]?) : gG D cI cZ cO cL dt A s H1 := by
  obtain ⟨h1, h2, h3, h4, h5, h6, h7, h8⟩ := h
  exact ⟨h1, h2, h3, h4.kept hq, h5.kept hq, h6.kept hq, h7.kept hq, fun q hh => h8 q (Nat.le_trans hz hh)⟩
theorem gG.on {D : va_G} {cI cZ cO cL : ClassId} {dt : Nat} {A : Nat → Prop} {s : State} {H : Heap} {locs : List Loc} (h : gG D cI cZ cO cL dt A s s.heap) (hS : va_S A s.heap H locs) : gG D cI cZ cO cL dt A s H := h.kept hS.1 hS.2.1
/-- a method's start -/
def gP (D : va_G) (cI cZ cO cL : ClassId) (dt : Nat) (A : Nat → Prop) (av : List Value) (G : Heap → Prop) : Array Value → State → Prop := va_Pc av (fun U => gG D cI cZ cO cL dt A U U.heap ∧ G U.heap)
theorem gP.blind {D : va_G} {cI cZ cO cL : ClassId} {dt : Nat} {A : Nat → Prop} {av : List Value} {G : Heap → Prop} : FrameBlind (gP D cI cZ cO cL dt A av G) := fun a U g mk h => ⟨h.1, h.2.1.warm (s := U) (U := U.calling g mk a) (State.WarmedH.refl U), h.2.2⟩
theorem gP.s {D : va_G} {cI cZ cO cL : ClassId} {dt : Nat} {A : Nat → Prop} {av : List Value} {G : Heap → Prop} {s : State} {H : Heap} (hg : gG D cI cZ cO cL dt A s H) (hG : G H) : PreS s H (gP D cI cZ cO cL dt A av G) av :=
  ⟨gP.blind, fun U hU hW => ⟨rfl, by rw [hU]; exact hg.warm hW, by rw [hU]; exact hG⟩⟩
theorem gP.v {D : va_G} {cI cZ cO cL : ClassId} {dt : Nat} {A : Nat → Prop} {b : Nat} {av : List Value} {G : Heap → Prop} {s : State} {H : Heap} {ws : va_W} (hg : gG D cI cZ cO cL dt A s H) (hP : va_P D vwCl ws H) (ci : Nat) {q : vw_C} (hc : vwCl[ci]? = some q) (q0 : Nat) {fs : List Value} (he : ws[q0]? = some (b, .inr (ci, fs))) (hG : G H) : PreV s H q.1 b (gP D cI cZ cO cL dt A (.ref b :: av) G) av :=
  ⟨gP.blind, va_recv hg.1 hP hc he, fun U hU hW => ⟨rfl, by rw [hU]; exact hg.warm hW, by rw [hU]; exact hG⟩⟩
-- calls of methods that leave the heap as it is
section
variable {p : Program} {l : Launch} {e : Env} {R : Room} {s : State} {m : MethodId} {args : Array Value} {below : List Frame} {meth : Method} {c : Code} {H : Heap} {locs : List Loc} {cells slots : Nat} {Q : State → Prop}
variable {pc : Nat} {ls : Array Slot} {rest st0 : List Value} {a : Array Value} {mc ms : Nat} {free : Addr → Prop} {cc : ByteArray} {D : va_G} {cl : List vw_C} {tys : List (ClassId × FieldType)} {ws : va_W} {A : Nat → Prop} {H0 : Heap}
theorem g_csi {post : Int32 → Prop} (hr : va_Run p l e R s m args below meth c H locs cells slots 0 0 (F0 m pc ls st0) rest (vp_Si post a) (fun _ => False))
    (kk : ∀ r : Int32, post r → W p l e R s m args below meth c H locs cells slots Q (F0 m (pc + 3) ls (.int r :: rest))) : W p l e R s m args below meth c H locs cells slots Q (F0 m pc ls st0) := by
  intro T hT X
  obtain ⟨v, st₀, t, T', L, h0, X', hL, e1, -, ⟨r, hv, hp, hh⟩, st⟩ := hr T hT X
  cases hv
  obtain ⟨t2, a1, b1⟩ := kk r hp T' (by rw [e1, hh, h0]) (Stand.forget X' (fun q h => (hL q h).elim))
  exact ⟨t2, st t2 a1, b1⟩
theorem g_csq {post : Option Nat → Prop} (hr : va_Run p l e R s m args below meth c H locs cells slots 0 0 (F0 m pc ls st0) rest (va_Sq post a) (fun _ => False))
    (kk : ∀ r : Option Nat, post r → W p l e R s m args below meth c H locs cells slots Q (F0 m (pc + 3) ls (va_rf r :: rest))) : W p l e R s m args below meth c H locs cells slots Q (F0 m pc ls st0) := by
  intro T hT X
  obtain ⟨v, st₀, t, T', L, h0, X', hL, e1, -, ⟨r, hv, hp, hh⟩, st⟩ := hr T hT X
  cases hv
  obtain ⟨t2, a1, b1⟩ := kk r hp T' (by rw [e1, hh, h0]) (Stand.forget X' (fun q h => (hL q h).elim))
  exact ⟨t2, st t2 a1, b1⟩
/-- an int out of a row, its place a number -/
theorem g_iald (hexec : p.tables.exec = Jvm.exec) (hb : c.code = cc) (hK : va_K D cl tys s) (hP : va_P D cl ws H) (q0 t0 : Nat) {cA : ClassId} {n r : Nat} {f : Nat → Int32} (ha : ws[q0]? = some (r, .inl (cA, n, .inl f))) (ht : tys[t0]? = some (cA, .int)) {i : Int32} (k : Nat) (hi : i = nI k) (hk : k < n) (hn : n < 2 ^ 31) (hdg : decode cc pc = .ok (.iaload, 1))
    (kk : W p l e R s m args below meth c H locs cells slots Q (F0 m (pc + 1) ls (.int (f k) :: rest))) : W p l e R s m args below meth c H locs cells slots Q (F0 m pc ls (.int i :: .ref r :: rest)) := by
  subst hi
  refine va_iald hexec hb hK hP q0 t0 ha ht (vp_in_nI hk hn) hdg ?_
  rw [nI_clamp (Nat.lt_trans hk hn)]
  exact kk
theorem g_zald (hexec : p.tables.exec = Jvm.exec) (hb : c.code = cc) (hK : va_K D cl tys s) (hP : va_P D cl ws H) (q0 t0 : Nat) {cA : ClassId} {n r : Nat} {f : Nat → Int32} (ha : ws[q0]? = some (r, .inl (cA, n, .inl f))) (ht : tys[t0]? = some (cA, .boolean)) {i : Int32} (k : Nat) (hi : i = nI k) (hk : k < n) (hn : n < 2 ^ 31) (hdg : decode cc pc = .ok (.baload, 1))
    (kk : W p l e R s m args below meth c H locs cells slots Q (F0 m (pc + 1) ls (.int (f k) :: rest))) : W p l e R s m args below meth c H locs cells slots Q (F0 m pc ls (.int i :: .ref r :: rest)) := by
  subst hi
  refine va_zald hexec hb hK hP q0 t0 ha ht (vp_in_nI hk hn) hdg ?_
  rw [nI_clamp (Nat.lt_trans hk hn)]
  exact kk
theorem g_aald (hexec : p.tables.exec = Jvm.exec) (hb : c.code = cc) (hK : va_K D cl tys s) (hP : va_P D cl ws H) (q0 t0 : Nat) {cA : ClassId} {C : String} {n r : Nat} {f : Nat → Option Nat} (ha : ws[q0]? = some (r, .inl (cA, n, .inr (.inr (.inr (.inr f)))))) (ht : tys[t0]? = some (cA, .object C)) {i : Int32} (k : Nat) (hi : i = nI k) (hk : k < n) (hn : n < 2 ^ 31) (hdg : decode cc pc = .ok (.aaload, 1))
    (kk : W p l e R s m args below meth c H locs cells slots Q (F0 m (pc + 1) ls (va_rf (f k) :: rest))) : W p l e R s m args below meth c H locs cells slots Q (F0 m pc ls (.int i :: .ref r :: rest)) := by
  subst hi
  refine va_aldq hexec hb hK hP q0 t0 ha ht (vp_in_nI hk hn) hdg ?_
  rw [nI_clamp (Nat.lt_trans hk hn)]
  exact kk
theorem g_iast (hexec : p.tables.exec = Jvm.exec) (hb : c.code = cc) (hK : va_K D cl tys s) (hP : va_P D cl ws H) (hD : va_D A ws) (hS : va_S A H0 H locs) (q0 t0 : Nat) {cA : ClassId} {n r : Nat} {f : Nat → Int32} (ha : ws[q0]? = some (r, .inl (cA, n, .inl f))) (ht : tys[t0]? = some (cA, .int)) {i x : Int32} (k : Nat) (hi : i = nI k) (hk : k < n) (hn : n < 2 ^ 31) (hdg : decode cc pc = .ok (.iastore, 1)) (ws' : va_W) (hw : ws.set q0 (r, .inl (cA, n, .inl (upd f k x))) = ws')
    (kk : ∀ (H : Heap) (locs : List Loc), va_P D cl ws' H → va_D A ws' → va_S A H0 H locs → W p l e R s m args below meth c H locs cells slots Q (F0 m (pc + 1) ls rest)) : W p l e R s m args below meth c H locs cells slots Q (F0 m pc ls (.int x :: .int i :: .ref r :: rest)) := by
  subst hi
  subst hw
  refine va_iast hexec hb hK hP hD hS q0 t0 ha ht (vp_in_nI hk hn) hdg ?_
  rw [nI_clamp (Nat.lt_trans hk hn)]
  exact kk
/-- a known object out of a row; a known null -/
theorem g_aalds (hexec : p.tables.exec = Jvm.exec) (hb : c.code = cc) (hK : va_K D cl tys s) (hP : va_P D cl ws H) (q0 t0 : Nat) {cA : ClassId} {C : String} {n r : Nat} {f : Nat → Option Nat} (ha : ws[q0]? = some (r, .inl (cA, n, .inr (.inr (.inr (.inr f)))))) (ht : tys[t0]? = some (cA, .object C)) {i : Int32} (k v : Nat) (hv : f k = some v) (hi : i = nI k) (hk : k < n) (hn : n < 2 ^ 31) (hdg : decode cc pc = .ok (.aaload, 1))
    (kk : W p l e R s m args below meth c H locs cells slots Q (F0 m (pc + 1) ls (.ref v :: rest))) : W p l e R s m args below meth c H locs cells slots Q (F0 m pc ls (.int i :: .ref r :: rest)) := by
  refine g_aald hexec hb hK hP q0 t0 ha ht k hi hk hn hdg ?_
  rw [hv]
  exact kk
theorem g_aaldn (hexec : p.tables.exec = Jvm.exec) (hb : c.code = cc) (hK : va_K D cl tys s) (hP : va_P D cl ws H) (q0 t0 : Nat) {cA : ClassId} {C : String} {n r : Nat} {f : Nat → Option Nat} (ha : ws[q0]? = some (r, .inl (cA, n, .inr (.inr (.inr (.inr f)))))) (ht : tys[t0]? = some (cA, .object C)) {i : Int32} (k : Nat) (hv : f k = none) (hi : i = nI k) (hk : k < n) (hn : n < 2 ^ 31) (hdg : decode cc pc = .ok (.aaload, 1))
    (kk : W p l e R s m args below meth c H locs cells slots Q (F0 m (pc + 1) ls (.null :: rest))) : W p l e R s m args below meth c H locs cells slots Q (F0 m pc ls (.int i :: .ref r :: rest)) := by
  refine g_aald hexec hb hK hP q0 t0 ha ht k hi hk hn hdg ?_
  rw [hv]
  exact kk
theorem g_astq_n (hexec : p.tables.exec = Jvm.exec) (hb : c.code = cc) {k : Fin 4} {i nL : Nat} {o : Option Nat} {lv lv' : List (Nat × Value)} (hdg : decode cc pc = .ok (.astore_n k, 1)) (hi : (k : Nat) = i) (h : lv_has ls nL lv) (hn : i < nL) (hl : (i, va_rf o) :: lv.filter (fun q => !(q.1 == i) && !(q.1 + 1 == i && q.2.category == 2)) = lv')
    (kk : ∀ ls' : Array Slot, lv_has ls' nL lv' → W p l e R s m args below meth c H locs cells slots Q (F0 m (pc + 1) ls' rest)) : W p l e R s m args below meth c H locs cells slots Q (F0 m pc ls (va_rf o :: rest)) := by
  cases o with
  | none => exact lv_astore_nN hexec hb hdg hi h hn hl kk
  | some x => exact lv_astore_n hexec hb hdg hi h hn hl kk
end
