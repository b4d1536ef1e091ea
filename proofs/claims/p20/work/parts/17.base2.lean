-- METHODS THAT THROW and change nothing: what leaves them, how they are called, how they throw
def xU (P : String → Prop) : String → State → State → Prop := fun E st t => P E ∧ st.heap.size ≤ t.heap.size ∧ ∀ q : Nat, q < st.heap.size → t.heap[q]? = st.heap[q]?
section
variable {p : Program} {l : Launch} {e : Env} {R : Room} {s : State} {m : MethodId} {args : Array Value} {below : List Frame} {meth : Method} {c : Code} {H : Heap} {locs : List Loc} {cells slots : Nat} {Q : State → Prop}
variable {pc : Nat} {ls : Array Slot} {rest st0 : List Value} {a : Array Value} {mc ms : Nat} {free : Addr → Prop} {cc : ByteArray} {D : va_G} {cl : List vw_C} {tys : List (ClassId × FieldType)} {ws : va_W} {A : Nat → Prop} {H0 : Heap} {P : String → Prop}
theorem g_cxi {post : Int32 → Prop} (hr : vx_Run p l e R s m args below meth c H locs cells slots mc ms (F0 m pc ls st0) rest (vp_Si post a) (xU P) (fun _ => False))
    (kx : ∀ (E : String) (ce : Cell) (q9 : Addr) (H1 : Heap), P E → H.size ≤ H1.size → (∀ q : Nat, q < H.size → H1[q]? = H[q]?) → H1[q9]? = some ce → ce.vm = .none → s.vm.findClass E = some ce.cls → vx_W p l e R s m args below meth c H1 locs (cells + mc) (slots + ms) Q (F0 m pc ls rest) q9)
    (kk : ∀ r : Int32, post r → W p l e R s m args below meth c H locs (cells + mc) (slots + ms) Q (F0 m (pc + 3) ls (.int r :: rest))) : W p l e R s m args below meth c H locs cells slots Q (F0 m pc ls st0) := by
  intro T hT X
  rcases hr T hT X with ⟨v, st₀, t, T', L, h0, X', hL, e1, e2, ⟨r, hv, hp, hh⟩, st⟩ | ⟨q, st₀, t, T', L, E, ce, h0, X', hL, e1, e2, ⟨hp, hz, hk⟩, hce, hcv, hcl, st⟩
  · cases hv
    obtain ⟨t2, a1, b1⟩ := kk r hp T' (by rw [e1, hh, h0]) (Stand.forget X' (fun q h => (hL q h).elim))
    exact ⟨t2, st t2 a1, b1⟩
  · rw [h0] at hz hk
    obtain ⟨t2, a1, b1⟩ := kx E ce q T'.heap hp (by rw [e1]; exact hz) (fun q hq => by rw [e1]; exact hk q hq) (by rw [e1]; exact hce) hcv hcl T' rfl (Stand.forget X' (fun q h => (hL q h).elim))
    exact ⟨t2, st.trans a1, b1⟩
theorem g_cxv {post : Unit → Prop} (hr : vx_Run p l e R s m args below meth c H locs cells slots mc ms (F0 m pc ls st0) rest (va_Sv post a) (xU P) (fun _ => False))
    (kx : ∀ (E : String) (ce : Cell) (q9 : Addr) (H1 : Heap), P E → H.size ≤ H1.size → (∀ q : Nat, q < H.size → H1[q]? = H[q]?) → H1[q9]? = some ce → ce.vm = .none → s.vm.findClass E = some ce.cls → vx_W p l e R s m args below meth c H1 locs (cells + mc) (slots + ms) Q (F0 m pc ls rest) q9)
    (kk : post () → W p l e R s m args below meth c H locs (cells + mc) (slots + ms) Q (F0 m (pc + 3) ls rest)) : W p l e R s m args below meth c H locs cells slots Q (F0 m pc ls st0) := by
  intro T hT X
  rcases hr T hT X with ⟨v, st₀, t, T', L, h0, X', hL, e1, e2, ⟨hv, hp, hh⟩, st⟩ | ⟨q, st₀, t, T', L, E, ce, h0, X', hL, e1, e2, ⟨hp, hz, hk⟩, hce, hcv, hcl, st⟩
  · cases hv
    obtain ⟨t2, a1, b1⟩ := kk hp T' (by rw [e1, hh, h0]) (Stand.forget X' (fun q h => (hL q h).elim))
    exact ⟨t2, st t2 a1, b1⟩
  · rw [h0] at hz hk
    obtain ⟨t2, a1, b1⟩ := kx E ce q T'.heap hp (by rw [e1]; exact hz) (fun q hq => by rw [e1]; exact hk q hq) (by rw [e1]; exact hce) hcv hcl T' rfl (Stand.forget X' (fun q h => (hL q h).elim))
    exact ⟨t2, st.trans a1, b1⟩
theorem g_cxq {post : Option Nat → Prop} (hr : vx_Run p l e R s m args below meth c H locs cells slots mc ms (F0 m pc ls st0) rest (va_Sq post a) (xU P) (fun _ => False))
    (kx : ∀ (E : String) (ce : Cell) (q9 : Addr) (H1 : Heap), P E → H.size ≤ H1.size → (∀ q : Nat, q < H.size → H1[q]? = H[q]?) → H1[q9]? = some ce → ce.vm = .none → s.vm.findClass E = some ce.cls → vx_W p l e R s m args below meth c H1 locs (cells + mc) (slots + ms) Q (F0 m pc ls rest) q9)
    (kk : ∀ r : Option Nat, post r → W p l e R s m args below meth c H locs (cells + mc) (slots + ms) Q (F0 m (pc + 3) ls (va_rf r :: rest))) : W p l e R s m args below meth c H locs cells slots Q (F0 m pc ls st0) := by
  intro T hT X
  rcases hr T hT X with ⟨v, st₀, t, T', L, h0, X', hL, e1, e2, ⟨r, hv, hp, hh⟩, st⟩ | ⟨q, st₀, t, T', L, E, ce, h0, X', hL, e1, e2, ⟨hp, hz, hk⟩, hce, hcv, hcl, st⟩
  · cases hv
    obtain ⟨t2, a1, b1⟩ := kk r hp T' (by rw [e1, hh, h0]) (Stand.forget X' (fun q h => (hL q h).elim))
    exact ⟨t2, st t2 a1, b1⟩
  · rw [h0] at hz hk
    obtain ⟨t2, a1, b1⟩ := kx E ce q T'.heap hp (by rw [e1]; exact hz) (fun q hq => by rw [e1]; exact hk q hq) (by rw [e1]; exact hce) hcv hcl T' rfl (Stand.forget X' (fun q h => (hL q h).elim))
    exact ⟨t2, st.trans a1, b1⟩
/-- what was thrown below goes on: nothing that was there has changed -/
theorem g_outU {Qc : Array Value → State → Outcome → State → Prop} {P1 : String → Prop} {E : String} {ce : Cell} {q : Addr} {H1 : Heap} (hout : ∀ x ∈ c.exceptionTable.toList, False) (hlocks : meth.locks = false) (hP : P1 E) (hz : s.heap.size ≤ H1.size) (hk : ∀ q : Nat, q < s.heap.size → H1[q]? = s.heap[q]?) (hcell : H1[q]? = some ce) (hv : ce.vm = .none) (hcl : s.vm.findClass E = some ce.cls) (hf : ∀ z ∈ locs, free z.base) (hc : cells ≤ mc) (hs : slots ≤ ms) :
    vx_W p l e R s m args below meth c H1 locs cells slots (vx_MQ below Qc (xU P1) args s mc ms free) (F0 m pc ls rest) q :=
  vx_out (fun x hx => (hout x hx).elim) hlocks hcell hv hcl (fun t ht _ => ⟨hP, by rw [ht]; exact hz, fun q hq => by rw [ht]; exact hk q hq⟩) hf hc hs
end
abbrev gUp : List String := ["java/lang/RuntimeException", "java/lang/Exception"]
abbrev gEB (cls : String) : List Cond := [.declares (Bundle.initS "java/lang/RuntimeException"), .declares (Bundle.initS "java/lang/Exception"), .declares (Bundle.initS "java/lang/Throwable"), .castable cls cls]
abbrev gE : List (String × Nat × Nat) := [("java/lang/IllegalStateException", 46, 50), ("java/lang/IllegalArgumentException", 61, 65), ("java/lang/IndexOutOfBoundsException", 166, 170)]
theorem gE_at0 : ∀ w ∈ (vx_atS RX4 50 "java/lang/IllegalStateException" gUp).filter (fun w => !goodWord w), w ∈ gEB "java/lang/IllegalStateException" := by decide +kernel
theorem gE_at1 : ∀ w ∈ (vx_atS RX4 65 "java/lang/IllegalArgumentException" gUp).filter (fun w => !goodWord w), w ∈ gEB "java/lang/IllegalArgumentException" := by decide +kernel
theorem gE_at2 : ∀ w ∈ (vx_atS RX4 170 "java/lang/IndexOutOfBoundsException" gUp).filter (fun w => !goodWord w), w ∈ gEB "java/lang/IndexOutOfBoundsException" := by decide +kernel
theorem gE_ot0 : ∀ w ∈ Cond.classLink RX4 46 "java/lang/IllegalStateException" :: Cond.initialized "java/lang/IllegalStateException" :: vx_atS RX4 50 "java/lang/IllegalStateException" gUp, vx_ot w = true := by decide +kernel
theorem gE_ot1 : ∀ w ∈ Cond.classLink RX4 61 "java/lang/IllegalArgumentException" :: Cond.initialized "java/lang/IllegalArgumentException" :: vx_atS RX4 65 "java/lang/IllegalArgumentException" gUp, vx_ot w = true := by decide +kernel
theorem gE_ot2 : ∀ w ∈ Cond.classLink RX4 166 "java/lang/IndexOutOfBoundsException" :: Cond.initialized "java/lang/IndexOutOfBoundsException" :: vx_atS RX4 170 "java/lang/IndexOutOfBoundsException" gUp, vx_ot w = true := by decide +kernel
theorem gCast {C T : String} {s : State} {args : Array Value} (h : va_Nw (.castable C T) s) : (Cond.castable C T).before args s = true := h
theorem gEB_ok {cls : String} {s : State} {args : Array Value} (hn : gN s) (h : va_Nw (.castable cls cls) s) : ∀ w ∈ gEB cls, w.before args s = true := by
  obtain ⟨-, -, -, -, -, -, -, -, -, -, -, -, -, -, d1, d2, d3⟩ := hn
  exact vx_c (va_Nw.use rfl d1) (vx_c (va_Nw.use rfl d2) (vx_c (va_Nw.use rfl d3) (vx_c (va_Nw.use rfl h) vx_n)))
/-- 'throw new E("text")' where nothing has changed yet -/
theorem g_throw {p : Program} {l : Launch} {e : Env} {R : Room} {s : State} {m : MethodId} {args : Array Value} {below : List Frame} {meth : Method} {c : Code} {cells slots : Nat} {pc : Nat} {ls : Array Slot} {rest : List Value} {mc ms : Nat} {free : Addr → Prop} {cc : ByteArray} {A : Nat → Prop} {P1 : String → Prop} {Qc : Array Value → State → Outcome → State → Prop}
    {D : va_G} {cI cZ cO cL : ClassId} {dt : Nat} {cls text : String} {ik is ic : Nat} (hexec : p.tables.exec = Jvm.exec) (hb : c.code = cc) (hl : l.stackTraces = false) (hown : s.vm.findClass RX4 = some m.cls) (hcls : Bundle.fit cls = true)
    (hk : (Cond.classLink RX4 ik cls).before args s = true) (hini : (Cond.initialized cls).before args s = true) (hq : (is, text) ∈ gTx) (hg : gG D cI cZ cO cL dt A s s.heap)
    (h1 : ∀ w ∈ (vx_atS RX4 ic cls gUp).filter goodWord, w.before args s = true) (h2 : ∀ w ∈ (vx_atS RX4 ic cls gUp).filter (fun w => !goodWord w), w ∈ gEB cls) (h3 : va_Nw (.castable cls cls) s)
    (hgood : ∀ w ∈ Cond.classLink RX4 ik cls :: Cond.initialized cls :: vx_atS RX4 ic cls gUp, vx_ot w = true) (hsize : ls.size = c.maxLocals)
    (d0 : decode cc pc = .ok (.new ik, 3)) (d3 : decode cc (pc + 3) = .ok (.dup, 1)) (d4 : decode cc (pc + 4) = .ok (.ldc is, 2)) (d6 : decode cc (pc + 6) = .ok (.invokespecial ic, 3)) (d9 : decode cc (pc + 9) = .ok (.athrow, 1))
    (hout : ∀ x ∈ c.exceptionTable.toList, False) (hRframes : 5 < R.frames) (hRlocals : (rest.map fun v => v.category).sum + 82 ≤ R.locals) (hRcells : cells + 1 ≤ R.cells) (hRslots : slots + 6 ≤ R.slots) (hlocks : meth.locks = false) (hP : P1 cls) (hc : cells + 1 ≤ mc) (hs : slots + 6 ≤ ms) :
    W p l e R s m args below meth c s.heap [] cells slots (vx_MQ below Qc (xU P1) args s mc ms free) (F0 m pc ls rest) := by
  obtain ⟨sa, hsa⟩ := hg.2.2.1 _ hq
  exact vx_throwS hexec hb hl hown hcls (by decide +kernel : ∀ n ∈ gUp, Bundle.fit n = true) hk hini hsa (vx_hat h1 h2 (gEB_ok hg.2.1 h3)) hgood hg.2.2.2.1 hg.2.2.2.2.1 va_S.rf hsize d0 d3 d4 d6 d9 (fun x hx => (hout x hx).elim) hRframes hRlocals hRcells hRslots hlocks (fun t _ hz hk => ⟨hP, hz, hk⟩) (fun _ h => nomatch h) hc hs
