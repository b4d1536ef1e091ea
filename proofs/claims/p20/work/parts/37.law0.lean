-- THE LAW'S WORDS: its three rows behind the class's cells; calls that are sure to return
abbrev LR (cI : ClassId) (pb rb cb : Nat) (pv rv kv : Nat → Int32) : va_W := [(pb, .inl (cI, 12, .inl pv)), (rb, .inl (cI, 10, .inl rv)), (cb, .inl (cI, 4, .inl kv))]
section
variable {cI cO : ClassId} {a FA : Nat → Nat} {nC nR nL nF : Nat} {par wt stk flw : Nat → Int32} {hd : Nat → Option Nat} {rea sig : Nat → Int32} {ck cf cd : Nat → Nat} {cv : Nat → Int32} {nx : Nat → Option Nat} {R R' : va_W} {x : Nat × va_E}
theorem WDRj (j : Nat) (h : R[j]? = some x) : (WD cI cO a FA nC nR nL nF par wt stk flw hd rea sig ++ (WF FA ck cf cd cv nx nF ++ R))[11 + nF + j]? = some x := by
  rw [List.getElem?_append_right (by simp [WD]; omega)]
  have e : 11 + nF + j - (WD cI cO a FA nC nR nL nF par wt stk flw hd rea sig).length = nF + j := by simp [WD]; omega
  rw [e, List.getElem?_append_right (by rw [WF_len]; omega), WF_len, show nF + j - nF = j by omega]
  exact h
theorem WDRs (j : Nat) (h : R.set j x = R') : (WD cI cO a FA nC nR nL nF par wt stk flw hd rea sig ++ (WF FA ck cf cd cv nx nF ++ R)).set (11 + nF + j) x = WD cI cO a FA nC nR nL nF par wt stk flw hd rea sig ++ (WF FA ck cf cd cv nx nF ++ R') := by
  have hl : (WD cI cO a FA nC nR nL nF par wt stk flw hd rea sig).length = 11 := by simp [WD]
  rw [List.set_append_right _ _ (by omega), hl, show 11 + nF + j - 11 = nF + j by omega, List.set_append_right _ _ (by rw [WF_len]; omega), WF_len, show nF + j - nF = j by omega, h]
end
/-- a contract whose throws can't be -/
theorem vx_sure {l : Launch} {y : MethodName} {ws : List Cond} {rm : Room} {Pc : Array Value → State → Prop} {Qc Qc' : Array Value → State → Outcome → State → Prop} {XC : String → State → State → Prop} {mc ms : Nat} {free : Addr → Prop}
    (h : vx_Met l y ws rm Pc Qc XC mc ms free) (hQ : ∀ a s o t, Pc a s → Qc a s o t → Qc' a s o t) (hX : ∀ E s t, XC E s t → False) : Met l y ws rm Pc Qc' mc ms free := by
  intro p e ha hc hk s m args below hfr happ hpre hK
  obtain ⟨n, o, h1, h2, h3, h4⟩ := h p e ha hc hk s m args below hfr happ hpre hK
  refine ⟨n, o, h1, h2, h3, ?_⟩
  rcases h4 with ⟨hq, hF⟩ | ⟨q, ho, E, ce, L, hx, -⟩
  · exact ⟨hQ _ _ _ _ hpre hq, hF⟩
  · exact (hX _ _ _ hx).elim
theorem vx_mono {l : Launch} {y : MethodName} {ws : List Cond} {rm : Room} {Pc Pc' : Array Value → State → Prop} {Qc Qc' : Array Value → State → Outcome → State → Prop} {XC XC' : String → State → State → Prop} {mc ms : Nat} {free free' : Addr → Prop}
    (h : vx_Met l y ws rm Pc Qc XC mc ms free) (hP : ∀ a s, Pc' a s → Pc a s) (hQ : ∀ a s o t, Pc' a s → Qc a s o t → Qc' a s o t) (hX : ∀ a s E t, Pc' a s → XC E s t → XC' E s t) (hf : ∀ q, free q → free' q) : vx_Met l y ws rm Pc' Qc' XC' mc ms free' := by
  intro p e ha hc hk s m args below hfr happ hpre hK
  obtain ⟨n, o, h1, h2, h3, h4⟩ := h p e ha hc hk s m args below hfr happ (hP _ _ hpre) hK
  refine ⟨n, o, h1, h2, h3, ?_⟩
  rcases h4 with ⟨hq, L, hF, hL⟩ | ⟨q, ho, E, ce, L, hx, r1, r2, r3, r4, r5, r6⟩
  · exact Or.inl ⟨hQ _ _ _ _ hpre hq, L, hF, fun q hq => hf _ (hL q hq)⟩
  · exact Or.inr ⟨q, ho, E, ce, L, hX _ _ _ _ hpre hx, r1, r2, r3, r4, r5, fun z hz => hf _ (r6 z hz)⟩
section
variable {l : Launch} {y : MethodName} {wsy : List Cond} {rm : Room} {D : va_G} {cI cZ cO cL : ClassId} {dt : Nat} {A : Nat → Prop} {av : List Value} {W : va_W} {mc ms : Nat} {PE : String → Prop}
theorem vx_pure {post : Int32 → Prop} (h : vx_Met l y wsy rm (gP D cI cZ cO cL dt A av (fun H => va_P D vwCl W H)) (vp_Si post) (xU PE) mc ms (fun _ => False)) :
    vx_Met l y wsy rm (gP D cI cZ cO cL dt A av (fun H => va_P D vwCl W H ∧ va_D A W)) (va_Qi (fun r (_ : Unit) => post r) (fun _ t => va_P D vwCl W t.heap ∧ va_D A W) A) (vx_X (fun _ : Unit => True) (fun E _ t => PE E ∧ va_P D vwCl W t.heap ∧ va_D A W) A) mc ms A := by
  refine vx_mono h (fun a s hp => ⟨hp.1, hp.2.1, hp.2.2.1⟩) (fun a s o t hp hq => ?_) (fun a s E t hp hx => ?_) (fun _ hq => hq.elim)
  · obtain ⟨r, ho, hr, hh⟩ := hq
    exact ⟨⟨r, (), ho, hr, by rw [hh]; exact hp.2.2.1, hp.2.2.2⟩, by rw [hh]; exact Nat.le_refl _, fun q _ _ => by rw [hh]⟩
  · obtain ⟨hE, hz, hk⟩ := hx
    exact ⟨(), trivial, ⟨hE, hp.2.2.1.kept (fun k q hq => hk _ (hp.2.2.1 k q hq).lt), hp.2.2.2⟩, hz, fun q hq _ => hk q hq⟩
theorem vx_mut {S : Type} {post : Int32 → S → Prop} {B : S → State → Prop} (h : vx_Met l y wsy rm (gP D cI cZ cO cL dt A av (fun H => va_P D vwCl W H ∧ va_D A W)) (va_Qi post B A) (xU PE) mc ms A) :
    vx_Met l y wsy rm (gP D cI cZ cO cL dt A av (fun H => va_P D vwCl W H ∧ va_D A W)) (va_Qi post B A) (vx_X (fun _ : Unit => True) (fun E _ t => PE E ∧ va_P D vwCl W t.heap ∧ va_D A W) A) mc ms A := by
  refine vx_mono h (fun _ _ hp => hp) (fun _ _ _ _ _ hq => hq) (fun a s E t hp hx => ?_) (fun _ hq => hq)
  obtain ⟨hE, hz, hk⟩ := hx
  exact ⟨(), trivial, ⟨hE, hp.2.2.1.kept (fun k q hq => hk _ (hp.2.2.1 k q hq).lt), hp.2.2.2⟩, hz, fun q hq _ => hk q hq⟩
theorem vx_same {Pc : Array Value → State → Prop} {Qc : Array Value → State → Outcome → State → Prop} {XC : String → State → State → Prop} {free : Addr → Prop} (h : vx_Met l y wsy rm Pc Qc XC mc ms free) : vx_Met l y wsy rm Pc Qc XC mc ms free := h
theorem vx_sureP {post post' : Int32 → Prop} (h : vx_Met l y wsy rm (gP D cI cZ cO cL dt A av (fun H => va_P D vwCl W H)) (vp_Si post) (xU PE) mc ms (fun _ => False)) (hq : ∀ r, post r → post' r) (hx : ∀ E, PE E → False) :
    Met l y wsy rm (gP D cI cZ cO cL dt A av (fun H => va_P D vwCl W H ∧ va_D A W)) (va_Qi (fun r (_ : Unit) => post' r) (fun _ t => va_P D vwCl W t.heap ∧ va_D A W) A) mc ms A :=
  vx_sure (vx_pure h) (fun a s o t _ z => by obtain ⟨⟨r, u, h1, h2, h3⟩, h4⟩ := z; exact ⟨⟨r, u, h1, hq r h2, h3⟩, h4⟩) (fun E s t z => by obtain ⟨u, -, ⟨h2, -⟩, -⟩ := z; exact hx E h2)
theorem vx_sureM {S : Type} {post post' : Int32 → S → Prop} {B : S → State → Prop} (h : vx_Met l y wsy rm (gP D cI cZ cO cL dt A av (fun H => va_P D vwCl W H ∧ va_D A W)) (va_Qi post B A) (xU PE) mc ms A) (hq : ∀ r u, post r u → post' r u) (hx : ∀ E, PE E → False) :
    Met l y wsy rm (gP D cI cZ cO cL dt A av (fun H => va_P D vwCl W H ∧ va_D A W)) (va_Qi post' B A) mc ms A :=
  vx_sure (vx_mut h) (fun a s o t _ z => by obtain ⟨⟨r, u, h1, h2, h3⟩, h4⟩ := z; exact ⟨⟨r, u, h1, hq r u h2, h3⟩, h4⟩) (fun E s t z => by obtain ⟨u, -, ⟨h2, -⟩, -⟩ := z; exact hx E h2)
end
-- what is asked for is there
theorem kV_one {nC nL c p m f c' p' m' f' : Nat} (hC : nC ≤ 12) (hL : nL < 8) (hc : c < nC) (hp : p < 10) (hm : m < 4) (hf : f < nL + 1) (h : kV nC nL (nI c) (nI p) (nI m) (nI f) c' p' m' f') : c = c' ∧ p = p' ∧ m = m' ∧ f = f' := by
  obtain ⟨⟨e1, h1⟩, ⟨e2, h2⟩, ⟨e3, h3⟩, ⟨e4, h4⟩⟩ := h
  exact ⟨(nI_eq (by omega) (by omega)).mp e1, (nI_eq (by omega) (by omega)).mp e2, (nI_eq (by omega) (by omega)).mp e3, (nI_eq (by omega) (by omega)).mp e4⟩
theorem kNo_not {nC nL c p m f : Nat} (hc : c < nC) (hp : p < 10) (hm : m < 4) (hf : f < nL + 1) : ¬ kNo nC nL (nI c) (nI p) (nI m) (nI f) := fun h => h ⟨⟨⟨c, rfl, hc⟩, ⟨p, rfl, hp⟩, ⟨m, rfl, hm⟩⟩, ⟨f, rfl, hf⟩⟩
theorem cOk_yes {n k : Nat} (h : k < n) : cOk n (nI k) := ⟨k, rfl, h⟩
-- what the law reads of what holds
def hv (v : Nat → Int32) (o : Option Nat) : Int32 := match o with
  | none => -99000000
  | some j => v j
def dvI (o : Option Int32) : Int32 := match o with
  | none => -99000000
  | some x => x
def dbt (cd : Nat → Nat) (j : Nat) : Int32 := nI (10 ^ cd j)
theorem i_ne {x : Int32} (h : -99000000 < x.toInt) : ¬ x = -99000000 := fun e => by rw [e] at h; exact absurd h (by decide)
theorem vOk.ne {x : Int32} (h : vOk x) : ¬ x = -99000000 := i_ne (by have := h.1; omega)
theorem dbt_ne {cd : Nat → Nat} {j : Nat} (h : cd j ≤ 4) : ¬ nI (10 ^ cd j) = -99000000 := i_ne (by rw [nI_toInt (p10_lt31 h)]; exact Int.lt_of_lt_of_le (by decide) (Int.natCast_nonneg _))
theorem wOk_mul {x y : Int32} (hx : wOk x) (hy : wOk y) : wOk (x * y) := by
  rcases hx with rfl | rfl | rfl <;> rcases hy with rfl | rfl | rfl <;> unfold wOk <;> decide
/-- what is derived is no more than what holds, all together -/
theorem osum_b {nC : Nat} {par wt : Nat → Int32} {h : Nat → Option Nat} {v : Nat → Int32} {L : List Nat} {c0 : Nat} (hT : tree nC par L) (hC : nC ≤ 12) (hc0 : c0 < nC) (hw : ∀ k, wOk (wt k)) (hv : ∀ k, vOk (v k)) :
    ∀ (n : Nat) (P N : List (Nat × Int32)) (t r : Int32), reachd nC par L c0 P N → (∀ x, x ∈ N → wOk x.2) → (-((P.length : Int) * 1000000) ≤ t.toInt ∧ t.toInt ≤ (P.length : Int) * 1000000) → nC ≤ P.length + n → osum (dV nC par wt h v) t N = some r → -12000000 ≤ r.toInt ∧ r.toInt ≤ 12000000 := by
  intro n
  induction n with
  | zero =>
    intro P N t r hr hs ht hn ho
    have hl := reachd_len hr
    rw [List.length_append] at hl
    have : N = [] := List.length_eq_zero_iff.mp (by omega)
    subst this
    cases ho
    omega
  | succ n ih =>
    intro P N t r hr hs ht hn ho
    have hl := reachd_len hr
    cases N with
    | nil =>
      cases ho
      rw [List.length_append] at hl
      simp only [List.length_nil] at hl
      omega
    | cons x N =>
      obtain ⟨q, w⟩ := x
      have hq : q < nC := (hr.2.1 (q, w) (List.mem_append_right _ List.mem_cons_self)).1
      have hw1 : wOk w := hs (q, w) List.mem_cons_self
      rw [List.length_append, List.length_cons] at hl
      cases hh : h q with
      | some j =>
        rw [os_val hT hC hq hh] at ho
        refine ih (P ++ [(q, w)]) N _ r (reachd_val hr) (fun x hx => hs x (List.mem_cons_of_mem _ hx)) ?_ (by rw [List.length_append, List.length_singleton]; omega) ho
        have := add_b (a := (P.length : Int) * 1000000) (b := 1000000) ht (wv_b hw1 (hv j)) (by omega)
        rw [List.length_append, List.length_singleton]
        have e : ((P.length + 1 : Nat) : Int) * 1000000 = (P.length : Int) * 1000000 + 1000000 := by omega
        rw [e]
        exact this
      | none =>
        rcases Nat.eq_zero_or_pos (chC par q nC) with z | z
        · rw [os_dead hT hC hq hh z] at ho
          cases ho
        · rw [os_kids hT hC hq hh z] at ho
          refine ih (P ++ [(q, w)]) _ t r (reachd_kids hT hC hr hc0) (fun x hx => ?_) (by rw [List.length_append, List.length_singleton]; omega) (by rw [List.length_append, List.length_singleton]; omega) ho
          rcases List.mem_append.mp hx with y | y
          · exact hs x (List.mem_cons_of_mem _ y)
          · obtain ⟨c, -, rfl⟩ := List.mem_map.mp y
            exact wOk_mul hw1 (hw c)
theorem dV_ne {nC : Nat} {par wt : Nat → Int32} {h : Nat → Option Nat} {v : Nat → Int32} {L : List Nat} {c : Nat} {x : Int32} (hT : tree nC par L) (hC : nC ≤ 12) (hc : c < nC) (hw : ∀ k, wOk (wt k)) (hv : ∀ k, vOk (v k)) (hd : dV nC par wt h v c = some x) : ¬ x = -99000000 := by
  rw [osum_one (g := dV nC par wt h v) (c := c)] at hd
  have := osum_b hT hC hc hw hv nC [] [(c, 1)] 0 x (reachd_one hc) (fun y hy => by rw [List.mem_singleton.mp hy]; exact Or.inl rfl) (by simp) (by simp) hd
  exact i_ne (by omega)
-- WHAT STANDS BEHIND: the class's state, and that the law's rows say the same
def sOk (nC nR nL nF : Nat) (par wt : Nat → Int32) (sk fk : Nat → Nat) (hd : Nat → Option Nat) (ck cf cd : Nat → Nat) (cv : Nat → Int32) (nx : Nat → Option Nat) (L : List Nat) : Prop :=
  (nC ≤ 12 ∧ nR ≤ 5 ∧ nL < 8 ∧ nF ≤ 80) ∧ (tree nC par L ∧ ∀ k, wOk (wt k)) ∧ ((∀ r, sk r < 12) ∧ (∀ r, fk r < 12) ∧ ∀ r, r < nR → sk r < nC ∧ fk r < nC) ∧
  (chOk ck cf cd hd nx nF ∧ (∀ K j, hd K = some j → j < nF) ∧ (∀ k j, k < nF → nx k = some j → j < nF) ∧ ∀ k, k < nF → cf k ≤ nL) ∧
  ((∀ k, ck k < 480) ∧ (∀ k, cf k < 8) ∧ (∀ k, cd k ≤ 4) ∧ (∀ k, vOk (cv k)) ∧ ∀ k, k < nF → ck k < nC * 40)
/-- the law's row of parents: 0, or twice the parent's number and two, and one for the weight 1 -/
def pOk (nC : Nat) (par wt pv : Nat → Int32) : Prop := ∀ k, k < nC → (pv k = 0 ∧ par k = -1) ∨ ∃ j, j < nC ∧ par k = nI j ∧ ((pv k = nI (2 * (j + 1) + 1) ∧ wt k = 1) ∨ (pv k = nI (2 * (j + 1)) ∧ wt k = -1))
def rOk2 (nR : Nat) (sk fk : Nat → Nat) (rv : Nat → Int32) : Prop := ∀ i, i < nR → rv (2 * i) = nI (sk i) ∧ rv (2 * i + 1) = nI (fk i)
def kOk (nC nR nL nF : Nat) (kv : Nat → Int32) : Prop := kv 0 = nI nC ∧ kv 1 = nI nR ∧ kv 2 = nI (nL + 1) ∧ kv 3 = nI nF
theorem pOk_under {nC k : Nat} {par wt pv : Nat → Int32} (h : pOk nC par wt pv) (hC : nC ≤ 12) (hk : k < nC) : pv k / 2 - 1 = par k := by
  rcases h k hk with ⟨e1, e2⟩ | ⟨j, hj, e, ⟨e1, -⟩ | ⟨e1, -⟩⟩
  · rw [e1, e2]; decide
  · rw [e1, e, show (2 : Int32) = nI 2 from rfl, pk_div (by omega) (by decide) (by decide), show (2 * (j + 1) + 1) / 2 = j + 1 by omega]
    exact nI_pred j
  · rw [e1, e, show (2 : Int32) = nI 2 from rfl, pk_div (by omega) (by decide) (by decide), show (2 * (j + 1)) / 2 = j + 1 by omega]
    exact nI_pred j
theorem pOk_weight {nC k c : Nat} {par wt pv : Nat → Int32} (h : pOk nC par wt pv) (hC : nC ≤ 12) (hk : k < nC) (hc : c < 2 ^ 31) (hp : par k = nI c) : (pv k - pv k / 2 * 2 = 1 ∧ wt k = 1) ∨ (¬ pv k - pv k / 2 * 2 = 1 ∧ wt k = -1) := by
  rcases h k hk with ⟨e1, e2⟩ | ⟨j, hj, e, ⟨e1, e3⟩ | ⟨e1, e3⟩⟩
  · rw [e2] at hp
    exact absurd hp.symm (nI_nm1 hc)
  · refine Or.inl ⟨?_, e3⟩
    rw [e1, show (2 : Int32) = nI 2 from rfl, pk_rem (by omega) (by decide) (by decide), show (2 * (j + 1) + 1) % 2 = 1 by omega]
    rfl
  · refine Or.inr ⟨?_, e3⟩
    rw [e1, show (2 : Int32) = nI 2 from rfl, pk_rem (by omega) (by decide) (by decide), show (2 * (j + 1)) % 2 = 0 by omega]
    decide
theorem mask0 (x : Int32) : ¬ (x &&& 2147483647) < 0 := by
  have e : (x &&& 2147483647).toInt = (x.toBitVec &&& (2147483647 : Int32).toBitVec).toInt := rfl
  have n1 : (x.toBitVec &&& (2147483647 : Int32).toBitVec).toNat = x.toBitVec.toNat % 2 ^ 31 := by
    rw [BitVec.toNat_and, show (2147483647 : Int32).toBitVec.toNat = 2 ^ 31 - 1 by decide, Nat.and_two_pow_sub_one_eq_mod]
  have hlt : x.toBitVec.toNat % 2 ^ 31 < 2 ^ 31 := Nat.mod_lt _ (by decide)
  rw [Int32.lt_iff_toInt_lt, e, BitVec.toInt_eq_toNat_cond, n1, if_pos (by omega), Int32.toInt_zero]
  omega
/-- a number drawn -/
theorem drw {x : Int32} {n : Nat} (h0 : 0 < n) (hn : n < 2 ^ 31) : ∃ v : Nat, v < n ∧ (x &&& 2147483647) - (x &&& 2147483647) / nI n * nI n = nI v := by
  have h2 := mask0 x
  obtain ⟨j, hj, e⟩ := nI_of h2
  exact ⟨j % n, Nat.mod_lt _ h0, by rw [e]; exact pk_rem hj h0 hn⟩
