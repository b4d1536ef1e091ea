-- THE FACTS GROW: cells in another order, a fact more, a chain with one more
theorem va_P_perm {D : va_G} {cl : List vw_C} {ws ws' : va_W} {H : Heap} (h : va_P D cl ws H) (hp : ws'.Perm ws) : va_P D cl ws' H := fun k q hk => by
  obtain ⟨j, hj⟩ := List.mem_iff_getElem?.mp (hp.mem_iff.mp (List.mem_of_getElem? hk))
  exact h j q hj
theorem nd_iff (l : List Nat) : l.Nodup ↔ ∀ i j a : Nat, i < j → l[i]? = some a → l[j]? = some a → False := by
  unfold List.Nodup
  rw [List.pairwise_iff_getElem]
  constructor
  · intro h i j a hij h1 h2
    obtain ⟨b1, e1⟩ := List.getElem?_eq_some_iff.mp h1
    obtain ⟨b2, e2⟩ := List.getElem?_eq_some_iff.mp h2
    exact h i j b1 b2 hij (e1.trans e2.symm)
  · intro h i j b1 b2 hij he
    exact h i j _ hij (List.getElem?_eq_some_iff.mpr ⟨b1, rfl⟩) (List.getElem?_eq_some_iff.mpr ⟨b2, he.symm⟩)
theorem va_D_iff {A : Nat → Prop} {ws : va_W} : va_D A ws ↔ (ws.map Prod.fst).Nodup ∧ ∀ q ∈ ws, A q.1 := by
  rw [nd_iff]
  constructor
  · rintro ⟨h1, h2⟩
    refine ⟨fun i j a hij e1 e2 => ?_, fun q hq => by obtain ⟨j, hj⟩ := List.mem_iff_getElem?.mp hq; exact h2 j q hj⟩
    rw [List.getElem?_map] at e1 e2
    obtain ⟨p, hp, rfl⟩ := Option.map_eq_some_iff.mp e1
    obtain ⟨q, hq, he⟩ := Option.map_eq_some_iff.mp e2
    have := h1 i j p q hp hq he.symm
    omega
  · rintro ⟨h1, h2⟩
    refine ⟨fun i j p q hi hj he => ?_, fun k q hk => h2 q (List.mem_of_getElem? hk)⟩
    have a1 : (ws.map Prod.fst)[i]? = some p.1 := by rw [List.getElem?_map, hi]; rfl
    have a2 : (ws.map Prod.fst)[j]? = some p.1 := by rw [List.getElem?_map, hj, he]; rfl
    rcases Nat.lt_trichotomy i j with q1 | q1 | q1
    · exact (h1 i j _ q1 a1 a2).elim
    · exact q1
    · exact (h1 j i _ q1 a2 a1).elim
theorem va_D_perm {A : Nat → Prop} {ws ws' : va_W} (h : va_D A ws) (hp : ws'.Perm ws) : va_D A ws' := by
  rw [va_D_iff] at h ⊢
  exact ⟨(hp.map _).nodup_iff.mpr h.1, fun q hq => h.2 q (hp.mem_iff.mp hq)⟩
theorem rf_nr (C : String) (o : Option Nat) : narrow (.object C) (va_rf o) = va_rf o := by cases o <;> rfl
theorem rf_fit (C : String) (o : Option Nat) : fits (.object C) (va_rf o) = true := by cases o <;> rfl
theorem lst_up {FA : Nat → Nat} {nF : Nat} (h : nF < 2 ^ 31) : va_up (fun k => if k < nF then some (FA k) else none) (nI nF).toNatClampNeg (some (FA nF)) = fun k => if k < nF + 1 then some (FA k) else none := by
  rw [nI_clamp h]
  funext k
  unfold va_up
  by_cases h1 : k = nF
  · subst h1; simp
  · rw [if_neg h1]
    show (if k < nF then some (FA k) else none) = if k < nF + 1 then some (FA k) else none
    by_cases h2 : k < nF
    · rw [if_pos h2, if_pos (by omega)]
    · rw [if_neg h2, if_neg (by omega)]
theorem hd_up {FA : Nat → Nat} {hd : Nat → Option Nat} {K k : Nat} (h : K < 2 ^ 31) : va_up (fun K => (hd K).map FA) (nI K).toNatClampNeg (some (FA k)) = fun K' => (va_up hd K (some k) K').map FA := by
  rw [nI_clamp h]
  funext j
  unfold va_up
  by_cases h1 : j = K
  · rw [if_pos h1, if_pos h1]; rfl
  · rw [if_neg h1, if_neg h1]
theorem WF_len {FA : Nat → Nat} {ck cf cd : Nat → Nat} {cv : Nat → Int32} {nx : Nat → Option Nat} {nF : Nat} : (WF FA ck cf cd cv nx nF).length = nF := by simp [WF]
theorem WF_put {FA : Nat → Nat} {ck cf cd : Nat → Nat} {cv : Nat → Int32} {nx : Nat → Option Nat} {nF k : Nat} (hk : k < nF) (o : Option Nat) :
    (WF FA ck cf cd cv nx nF).set k (FA k, .inr (0, [.int (nI (ck k)), .int (nI (cf k)), .int (cv k), .int (nI (10 ^ cd k)), va_rf (o.map FA)])) = WF FA ck cf cd cv (va_up nx k o) nF := by
  apply List.ext_getElem?
  intro j
  by_cases hj : j = k
  · subst hj
    rw [List.getElem?_set_self (by rw [WF_len]; exact hk), WF_at hk]
    simp [fcell, va_up]
  · rw [List.getElem?_set_ne (fun q => hj q.symm)]
    by_cases h2 : j < nF
    · rw [WF_at h2, WF_at h2]
      simp [fcell, va_up, hj]
    · rw [List.getElem?_eq_none (by rw [WF_len]; omega), List.getElem?_eq_none (by rw [WF_len]; omega)]
theorem WDF_put {cI cO : ClassId} {a FA : Nat → Nat} {nC nR nL nF nG : Nat} {par wt stk flw : Nat → Int32} {hd : Nat → Option Nat} {rea sig : Nat → Int32} {ck cf cd : Nat → Nat} {cv : Nat → Int32} {nx : Nat → Option Nat} {R : va_W} {k : Nat} (h : k < nG) (o : Option Nat) :
    (WD cI cO a FA nC nR nL nF par wt stk flw hd rea sig ++ (WF FA ck cf cd cv nx nG ++ R)).set (11 + k) (FA k, .inr (0, [.int (nI (ck k)), .int (nI (cf k)), .int (cv k), .int (nI (10 ^ cd k)), va_rf (o.map FA)])) =
      WD cI cO a FA nC nR nL nF par wt stk flw hd rea sig ++ (WF FA ck cf cd cv (va_up nx k o) nG ++ R) := by
  have hl : (WD cI cO a FA nC nR nL nF par wt stk flw hd rea sig).length = 11 := by simp [WD]
  rw [List.set_append_right _ _ (by omega), hl, show 11 + k - 11 = k by omega, List.set_append_left _ _ (by rw [WF_len]; exact h), WF_put h]
theorem WDG_at {cI cO : ClassId} {a FA : Nat → Nat} {nC nR nL nF nG : Nat} {par wt stk flw : Nat → Int32} {hd : Nat → Option Nat} {rea sig : Nat → Int32} {ck cf cd : Nat → Nat} {cv : Nat → Int32} {nx : Nat → Option Nat} {R : va_W} {k : Nat} (h : k < nG) :
    (WD cI cO a FA nC nR nL nF par wt stk flw hd rea sig ++ (WF FA ck cf cd cv nx nG ++ R))[11 + k]? = some (fcell FA ck cf cd cv nx k) := by
  rw [List.getElem?_append_right (by simp [WD])]
  have e : 11 + k - (WD cI cO a FA nC nR nL nF par wt stk flw hd rea sig).length = k := by simp [WD]
  rw [e, List.getElem?_append_left (by rw [WF_len]; exact h)]
  exact WF_at h
/-- the cell behind the facts -/
theorem WDR_at {cI cO : ClassId} {a FA : Nat → Nat} {nC nR nL nF : Nat} {par wt stk flw : Nat → Int32} {hd : Nat → Option Nat} {rea sig : Nat → Int32} {ck cf cd : Nat → Nat} {cv : Nat → Int32} {nx : Nat → Option Nat} {R : va_W} {x : Nat × va_E} :
    (WD cI cO a FA nC nR nL nF par wt stk flw hd rea sig ++ (WF FA ck cf cd cv nx nF ++ x :: R))[11 + nF]? = some x := by
  rw [List.getElem?_append_right (by simp [WD])]
  have e : 11 + nF - (WD cI cO a FA nC nR nL nF par wt stk flw hd rea sig).length = nF := by simp [WD]
  rw [e, List.getElem?_append_right (by rw [WF_len]; exact Nat.le_refl _), WF_len, Nat.sub_self]
  rfl
theorem WDR_set {cI cO : ClassId} {a FA : Nat → Nat} {nC nR nL nF : Nat} {par wt stk flw : Nat → Int32} {hd : Nat → Option Nat} {rea sig : Nat → Int32} {ck cf cd : Nat → Nat} {cv : Nat → Int32} {nx : Nat → Option Nat} {R : va_W} {x y : Nat × va_E} :
    (WD cI cO a FA nC nR nL nF par wt stk flw hd rea sig ++ (WF FA ck cf cd cv nx nF ++ x :: R)).set (11 + nF) y = WD cI cO a FA nC nR nL nF par wt stk flw hd rea sig ++ (WF FA ck cf cd cv nx nF ++ y :: R) := by
  have hl : (WD cI cO a FA nC nR nL nF par wt stk flw hd rea sig).length = 11 := by simp [WD]
  rw [List.set_append_right _ _ (by omega), hl, show 11 + nF - 11 = nF by omega, List.set_append_right _ _ (by rw [WF_len]; exact Nat.le_refl _), WF_len, Nat.sub_self]
  rfl
theorem WF_snoc {FA : Nat → Nat} {ck cf cd : Nat → Nat} {cv : Nat → Int32} {nx : Nat → Option Nat} {nF q K f d : Nat} {v : Int32} {R : va_W} (hN : ∀ k j, k < nF → nx k = some j → j < nF) :
    WF FA ck cf cd cv nx nF ++ (q, .inr (0, [.int (nI K), .int (nI f), .int v, .int (nI (10 ^ d)), .null])) :: R = WF (va_up FA nF q) (va_up ck nF K) (va_up cf nF f) (va_up cd nF d) (upd cv nF v) (va_up nx nF none) (nF + 1) ++ R := by
  have e : WF (va_up FA nF q) (va_up ck nF K) (va_up cf nF f) (va_up cd nF d) (upd cv nF v) (va_up nx nF none) (nF + 1) = WF FA ck cf cd cv nx nF ++ [(q, .inr (0, [.int (nI K), .int (nI f), .int v, .int (nI (10 ^ d)), .null]))] := by
    unfold WF
    rw [List.range_succ, List.map_append]
    congr 1
    · apply List.map_congr_left
      intro k hk
      have hk := List.mem_range.mp hk
      have hne : k ≠ nF := by omega
      have hx : (nx k).map (va_up FA nF q) = (nx k).map FA := by
        cases ho : nx k with
        | none => rfl
        | some j =>
          have := hN k j hk ho
          simp [va_up]; intro z; omega
      simp [fcell, va_up, upd, hne] at hx ⊢
      exact congrArg va_rf hx
    · simp [fcell, va_up, upd]; rfl
  rw [e, List.append_assoc]
  rfl
theorem WD_snoc {cI cO : ClassId} {a FA : Nat → Nat} {nC nR nL nF q : Nat} {par wt stk flw : Nat → Int32} {hd : Nat → Option Nat} {rea sig : Nat → Int32} (hH : ∀ K j, hd K = some j → j < nF) :
    WD cI cO a FA nC nR nL nF par wt stk flw hd rea sig = WD cI cO a (va_up FA nF q) nC nR nL nF par wt stk flw hd rea sig := by
  have e1 : (fun k => if k < nF then some (FA k) else none) = (fun k => if k < nF then some (va_up FA nF q k) else none) := by
    funext k
    by_cases h : k < nF
    · rw [if_pos h, if_pos h, show va_up FA nF q k = FA k by unfold va_up; rw [if_neg (by omega)]]
    · rw [if_neg h, if_neg h]
  have e2 : (fun K => (hd K).map FA) = (fun K => (hd K).map (va_up FA nF q)) := by
    funext K
    cases ho : hd K with
    | none => rfl
    | some j =>
      have := hH K j ho
      simp [va_up]; intro z; omega
  unfold WD
  rw [e1, e2]
-- chains
theorem lk_congr {nx nx' : Nat → Option Nat} : ∀ {L : List Nat} {o : Option Nat}, (∀ j, j ∈ L → nx' j = nx j) → lk nx o L → lk nx' o L
  | [], _, _, h => h
  | b :: L, _, he, h => ⟨h.1, by rw [he b List.mem_cons_self]; exact lk_congr (fun j hj => he j (List.mem_cons_of_mem _ hj)) h.2⟩
theorem lk_next {nx : Nat → Option Nat} : ∀ {L : List Nat} {o : Option Nat} {j i : Nat}, lk nx o L → j ∈ L → nx j = some i → i ∈ L
  | [], _, _, _, _, hj, _ => absurd hj List.not_mem_nil
  | b :: L, _, j, i, h, hj, hi => by
    rcases List.mem_cons.mp hj with rfl | hj
    · cases L with
      | nil => have := h.2; rw [hi] at this; cases this
      | cons c L => have := h.2.1; rw [hi] at this; cases this; exact List.mem_cons_of_mem _ List.mem_cons_self
    · exact List.mem_cons_of_mem _ (lk_next h.2 hj hi)
theorem lk_head {nx : Nat → Option Nat} {L : List Nat} {o : Option Nat} {j : Nat} (h : lk nx o L) (hj : o = some j) : j ∈ L := by
  cases L with
  | nil => rw [hj] at h; cases h
  | cons b L => have := h.1; rw [hj] at this; cases this; exact List.mem_cons_self
theorem lk_app {nx : Nat → Option Nat} {b : Nat} {L2 : List Nat} : ∀ {L0 : List Nat} {o : Option Nat}, lk nx o (L0 ++ b :: L2) → lk nx (nx b) L2
  | [], _, h => h.2
  | _ :: _, _, h => lk_app h.2
theorem lk_put {nx nx' : Nat → Option Nat} {b k : Nat} {L2 : List Nat} (hb : nx' b = some k) (hk : lk nx' (nx' k) L2) : ∀ {L0 : List Nat} {o : Option Nat}, (∀ j, j ∈ L0 → nx' j = nx j) → lk nx o (L0 ++ b :: L2) → lk nx' o (L0 ++ b :: k :: L2)
  | [], _, _, h => ⟨h.1, hb, hk⟩
  | c :: L0, _, he, h => ⟨h.1, by rw [he c List.mem_cons_self]; exact lk_put hb hk (fun j hj => he j (List.mem_cons_of_mem _ hj)) h.2⟩
theorem rpl_congr {kf kd kf' kd' : Nat → Nat} {i j : Nat} (h1 : kf' i = kf i ∧ kd' i = kd i) (h2 : kf' j = kf j ∧ kd' j = kd j) : rpl kf' kd' i j = rpl kf kd i j := by unfold rpl; rw [h1.1, h1.2, h2.1, h2.2]
theorem ins_congr {kf kd kf' kd' : Nat → Nat} {k : Nat} : ∀ {L : List Nat}, (∀ j, (j = k ∨ j ∈ L) → kf' j = kf j ∧ kd' j = kd j) → ins kf' kd' k L = ins kf kd k L
  | [], _ => rfl
  | b :: L, h => by
    rw [ins_c, ins_c, rpl_congr (h k (Or.inl rfl)) (h b (Or.inr List.mem_cons_self))]
theorem chn_congr {ck kf kd ck' kf' kd' : Nat → Nat} {K : Nat} : ∀ {n : Nat}, (∀ j, j < n → ck' j = ck j ∧ kf' j = kf j ∧ kd' j = kd j) → chn ck' kf' kd' K n = chn ck kf kd K n
  | 0, _ => rfl
  | n + 1, h => by
    have ih := chn_congr (K := K) (n := n) (fun j hj => h j (Nat.lt_succ_of_lt hj))
    unfold chn
    rw [ih, (h n (Nat.lt_succ_self n)).1, ins_congr (fun j hj => ?_)]
    rcases hj with rfl | hj
    · exact (h _ (Nat.lt_succ_self _)).2
    · exact (h j (Nat.lt_succ_of_lt (chn_mem hj).1)).2
/-- what a chain is like when one more is told -/
def lkIns (cf cd : Nat → Nat) (K k : Nat) (L : List Nat) (hd nx : Nat → Option Nat) (u : (Nat → Option Nat) × (Nat → Option Nat)) : Prop :=
  lk u.2 (u.1 K) (ins cf cd k L) ∧ (∀ K', K' ≠ K → u.1 K' = hd K') ∧ ∀ j, j ∉ ins cf cd k L → u.2 j = nx j
/-- first of all -/
theorem lkIns_0 {cf cd : Nat → Nat} {K k : Nat} {L : List Nat} {hd nx : Nat → Option Nat} {o : Option Nat} (hi : ins cf cd k L = k :: L) (hL : lk nx o L) (hk : k ∉ L) : lkIns cf cd K k L hd nx (va_up hd K (some k), va_up nx k o) := by
  refine ⟨?_, fun K' h => by simp [va_up, h], fun j hj => by rw [hi] at hj; simp [va_up]; intro z; exact absurd (by rw [z]; exact List.mem_cons_self) hj⟩
  rw [hi]
  refine ⟨by simp [va_up], ?_⟩
  rw [show (va_up hd K (some k), va_up nx k o).2 k = o by simp [va_up]]
  exact lk_congr (fun j hj => by simp [va_up]; intro z; subst z; exact absurd hj hk) hL
/-- one that doesn't hold at once -/
theorem lkIns_same {cf cd : Nat → Nat} {K k : Nat} {L : List Nat} {hd nx : Nat → Option Nat} (hi : ins cf cd k L = L) (hL : lk nx (hd K) L) : lkIns cf cd K k L hd nx (hd, nx) :=
  ⟨by rw [hi]; exact hL, fun _ _ => rfl, fun _ _ => rfl⟩
/-- all chains, with one fact more -/
theorem chOk_new {ck cf cd ck' cf' cd' : Nat → Nat} {hd nx : Nat → Option Nat} {nF : Nat} {u : (Nat → Option Nat) × (Nat → Option Nat)} (h : chOk ck cf cd hd nx nF) (he : ∀ j, j < nF → ck' j = ck j ∧ cf' j = cf j ∧ cd' j = cd j)
    (hm : ∀ j, j < nF → nI (cf' j) ≤ nI (cf' nF)) (hu : lkIns cf' cd' (ck' nF) nF (chn ck' cf' cd' (ck' nF) nF) hd (va_up nx nF none) u) : chOk ck' cf' cd' u.1 u.2 (nF + 1) := by
  obtain ⟨u1, u2, u3⟩ := hu
  refine ⟨fun K hK => ?_, fun i j hij hj => ?_⟩
  · unfold chn
    by_cases q : ck' nF = K
    · rw [if_pos q]; rw [q] at u1; exact u1
    · rw [if_neg q, u2 K (fun z => q z.symm), chn_congr he]
      refine lk_congr (fun j hj => ?_) (h.1 K hK)
      have hj' := chn_mem hj
      have hne : j ≠ nF := by omega
      rw [u3 j ?_]
      · simp [va_up, hne]
      · intro z
        rcases ins_mem z with z | z
        · exact hne z
        · have := (chn_mem z).2
          rw [(he j hj'.1).1, hj'.2] at this
          exact q this.symm
  · by_cases q : j = nF
    · rw [q]; exact hm i (by omega)
    · have := h.2 i j hij (by omega)
      rw [(he i (by omega)).2.1, (he j (by omega)).2.1]; exact this
theorem hH_new {ck' cf' cd' : Nat → Nat} {hd nx : Nat → Option Nat} {nF : Nat} {u : (Nat → Option Nat) × (Nat → Option Nat)} (hH : ∀ K j, hd K = some j → j < nF) (hu : lkIns cf' cd' (ck' nF) nF (chn ck' cf' cd' (ck' nF) nF) hd nx u) : ∀ K j, u.1 K = some j → j < nF + 1 := fun K j hj => by
  obtain ⟨u1, u2, u3⟩ := hu
  by_cases q : K = ck' nF
  · rw [q] at hj
    rcases ins_mem (lk_head u1 hj) with z | z
    · omega
    · have := (chn_mem z).1; omega
  · rw [u2 K q] at hj
    have := hH K j hj; omega
theorem hN_new {ck' cf' cd' : Nat → Nat} {hd nx : Nat → Option Nat} {nF : Nat} {u : (Nat → Option Nat) × (Nat → Option Nat)} (hN : ∀ k j, k < nF → nx k = some j → j < nF) (hu : lkIns cf' cd' (ck' nF) nF (chn ck' cf' cd' (ck' nF) nF) hd (va_up nx nF none) u) : ∀ k j, k < nF + 1 → u.2 k = some j → j < nF + 1 := fun k j hk hj => by
  obtain ⟨u1, u2, u3⟩ := hu
  by_cases q : k ∈ ins cf' cd' nF (chn ck' cf' cd' (ck' nF) nF)
  · rcases ins_mem (lk_next u1 q hj) with z | z
    · omega
    · have := (chn_mem z).1; omega
  · rw [u3 k q] at hj
    by_cases hne : k = nF
    · rw [show va_up nx nF none k = none by simp [va_up, hne]] at hj; cases hj
    · rw [show va_up nx nF none k = nx k by simp [va_up, hne]] at hj
      have := hN k j (by omega) hj; omega
