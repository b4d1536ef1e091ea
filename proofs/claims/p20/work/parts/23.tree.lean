-- WHAT HANGS UNDER WHAT: an order with every concept before its parent
def topo (par : Nat → Int32) : List Nat → Prop
  | [] => True
  | k :: L => (par k = -1 ∨ ∃ j, j ∈ L ∧ par k = nI j) ∧ topo par L
def tree (nC : Nat) (par : Nat → Int32) (L : List Nat) : Prop := topo par L ∧ L.Nodup ∧ (∀ k, k ∈ L ↔ k < nC) ∧ L.length = nC
/-- whether top is met on the way up from x -/
def anc (par : Nat → Int32) (top : Int32) : List Nat → Int32 → Bool
  | [], _ => false
  | k :: L, x => if x = nI k then (if x = top then true else anc par top L (par k)) else anc par top L x
/-- where a walk up may stand -/
def atL (L : List Nat) (x : Int32) : Prop := x = -1 ∨ ∃ j, j ∈ L ∧ x = nI j
theorem anc_m1 {par : Nat → Int32} {top : Int32} : ∀ {L : List Nat}, (∀ k, k ∈ L → k < 2 ^ 31) → anc par top L (-1) = false
  | [], _ => rfl
  | k :: L, h => by
    unfold anc
    rw [if_neg (fun q => nI_nm1 (h k List.mem_cons_self) q.symm)]
    exact anc_m1 (fun j hj => h j (List.mem_cons_of_mem _ hj))
theorem anc_step {par : Nat → Int32} : ∀ {L : List Nat} {j : Nat}, topo par L → L.Nodup → (∀ k, k ∈ L → k < 2 ^ 31) → j ∈ L →
    ∃ L2 : List Nat, L2.length < L.length ∧ topo par L2 ∧ L2.Nodup ∧ (∀ k, k ∈ L2 → k ∈ L) ∧ j ∉ L2 ∧ atL L2 (par j) ∧ ∀ top, anc par top L (nI j) = if nI j = top then true else anc par top L2 (par j)
  | [], j, _, _, _, hj => absurd hj List.not_mem_nil
  | k :: L, j, ht, hn, hb, hj => by
    obtain ⟨h1, h2⟩ := List.nodup_cons.mp hn
    by_cases hjk : j = k
    · subst hjk
      refine ⟨L, Nat.lt_succ_self _, ht.2, h2, fun i hi => List.mem_cons_of_mem _ hi, h1, ht.1, fun top => ?_⟩
      rw [show anc par top (j :: L) (nI j) = (if nI j = nI j then (if nI j = top then true else anc par top L (par j)) else anc par top L (nI j)) from rfl, if_pos rfl]
    · have hjL : j ∈ L := by
        rcases List.mem_cons.mp hj with q | q
        · exact absurd q hjk
        · exact q
      obtain ⟨L2, a1, a2, a3, a4, a5, a6, a7⟩ := anc_step ht.2 h2 (fun i hi => hb i (List.mem_cons_of_mem _ hi)) hjL
      refine ⟨L2, Nat.lt_succ_of_lt a1, a2, a3, fun i hi => List.mem_cons_of_mem _ (a4 i hi), a5, a6, fun top => ?_⟩
      rw [show anc par top (k :: L) (nI j) = (if nI j = nI k then (if nI j = top then true else anc par top L (par k)) else anc par top L (nI j)) from rfl,
        if_neg (fun q => hjk ((nI_eq (hb j hj) (hb k List.mem_cons_self)).mp q))]
      exact a7 top
/-- the way up from a concept of a longer order is that in its tail -/
theorem anc_tail {par : Nat → Int32} {top : Int32} {k : Nat} {L : List Nat} {x : Int32} (hk : k ∉ L) (hb : ∀ i, i ∈ k :: L → i < 2 ^ 31) (hx : atL L x) : anc par top (k :: L) x = anc par top L x := by
  rw [show anc par top (k :: L) x = (if x = nI k then (if x = top then true else anc par top L (par k)) else anc par top L x) from rfl, if_neg]
  intro q
  rcases hx with rfl | ⟨j, hj, rfl⟩
  · exact nI_nm1 (hb k List.mem_cons_self) q.symm
  · have := (nI_eq (hb j (List.mem_cons_of_mem _ hj)) (hb k List.mem_cons_self)).mp q
    subst this
    exact hk hj
/-- a child is under what its parent is under -/
theorem anc_par {par : Nat → Int32} {top : Int32} : ∀ {L : List Nat} {j : Nat}, topo par L → L.Nodup → (∀ k, k ∈ L → k < 2 ^ 31) → j ∈ L → anc par top L (nI j) = if nI j = top then true else anc par top L (par j)
  | [], j, _, _, _, hj => absurd hj List.not_mem_nil
  | k :: L, j, ht, hn, hb, hj => by
    obtain ⟨h1, h2⟩ := List.nodup_cons.mp hn
    by_cases hjk : j = k
    · subst hjk
      rw [anc_tail (x := par j) h1 hb ht.1]
      rw [show anc par top (j :: L) (nI j) = (if nI j = nI j then (if nI j = top then true else anc par top L (par j)) else anc par top L (nI j)) from rfl, if_pos rfl]
    · have hjL : j ∈ L := by
        rcases List.mem_cons.mp hj with q | q
        · exact absurd q hjk
        · exact q
      have hb' : ∀ i, i ∈ L → i < 2 ^ 31 := fun i hi => hb i (List.mem_cons_of_mem _ hi)
      rw [anc_tail h1 hb (Or.inr ⟨j, hjL, rfl⟩), anc_par ht.2 h2 hb' hjL]
      obtain ⟨L2, -, -, -, a4, -, a6, -⟩ := anc_step ht.2 h2 hb' hjL
      have hx : atL L (par j) := by
        rcases a6 with q | ⟨i, hi, q⟩
        · exact Or.inl q
        · exact Or.inr ⟨i, a4 i hi, q⟩
      rw [anc_tail h1 hb hx]
theorem topo_congr {par par' : Nat → Int32} : ∀ {L : List Nat}, (∀ k, k ∈ L → par' k = par k) → topo par L → topo par' L
  | [], _, _ => trivial
  | k :: L, h, ht => ⟨by rw [h k List.mem_cons_self]; exact ht.1, topo_congr (fun j hj => h j (List.mem_cons_of_mem _ hj)) ht.2⟩
theorem topo_unhang {par : Nat → Int32} {c : Nat} : ∀ {L : List Nat}, topo par L → topo (upd par c (-1)) L
  | [], _ => trivial
  | k :: L, ht => ⟨by
      by_cases h : k = c
      · exact Or.inl (by simp [upd, h])
      · rw [show upd par c (-1) k = par k by simp [upd, h]]; exact ht.1, topo_unhang ht.2⟩
theorem topo_at {par : Nat → Int32} : ∀ {L : List Nat} {j : Nat}, topo par L → j ∈ L → atL L (par j)
  | [], j, _, hj => absurd hj List.not_mem_nil
  | k :: L, j, ht, hj => by
    rcases List.mem_cons.mp hj with rfl | hj
    · rcases ht.1 with q | ⟨i, hi, q⟩
      · exact Or.inl q
      · exact Or.inr ⟨i, List.mem_cons_of_mem _ hi, q⟩
    · rcases topo_at ht.2 hj with q | ⟨i, hi, q⟩
      · exact Or.inl q
      · exact Or.inr ⟨i, List.mem_cons_of_mem _ hi, q⟩
/-- a part of an order that every parent of it is in, is an order -/
theorem topo_filter {par : Nat → Int32} (P : Nat → Bool) : ∀ {L : List Nat}, topo par L → (∀ j i, j ∈ L → P j = true → par j = nI i → i ∈ L → P i = true) → topo par (L.filter P)
  | [], _, _ => trivial
  | k :: L, ht, h => by
    have ih := topo_filter P ht.2 (fun j i hj hp hq hi => h j i (List.mem_cons_of_mem _ hj) hp hq (List.mem_cons_of_mem _ hi))
    by_cases hk : P k = true
    · rw [List.filter_cons_of_pos hk]
      refine ⟨?_, ih⟩
      rcases ht.1 with q | ⟨i, hi, q⟩
      · exact Or.inl q
      · exact Or.inr ⟨i, List.mem_filter.mpr ⟨hi, h k i List.mem_cons_self hk q (List.mem_cons_of_mem _ hi)⟩, q⟩
    · rw [List.filter_cons_of_neg hk]
      exact ih
/-- an order, and behind it another: c's parent lies in the second -/
theorem topo_hang {par : Nat → Int32} {c p : Nat} : ∀ {L1 L2 : List Nat}, topo par L1 → topo (upd par c (nI p)) L2 → p ∈ L2 → topo (upd par c (nI p)) (L1 ++ L2)
  | [], _, _, h2, _ => h2
  | k :: L, L2, h1, h2, hp => ⟨by
      by_cases hk : k = c
      · exact Or.inr ⟨p, List.mem_append_right _ hp, by simp [upd, hk]⟩
      · rw [show upd par c (nI p) k = par k by simp [upd, hk]]
        rcases h1.1 with q | ⟨j, hj, q⟩
        · exact Or.inl q
        · exact Or.inr ⟨j, List.mem_append_left _ hj, q⟩, topo_hang h1.2 h2 hp⟩
theorem tree_b {nC : Nat} {par : Nat → Int32} {L : List Nat} (h : tree nC par L) (hC : nC ≤ 12) : ∀ k, k ∈ L → k < 2 ^ 31 := fun k hk => by have := (h.2.2.1 k).mp hk; omega
theorem tree_add {nC : Nat} {par : Nat → Int32} {L : List Nat} (h : tree nC par L) : tree (nC + 1) (upd par nC (-1)) (nC :: L) := by
  obtain ⟨h1, h2, h3, h4⟩ := h
  have hn : nC ∉ L := fun q => Nat.lt_irrefl _ ((h3 nC).mp q)
  refine ⟨⟨Or.inl (by simp [upd]), topo_congr (fun k hk => by simp [upd]; intro q; subst q; exact absurd hk hn) h1⟩, List.nodup_cons.mpr ⟨hn, h2⟩, fun k => ?_, by rw [List.length_cons, h4]⟩
  rw [List.mem_cons, h3]
  omega
theorem tree_unhang {nC c : Nat} {par : Nat → Int32} {L : List Nat} (h : tree nC par L) : tree nC (upd par c (-1)) L := ⟨topo_unhang h.1, h.2⟩
theorem tree_hang {nC c p : Nat} {par : Nat → Int32} {L : List Nat} (h : tree nC par L) (hC : nC ≤ 12) (hc : c < nC) (hp : p < nC) (hno : anc par (nI c) L (nI p) = false) :
    tree nC (upd par c (nI p)) (L.filter (fun k => anc par (nI c) L (nI k)) ++ L.filter (fun k => !anc par (nI c) L (nI k))) := by
  have hb := tree_b h hC
  obtain ⟨h1, h2, h3, h4⟩ := h
  have hcn : anc par (nI c) L (nI c) = true := by rw [anc_par h1 h2 hb ((h3 c).mpr hc), if_pos rfl]
  have t2 : topo par (L.filter (fun k => !anc par (nI c) L (nI k))) := by
    refine topo_filter _ h1 (fun j i hj hpj hq hi => ?_)
    simp only [Bool.not_eq_true'] at hpj ⊢
    rw [anc_par h1 h2 hb hj] at hpj
    by_cases hjc : nI j = nI c
    · rw [if_pos hjc] at hpj; cases hpj
    · rw [if_neg hjc, hq] at hpj; exact hpj
  have t2' : topo (upd par c (nI p)) (L.filter (fun k => !anc par (nI c) L (nI k))) := by
    refine topo_congr (fun k hk => ?_) t2
    have hk2 := (List.mem_filter.mp hk).2
    have : k ≠ c := fun q => by subst q; rw [hcn] at hk2; cases hk2
    simp [upd, this]
  have hp2 : p ∈ L.filter (fun k => !anc par (nI c) L (nI k)) := List.mem_filter.mpr ⟨(h3 p).mpr hp, by rw [hno]; rfl⟩
  have q1 : topo (fun k => if k = c then -1 else par k) (L.filter (fun k => anc par (nI c) L (nI k))) := by
    refine topo_filter _ (topo_congr (par := upd par c (-1)) (fun k _ => by simp [upd]) (topo_unhang h1)) (fun j i hj hpj hq hi => ?_)
    by_cases hjc : j = c
    · rw [if_pos hjc] at hq
      exact absurd hq.symm (nI_nm1 (hb i hi))
    · rw [if_neg hjc] at hq
      rw [anc_par h1 h2 hb hj, if_neg (fun q => hjc ((nI_eq (hb j hj) (by omega)).mp q)), hq] at hpj
      exact hpj
  have q2 : topo (upd (fun k => if k = c then -1 else par k) c (nI p)) (L.filter (fun k => !anc par (nI c) L (nI k))) := topo_congr (fun k _ => by by_cases hk : k = c <;> simp [upd, hk]) t2'
  have t1 : topo (upd par c (nI p)) (L.filter (fun k => anc par (nI c) L (nI k)) ++ L.filter (fun k => !anc par (nI c) L (nI k))) :=
    topo_congr (par := upd (fun k => if k = c then -1 else par k) c (nI p)) (fun k _ => by by_cases hk : k = c <;> simp [upd, hk]) (topo_hang q1 q2 hp2)
  have pm : (L.filter (fun k => anc par (nI c) L (nI k)) ++ L.filter (fun k => !anc par (nI c) L (nI k))).Perm L := List.filter_append_perm _ _
  exact ⟨t1, pm.nodup_iff.mpr h2, fun k => by rw [pm.mem_iff, h3], by rw [pm.length_eq, h4]⟩
