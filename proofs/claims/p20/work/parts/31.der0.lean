-- WHAT IS DERIVED
def chC (par : Nat → Int32) (k : Nat) : Nat → Nat
  | 0 => 0
  | n + 1 => chC par k n + (if par n = nI k then 1 else 0)
def chG (par : Nat → Int32) (g : Nat → Option Int32) (k : Nat) : Nat → Nat
  | 0 => 0
  | n + 1 => chG par g k n + (if par n = nI k ∧ (g n).isSome = true then 1 else 0)
def chS (par wt : Nat → Int32) (g : Nat → Option Int32) (k : Nat) : Nat → Int32
  | 0 => 0
  | n + 1 => chS par wt g k n + (if par n = nI k then (match g n with | none => 0 | some x => wt n * x) else 0)
def ev (nC : Nat) (par wt : Nat → Int32) (h : Nat → Option Nat) (v : Nat → Int32) (g : Nat → Option Int32) (k : Nat) : Option Int32 := match h k with
  | some j => some (v j)
  | none => if 0 < chC par k nC ∧ chG par g k nC = chC par k nC then some (chS par wt g k nC) else none
def dF (nC : Nat) (par wt : Nat → Int32) (h : Nat → Option Nat) (v : Nat → Int32) : Nat → Nat → Option Int32
  | 0, _ => none
  | n + 1, k => ev nC par wt h v (dF nC par wt h v n) k
def dV (nC : Nat) (par wt : Nat → Int32) (h : Nat → Option Nat) (v : Nat → Int32) (k : Nat) : Option Int32 := dF nC par wt h v nC k
theorem chC_le {par : Nat → Int32} {k : Nat} : ∀ n, chC par k n ≤ n
  | 0 => Nat.le_refl _
  | n + 1 => by
    have := chC_le (par := par) (k := k) n
    unfold chC
    split <;> omega
theorem chG_le {par : Nat → Int32} {g : Nat → Option Int32} {k : Nat} : ∀ n, chG par g k n ≤ chC par k n
  | 0 => Nat.le_refl _
  | n + 1 => by
    have := chG_le (par := par) (g := g) (k := k) n
    unfold chG chC
    by_cases h : par n = nI k
    · rw [if_pos h]
      split <;> omega
    · rw [if_neg h, if_neg (fun z => h z.1)]
      exact this
theorem chG_full {par : Nat → Int32} {g : Nat → Option Int32} {k : Nat} : ∀ {n : Nat}, chG par g k n = chC par k n → ∀ j, j < n → par j = nI k → (g j).isSome = true
  | n + 1, h, j, hj, hp => by
    have hl := chG_le (par := par) (g := g) (k := k) n
    unfold chG chC at h
    by_cases q : par n = nI k
    · rw [if_pos q] at h
      by_cases q2 : (g n).isSome = true
      · rw [if_pos ⟨q, q2⟩] at h
        rcases Nat.lt_succ_iff_lt_or_eq.mp hj with z | z
        · exact chG_full (by omega) j z hp
        · rw [z]; exact q2
      · rw [if_neg (fun z => q2 z.2)] at h
        omega
    · rw [if_neg q, if_neg (fun z => q z.1)] at h
      rcases Nat.lt_succ_iff_lt_or_eq.mp hj with z | z
      · exact chG_full (by omega) j z hp
      · rw [z] at hp; exact absurd hp q
theorem chG_of {par : Nat → Int32} {g : Nat → Option Int32} {k : Nat} : ∀ {n : Nat}, (∀ j, j < n → par j = nI k → (g j).isSome = true) → chG par g k n = chC par k n
  | 0, _ => rfl
  | n + 1, h => by
    have ih := chG_of (par := par) (g := g) (k := k) (n := n) (fun j hj => h j (Nat.lt_succ_of_lt hj))
    unfold chG chC
    by_cases q : par n = nI k
    · rw [if_pos q, if_pos ⟨q, h n (Nat.lt_succ_self n) q⟩, ih]
    · rw [if_neg q, if_neg (fun z => q z.1), ih]
theorem chS_congr {par wt : Nat → Int32} {g g' : Nat → Option Int32} {k : Nat} : ∀ {n : Nat}, (∀ j, j < n → par j = nI k → g j = g' j) → chS par wt g k n = chS par wt g' k n
  | 0, _ => rfl
  | n + 1, h => by
    have ih := chS_congr (par := par) (wt := wt) (g := g) (g' := g') (k := k) (n := n) (fun j hj => h j (Nat.lt_succ_of_lt hj))
    unfold chS
    by_cases q : par n = nI k
    · rw [if_pos q, if_pos q, ih, h n (Nat.lt_succ_self n) q]
    · rw [if_neg q, if_neg q, ih]
theorem chG_congr {par : Nat → Int32} {g g' : Nat → Option Int32} {k : Nat} : ∀ {n : Nat}, (∀ j, j < n → par j = nI k → g j = g' j) → chG par g k n = chG par g' k n
  | 0, _ => rfl
  | n + 1, h => by
    have ih := chG_congr (par := par) (g := g) (g' := g') (k := k) (n := n) (fun j hj => h j (Nat.lt_succ_of_lt hj))
    unfold chG
    by_cases q : par n = nI k
    · rw [ih, h n (Nat.lt_succ_self n) q]
    · rw [if_neg (fun z => q z.1), if_neg (fun z => q z.1), ih]
theorem ev_congr {nC : Nat} {par wt : Nat → Int32} {h : Nat → Option Nat} {v : Nat → Int32} {g g' : Nat → Option Int32} {k : Nat} (he : ∀ j, j < nC → par j = nI k → g j = g' j) : ev nC par wt h v g k = ev nC par wt h v g' k := by
  unfold ev
  rw [chG_congr he, chS_congr he]
/-- the place in the order falls on the way down -/
theorem rk_lt {nC : Nat} {par : Nat → Int32} : ∀ {L : List Nat}, topo par L → L.Nodup → (∀ k, k ∈ L → k < 2 ^ 31) → ∀ j k, j ∈ L → k ∈ L → par j = nI k → L.idxOf j < L.idxOf k
  | [], _, _, _, j, _, hj, _, _ => absurd hj List.not_mem_nil
  | x :: L, ht, hn, hb, j, k, hj, hk, hp => by
    obtain ⟨h1, h2⟩ := List.nodup_cons.mp hn
    have hb' : ∀ i, i ∈ L → i < 2 ^ 31 := fun i hi => hb i (List.mem_cons_of_mem _ hi)
    have par_in : atL L (par j) → k ∈ L := by
      rintro (q | ⟨i, hi, q⟩)
      · exact absurd (hp.symm.trans q) (nI_nm1 (hb k hk))
      · have := (nI_eq (hb k hk) (hb' i hi)).mp (hp.symm.trans q)
        rw [this]; exact hi
    rw [List.idxOf_cons, List.idxOf_cons]
    by_cases q : x = j
    · subst q
      have hkL := par_in ht.1
      have hne : (x == k) = false := by rw [beq_eq_false_iff_ne]; exact fun z => h1 (z ▸ hkL)
      rw [hne, beq_self_eq_true]
      exact Nat.succ_pos _
    · have hjL : j ∈ L := (List.mem_cons.mp hj).resolve_left (fun z => q z.symm)
      have hkL := par_in (topo_at ht.2 hjL)
      have hne : (x == k) = false := by rw [beq_eq_false_iff_ne]; exact fun z => h1 (z ▸ hkL)
      have ih := rk_lt (nC := nC) ht.2 h2 hb' j k hjL hkL hp
      rw [hne, show (x == j) = false by rw [beq_eq_false_iff_ne]; exact q]
      exact Nat.succ_lt_succ ih
theorem tree_rk {nC : Nat} {par : Nat → Int32} {L : List Nat} (hT : tree nC par L) (hC : nC ≤ 12) {j k : Nat} (hj : j < nC) (hk : k < nC) (hp : par j = nI k) : L.idxOf j < L.idxOf k :=
  rk_lt (nC := nC) hT.1 hT.2.1 (tree_b hT hC) j k ((hT.2.2.1 j).mpr hj) ((hT.2.2.1 k).mpr hk) hp
theorem tree_rkb {nC : Nat} {par : Nat → Int32} {L : List Nat} (hT : tree nC par L) {k : Nat} (hk : k < nC) : L.idxOf k < nC := by
  have := List.idxOf_lt_length_of_mem ((hT.2.2.1 k).mpr hk)
  rw [hT.2.2.2] at this
  exact this
theorem dF_stable {nC : Nat} {par wt : Nat → Int32} {h : Nat → Option Nat} {v : Nat → Int32} {L : List Nat} (hT : tree nC par L) (hC : nC ≤ 12) : ∀ (n m k : Nat), k < nC → L.idxOf k < n → L.idxOf k < m → dF nC par wt h v n k = dF nC par wt h v m k
  | 0, _, _, _, h1, _ => absurd h1 (Nat.not_lt_zero _)
  | _ + 1, 0, _, _, _, h2 => absurd h2 (Nat.not_lt_zero _)
  | n + 1, m + 1, k, hk, h1, h2 => by
    show ev nC par wt h v (dF nC par wt h v n) k = ev nC par wt h v (dF nC par wt h v m) k
    refine ev_congr (fun j hj hp => ?_)
    have := tree_rk hT hC hj hk hp
    exact dF_stable hT hC n m j hj (by omega) (by omega)
theorem dV_eq {nC : Nat} {par wt : Nat → Int32} {h : Nat → Option Nat} {v : Nat → Int32} {L : List Nat} (hT : tree nC par L) (hC : nC ≤ 12) {k : Nat} (hk : k < nC) : dV nC par wt h v k = ev nC par wt h v (dV nC par wt h v) k := by
  have hr := tree_rkb hT hk
  show dF nC par wt h v nC k = _
  rw [dF_stable hT hC nC (nC + 1) k hk hr (by omega)]
  rfl
theorem dV_congr {nC : Nat} {par wt : Nat → Int32} {h h' : Nat → Option Nat} {v : Nat → Int32} (he : ∀ k, k < nC → h k = h' k) {k : Nat} (hk : k < nC) : dV nC par wt h v k = dV nC par wt h' v k := by
  have key : ∀ n k, k < nC → dF nC par wt h v n k = dF nC par wt h' v n k := by
    intro n
    induction n with
    | zero => intro k _; rfl
    | succ n ih =>
      intro k hk
      show ev nC par wt h v (dF nC par wt h v n) k = ev nC par wt h' v (dF nC par wt h' v n) k
      rw [ev_congr (fun j hj _ => ih j hj)]
      unfold ev
      rw [he k hk]
  exact key nC k hk
-- the class's way: what is reached, in a row
def kids (par : Nat → Int32) (k : Nat) : Nat → List Nat
  | 0 => []
  | n + 1 => kids par k n ++ (if par n = nI k then [n] else [])
theorem kids_len {par : Nat → Int32} {k : Nat} : ∀ n, (kids par k n).length = chC par k n
  | 0 => rfl
  | n + 1 => by
    unfold kids chC
    rw [List.length_append, kids_len n]
    split <;> rfl
theorem kids_mem {par : Nat → Int32} {k c : Nat} : ∀ {n : Nat}, c ∈ kids par k n ↔ c < n ∧ par c = nI k
  | 0 => by simp [kids]
  | n + 1 => by
    unfold kids
    rw [List.mem_append, kids_mem (n := n)]
    by_cases q : par n = nI k
    · rw [if_pos q, List.mem_singleton]
      constructor
      · rintro (⟨h1, h2⟩ | rfl)
        · exact ⟨by omega, h2⟩
        · exact ⟨by omega, q⟩
      · rintro ⟨h1, h2⟩
        rcases Nat.lt_succ_iff_lt_or_eq.mp h1 with z | z
        · exact Or.inl ⟨z, h2⟩
        · exact Or.inr z
    · rw [if_neg q]
      constructor
      · rintro (⟨h1, h2⟩ | h)
        · exact ⟨by omega, h2⟩
        · exact absurd h List.not_mem_nil
      · rintro ⟨h1, h2⟩
        rcases Nat.lt_succ_iff_lt_or_eq.mp h1 with z | z
        · exact Or.inl ⟨z, h2⟩
        · rw [z] at h2; exact absurd h2 q
theorem kids_nodup {par : Nat → Int32} {k : Nat} : ∀ n, (kids par k n).Nodup
  | 0 => List.nodup_nil
  | n + 1 => by
    unfold kids
    by_cases q : par n = nI k
    · rw [if_pos q]
      refine List.nodup_append.mpr ⟨kids_nodup n, by simp, fun a ha b hb => ?_⟩
      have h1 := (kids_mem.mp ha).1
      have h2 := List.mem_singleton.mp hb
      omega
    · rw [if_neg q, List.append_nil]; exact kids_nodup n
def osum (g : Nat → Option Int32) : Int32 → List (Nat × Int32) → Option Int32
  | t, [] => some t
  | t, (c, s) :: Q => match g c with
    | none => none
    | some x => osum g (t + s * x) Q
theorem osum_app {g : Nat → Option Int32} {Q : List (Nat × Int32)} : ∀ {P : List (Nat × Int32)} {t : Int32}, osum g t (P ++ Q) = (osum g t P).bind (fun u => osum g u Q)
  | [], _ => rfl
  | (c, s) :: P, t => by
    show (match g c with | none => none | some x => osum g (t + s * x) (P ++ Q)) = Option.bind (match g c with | none => none | some x => osum g (t + s * x) P) _
    cases g c with
    | none => rfl
    | some x => exact osum_app
theorem osum_add {g : Nat → Option Int32} {d : Int32} : ∀ {Q : List (Nat × Int32)} {t : Int32}, osum g (t + d) Q = (osum g t Q).map (fun u => u + d)
  | [], _ => rfl
  | (c, s) :: Q, t => by
    show (match g c with | none => none | some x => osum g (t + d + s * x) Q) = Option.map _ (match g c with | none => none | some x => osum g (t + s * x) Q)
    cases g c with
    | none => rfl
    | some x =>
      have e : t + d + s * x = t + s * x + d := by rw [Int32.add_assoc, Int32.add_comm d, ← Int32.add_assoc]
      show osum g (t + d + s * x) Q = (osum g (t + s * x) Q).map _
      rw [e]
      exact osum_add
theorem chC_s {par : Nat → Int32} {k : Nat} (n : Nat) : chC par k (n + 1) = chC par k n + (if par n = nI k then 1 else 0) := rfl
theorem chG_s {par : Nat → Int32} {g : Nat → Option Int32} {k : Nat} (n : Nat) : chG par g k (n + 1) = chG par g k n + (if par n = nI k ∧ (g n).isSome = true then 1 else 0) := rfl
theorem chS_s {par wt : Nat → Int32} {g : Nat → Option Int32} {k : Nat} (n : Nat) : chS par wt g k (n + 1) = chS par wt g k n + (if par n = nI k then (match g n with | none => 0 | some x => wt n * x) else 0) := rfl
theorem osum_kids {g : Nat → Option Int32} {par wt : Nat → Int32} {k : Nat} {s t : Int32} : ∀ n, osum g t ((kids par k n).map (fun c => (c, s * wt c))) = if chG par g k n = chC par k n then some (t + s * chS par wt g k n) else none
  | 0 => by simp [kids, osum, chG, chC, chS]
  | n + 1 => by
    have hl := chG_le (par := par) (g := g) (k := k) n
    unfold kids
    rw [List.map_append, osum_app, osum_kids n, chG_s, chC_s, chS_s]
    by_cases q : par n = nI k
    · rw [if_pos q, if_pos q, if_pos q]
      cases hg : g n with
      | none =>
        rw [show (if par n = nI k ∧ (none : Option Int32).isSome = true then 1 else 0) = 0 from if_neg (fun z => nomatch z.2), if_neg (by omega : ¬ chG par g k n + 0 = chC par k n + 1)]
        split
        · simp [osum, hg]
        · rfl
      | some x =>
        rw [show (if par n = nI k ∧ (some x : Option Int32).isSome = true then 1 else 0) = 1 from if_pos ⟨q, rfl⟩]
        by_cases q2 : chG par g k n = chC par k n
        · rw [if_pos q2, if_pos (by omega)]
          simp only [List.map_cons, List.map_nil, Option.bind_some, osum, hg]
          rw [Int32.mul_add, Int32.mul_assoc, Int32.add_assoc]
        · rw [if_neg q2, if_neg (by omega)]
          rfl
    · rw [if_neg q, if_neg q, if_neg q, show (if par n = nI k ∧ (g n).isSome = true then 1 else 0) = 0 from if_neg (fun z => q z.1)]
      simp only [Nat.add_zero, List.map_nil, Int32.add_zero, osum]
      split <;> simp
section
variable {nC : Nat} {par wt : Nat → Int32} {h : Nat → Option Nat} {v : Nat → Int32} {L : List Nat} {q : Nat} {s t : Int32} {N : List (Nat × Int32)}
theorem os_val (hT : tree nC par L) (hC : nC ≤ 12) (hq : q < nC) {j : Nat} (hj : h q = some j) : osum (dV nC par wt h v) t ((q, s) :: N) = osum (dV nC par wt h v) (t + s * v j) N := by
  have e : dV nC par wt h v q = some (v j) := by rw [dV_eq hT hC hq]; unfold ev; rw [hj]
  show (match dV nC par wt h v q with | none => none | some x => osum _ (t + s * x) N) = _
  rw [e]
theorem os_dead (hT : tree nC par L) (hC : nC ≤ 12) (hq : q < nC) (hj : h q = none) (h0 : chC par q nC = 0) : osum (dV nC par wt h v) t ((q, s) :: N) = none := by
  have e : dV nC par wt h v q = none := by rw [dV_eq hT hC hq]; unfold ev; rw [hj, h0]; rfl
  show (match dV nC par wt h v q with | none => none | some x => osum _ (t + s * x) N) = _
  rw [e]
theorem os_kids (hT : tree nC par L) (hC : nC ≤ 12) (hq : q < nC) (hj : h q = none) (h0 : 0 < chC par q nC) : osum (dV nC par wt h v) t ((q, s) :: N) = osum (dV nC par wt h v) t (N ++ (kids par q nC).map (fun c => (c, s * wt c))) := by
  have e : dV nC par wt h v q = if chG par (dV nC par wt h v) q nC = chC par q nC then some (chS par wt (dV nC par wt h v) q nC) else none := by
    rw [dV_eq hT hC hq]; unfold ev; rw [hj]
    show (if 0 < chC par q nC ∧ _ then _ else _) = _
    by_cases z : chG par (dV nC par wt h v) q nC = chC par q nC
    · rw [if_pos ⟨h0, z⟩, if_pos z]
    · rw [if_neg (fun y => z y.2), if_neg z]
  show (match dV nC par wt h v q with | none => none | some x => osum _ (t + s * x) N) = _
  rw [e, osum_app]
  by_cases z : chG par (dV nC par wt h v) q nC = chC par q nC
  · rw [if_pos z]
    show osum _ (t + s * _) N = _
    rw [osum_add]
    cases osum (dV nC par wt h v) t N with
    | none => rfl
    | some u => simp only [Option.map_some, Option.bind_some]; rw [osum_kids, if_pos z]
  · rw [if_neg z]
    cases osum (dV nC par wt h v) t N with
    | none => rfl
    | some u => simp only [Option.bind_some]; rw [osum_kids, if_neg z]
end
/-- no more different numbers below n than n -/
theorem nd_len : ∀ {n : Nat} {l : List Nat}, l.Nodup → (∀ x, x ∈ l → x < n) → l.length ≤ n
  | 0, l, _, hb => by
    cases l with
    | nil => exact Nat.le_refl _
    | cons x l => exact absurd (hb x List.mem_cons_self) (Nat.not_lt_zero _)
  | n + 1, l, hn, hb => by
    have ih := nd_len (n := n) (l := l.erase n) (hn.erase n) (fun x hx => by
      have h1 := (hn.mem_erase_iff).mp hx
      have h2 := hb x h1.2
      have := h1.1
      omega)
    have := List.length_erase (a := n) (l := l)
    split at this <;> omega
/-- what has been reached: P is done with, N waits -/
def reachd (nC : Nat) (par : Nat → Int32) (L : List Nat) (c0 : Nat) (P N : List (Nat × Int32)) : Prop :=
  ((P ++ N).map Prod.fst).Nodup ∧ (∀ x, x ∈ P ++ N → x.1 < nC ∧ L.idxOf x.1 ≤ L.idxOf c0) ∧ ∀ x, x ∈ P ++ N → x.1 = c0 ∨ ∃ y, y ∈ P ∧ par x.1 = nI y.1
theorem reachd_len {nC : Nat} {par : Nat → Int32} {L : List Nat} {c0 : Nat} {P N : List (Nat × Int32)} (hr : reachd nC par L c0 P N) : (P ++ N).length ≤ nC := by
  have := nd_len hr.1 (n := nC) (fun x hx => by
    obtain ⟨y, hy, rfl⟩ := List.mem_map.mp hx
    exact (hr.2.1 y hy).1)
  rwa [List.length_map] at this
theorem reachd_val {nC : Nat} {par : Nat → Int32} {L : List Nat} {c0 : Nat} {P N : List (Nat × Int32)} {x : Nat × Int32} (hr : reachd nC par L c0 P (x :: N)) : reachd nC par L c0 (P ++ [x]) N := by
  obtain ⟨h1, h2, h3⟩ := hr
  have e : P ++ [x] ++ N = P ++ x :: N := by rw [List.append_assoc]; rfl
  refine ⟨by rw [e]; exact h1, by rw [e]; exact h2, fun y hy => ?_⟩
  rw [e] at hy
  rcases h3 y hy with z | ⟨w, hw, z⟩
  · exact Or.inl z
  · exact Or.inr ⟨w, List.mem_append_left _ hw, z⟩
theorem reachd_kids {nC : Nat} {par : Nat → Int32} {L : List Nat} {c0 q : Nat} {s : Int32} {f : Nat → Int32} {P N : List (Nat × Int32)} (hT : tree nC par L) (hC : nC ≤ 12) (hr : reachd nC par L c0 P ((q, s) :: N)) (hc0 : c0 < nC) :
    reachd nC par L c0 (P ++ [(q, s)]) (N ++ (kids par q nC).map (fun c => (c, f c))) := by
  obtain ⟨h1, h2, h3⟩ := hr
  have hqm : (q, s) ∈ P ++ (q, s) :: N := List.mem_append_right _ List.mem_cons_self
  have hq := h2 _ hqm
  have e : P ++ [(q, s)] ++ (N ++ (kids par q nC).map (fun c => (c, f c))) = (P ++ (q, s) :: N) ++ (kids par q nC).map (fun c => (c, f c)) := by simp
  have em : ((kids par q nC).map (fun c => (c, f c))).map Prod.fst = kids par q nC := by rw [List.map_map]; exact List.map_id' _
  have hnq : ∀ y, y ∈ P → y.1 ≠ q := by
    intro y hy z
    rw [List.map_append, List.nodup_append] at h1
    exact h1.2.2 y.1 (List.mem_map.mpr ⟨y, hy, rfl⟩) q (List.mem_map.mpr ⟨(q, s), List.mem_cons_self, rfl⟩) z
  have hb31 : ∀ y, y ∈ P → y.1 < 2 ^ 31 := fun y hy => by have := (h2 y (List.mem_append_left _ hy)).1; omega
  have kid_new : ∀ c, c ∈ kids par q nC → ∀ x, x ∈ P ++ (q, s) :: N → x.1 ≠ c := by
    intro c hc x hx z
    obtain ⟨hcn, hcp⟩ := kids_mem.mp hc
    rcases h3 x hx with w | ⟨y, hy, w⟩
    · rw [z] at w
      rw [w] at hcp
      have := tree_rk hT hC hc0 hq.1 hcp
      have := hq.2
      omega
    · rw [z, hcp] at w
      have := (nI_eq (by omega) (hb31 y hy)).mp w
      exact hnq y hy this.symm
  refine ⟨?_, fun x hx => ?_, fun x hx => ?_⟩
  · rw [e, List.map_append, em]
    refine List.nodup_append.mpr ⟨h1, kids_nodup nC, fun a ha b hb z => ?_⟩
    obtain ⟨y, hy, rfl⟩ := List.mem_map.mp ha
    exact kid_new b hb y hy z
  · rw [e] at hx
    rcases List.mem_append.mp hx with z | z
    · exact h2 x z
    · obtain ⟨c, hc, rfl⟩ := List.mem_map.mp z
      obtain ⟨hcn, hcp⟩ := kids_mem.mp hc
      have := tree_rk hT hC hcn hq.1 hcp
      exact ⟨hcn, by have := hq.2; show L.idxOf c ≤ _; omega⟩
  · rw [e] at hx
    rcases List.mem_append.mp hx with z | z
    · rcases h3 x z with w | ⟨y, hy, w⟩
      · exact Or.inl w
      · exact Or.inr ⟨y, List.mem_append_left _ hy, w⟩
    · obtain ⟨c, hc, rfl⟩ := List.mem_map.mp z
      exact Or.inr ⟨(q, s), List.mem_append_right _ List.mem_cons_self, (kids_mem.mp hc).2⟩
/-- the two rows hold what is reached -/
def qOk (rea sig : Nat → Int32) (Q : List (Nat × Int32)) : Prop := ∀ i x, Q[i]? = some x → rea i = nI x.1 ∧ sig i = x.2
theorem qOk_push {rea sig : Nat → Int32} {Q : List (Nat × Int32)} {c : Nat} {w : Int32} (h : qOk rea sig Q) : qOk (upd rea Q.length (nI c)) (upd sig Q.length w) (Q ++ [(c, w)]) := by
  intro i x hi
  by_cases q : i < Q.length
  · rw [List.getElem?_append_left q] at hi
    have hne : i ≠ Q.length := by omega
    have := h i x hi
    simp [upd, hne]
    exact this
  · rw [List.getElem?_append_right (by omega)] at hi
    have hl := (List.getElem?_eq_some_iff.mp hi).1
    have he : i = Q.length := by simp at hl; omega
    subst he
    simp at hi
    subst hi
    simp [upd]
theorem qOk_at {rea sig : Nat → Int32} {P N : List (Nat × Int32)} {x : Nat × Int32} (h : qOk rea sig (P ++ x :: N)) : rea P.length = nI x.1 ∧ sig P.length = x.2 := h P.length x (by rw [List.getElem?_append_right (Nat.le_refl _), Nat.sub_self]; rfl)
-- the reference's way: what is known
def rG (kn de : Nat → Int32) (n : Nat) : Option Int32 := if kn n = 0 then none else some (de n)
theorem rG_s {kn de : Nat → Int32} {n : Nat} : (rG kn de n).isSome = true ↔ ¬ kn n = 0 := by
  unfold rG
  by_cases h : kn n = 0
  · rw [if_pos h]; simp [h]
  · rw [if_neg h]; simp [h]
theorem rG_up {kn de : Nat → Int32} {k j : Nat} {x : Int32} : rG (upd kn k 1) (upd de k x) j = if j = k then some x else rG kn de j := by
  unfold rG upd
  by_cases h : j = k
  · simp [h]
  · simp [h]
theorem rG_no {kn de : Nat → Int32} {k j : Nat} {x : Int32} : rG (upd kn k 0) (upd de k x) j = if j = k then none else rG kn de j := by
  unfold rG upd
  by_cases h : j = k
  · simp [h]
  · simp [h]
/-- nothing false is known; all that holds is -/
def rOk (nC : Nat) (par wt : Nat → Int32) (h : Nat → Option Nat) (v : Nat → Int32) (kn de : Nat → Int32) : Prop :=
  (∀ k x, k < nC → rG kn de k = some x → dV nC par wt h v k = some x) ∧ ∀ k, k < nC → (h k).isSome = true → (rG kn de k).isSome = true
/-- all that can be known of those ahead of r is -/
def rPr (nC : Nat) (par wt : Nat → Int32) (h : Nat → Option Nat) (v : Nat → Int32) (L : List Nat) (kn de : Nat → Int32) (r n : Nat) : Prop :=
  ∀ k, k < n → L.idxOf k < r → (dV nC par wt h v k).isSome = true → (rG kn de k).isSome = true
section
variable {nC : Nat} {par wt : Nat → Int32} {h : Nat → Option Nat} {v : Nat → Int32} {L : List Nat} {kn de : Nat → Int32} {r k : Nat}
theorem rOk_0 (hT : tree nC par L) (hC : nC ≤ 12) (h0 : ∀ i, i < nC → rG kn de i = (h i).map v) : rOk nC par wt h v kn de := by
  refine ⟨fun k x hk hx => ?_, fun k hk hs => by rw [h0 k hk]; simpa using hs⟩
  rw [h0 k hk] at hx
  rw [dV_eq hT hC hk]
  unfold ev
  cases hh : h k with
  | none => rw [hh] at hx; cases hx
  | some j => rw [hh] at hx; exact hx
/-- where k isn't known, and all below it are: it is known next -/
theorem rOk_up (hT : tree nC par L) (hC : nC ≤ 12) (ho : rOk nC par wt h v kn de) (hk : k < nC) (hn : kn k = 0) (h1 : 0 < chC par k nC) (h2 : chG par (rG kn de) k nC = chC par k nC) :
    rOk nC par wt h v (upd kn k 1) (upd de k (chS par wt (rG kn de) k nC)) := by
  have hnone : h k = none := by
    cases hh : h k with
    | none => rfl
    | some j => exact absurd hn (rG_s.mp (ho.2 k hk (by rw [hh]; rfl)))
  have hc : ∀ j, j < nC → par j = nI k → rG kn de j = dV nC par wt h v j := fun j hj hp => by
    obtain ⟨x, hx⟩ := Option.isSome_iff_exists.mp (chG_full h2 j hj hp)
    rw [hx, ho.1 j x hj hx]
  have hd : dV nC par wt h v k = some (chS par wt (rG kn de) k nC) := by
    rw [dV_eq hT hC hk]
    unfold ev
    rw [hnone]
    show (if 0 < chC par k nC ∧ chG par (dV nC par wt h v) k nC = chC par k nC then _ else _) = _
    rw [← chG_congr hc, if_pos ⟨h1, h2⟩, ← chS_congr hc]
  refine ⟨fun j x hj hx => ?_, fun j hj hs => ?_⟩
  · rw [rG_up] at hx
    by_cases q : j = k
    · rw [if_pos q] at hx
      rw [q, hd]; exact hx
    · rw [if_neg q] at hx
      exact ho.1 j x hj hx
  · rw [rG_up]
    by_cases q : j = k
    · rw [if_pos q]; rfl
    · rw [if_neg q]; exact ho.2 j hj hs
/-- where k is not known behind its turn, it can't be -/
theorem rPr_no (hT : tree nC par L) (hC : nC ≤ 12) (hp : rPr nC par wt h v L kn de r nC) (hk : k < nC) (hr : L.idxOf k < r + 1) (hno : ¬ (0 < chC par k nC ∧ chG par (rG kn de) k nC = chC par k nC)) (hnone : (h k).isSome = true → (rG kn de k).isSome = true) : (dV nC par wt h v k).isSome = true → (rG kn de k).isSome = true := by
  intro hs
  cases hh : h k with
  | some j => exact hnone (by rw [hh]; rfl)
  | none =>
    rw [dV_eq hT hC hk] at hs
    unfold ev at hs
    rw [hh] at hs
    dsimp only at hs
    by_cases q : 0 < chC par k nC ∧ chG par (dV nC par wt h v) k nC = chC par k nC
    · exfalso
      refine hno ⟨q.1, chG_of (fun j hj hpj => ?_)⟩
      have := tree_rk hT hC hj hk hpj
      exact hp j hj (by omega) (chG_full q.2 j hj hpj)
    · rw [if_neg q] at hs; cases hs
theorem rPr_mono {x : Int32} {n : Nat} (hp : rPr nC par wt h v L kn de r n) : rPr nC par wt h v L (upd kn k 1) (upd de k x) r n := fun j hj hr hs => by
  rw [rG_up]
  by_cases q : j = k
  · rw [if_pos q]; rfl
  · rw [if_neg q]; exact hp j hj hr hs
theorem rPr_end (hT : tree nC par L) (ho : rOk nC par wt h v kn de) (hp : rPr nC par wt h v L kn de nC nC) (hk : k < nC) : rG kn de k = dV nC par wt h v k := by
  cases hd : dV nC par wt h v k with
  | some x =>
    obtain ⟨y, hy⟩ := Option.isSome_iff_exists.mp (hp k hk (tree_rkb hT hk) (by rw [hd]; rfl))
    have := ho.1 k y hk hy
    rw [hd] at this
    rw [hy, this]
  | none =>
    cases hy : rG kn de k with
    | none => rfl
    | some y => have := ho.1 k y hk hy; rw [hd] at this; cases this
end
