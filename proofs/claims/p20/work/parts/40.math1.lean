-- SUMS, a step at a time
section
variable {par wt : Nat → Int32} {h : Nat → Option Nat} {v : Nat → Int32} {d : Nat → Nat} {c : Int32} {k : Nat}
theorem sn_no (hp : ¬ par k = c) : sumN par wt h v c (k + 1) = sumN par wt h v c k := by rw [sumN_s, if_neg hp]; exact Int32.add_zero _
theorem sn_none (hh : h k = none) : sumN par wt h v c (k + 1) = sumN par wt h v c k := by
  rw [sumN_s]
  by_cases hp : par k = c
  · rw [if_pos hp, hh]; exact Int32.add_zero _
  · rw [if_neg hp]; exact Int32.add_zero _
theorem sn_some (hp : par k = c) {j : Nat} (hh : h k = some j) : sumN par wt h v c (k + 1) = sumN par wt h v c k + wt k * v j := by rw [sumN_s, if_pos hp, hh]
theorem dn_no (hp : ¬ par k = c) : dbtN par h d c (k + 1) = dbtN par h d c k := by rw [dbtN_s, if_neg hp]; exact Int32.add_zero _
theorem dn_none (hh : h k = none) : dbtN par h d c (k + 1) = dbtN par h d c k := by
  rw [dbtN_s]
  by_cases hp : par k = c
  · rw [if_pos hp, hh]; exact Int32.add_zero _
  · rw [if_neg hp]; exact Int32.add_zero _
theorem dn_some (hp : par k = c) {j : Nat} (hh : h k = some j) : dbtN par h d c (k + 1) = dbtN par h d c k + nI (10 ^ d j) := by rw [dbtN_s, if_pos hp, hh]
theorem cn_no (hp : ¬ par k = c) : cntN par h c (k + 1) = cntN par h c k := by rw [cntN_s, if_neg hp]; rfl
theorem cn_none (hh : h k = none) : cntN par h c (k + 1) = cntN par h c k := by
  rw [cntN_s]
  by_cases hp : par k = c
  · rw [if_pos hp, hh]; rfl
  · rw [if_neg hp]; rfl
theorem cn_some (hp : par k = c) {j : Nat} (hh : h k = some j) : cntN par h c (k + 1) = cntN par h c k + 1 := by rw [cntN_s, if_pos hp, hh]
end
section
variable {par wt : Nat → Int32} {g : Nat → Option Int32} {c k : Nat}
theorem gS_no (hp : ¬ par k = nI c) : chS par wt g c (k + 1) = chS par wt g c k := by rw [chS_s, if_neg hp]; exact Int32.add_zero _
theorem gS_none (hh : g k = none) : chS par wt g c (k + 1) = chS par wt g c k := by
  rw [chS_s]
  by_cases hp : par k = nI c
  · rw [if_pos hp, hh]; exact Int32.add_zero _
  · rw [if_neg hp]; exact Int32.add_zero _
theorem gS_some (hp : par k = nI c) {x : Int32} (hh : g k = some x) : chS par wt g c (k + 1) = chS par wt g c k + wt k * x := by rw [chS_s, if_pos hp, hh]
theorem gG_no (hp : ¬ par k = nI c) : chG par g c (k + 1) = chG par g c k := by rw [chG_s, if_neg (fun z => hp z.1)]; rfl
theorem gG_none (hh : g k = none) : chG par g c (k + 1) = chG par g c k := by rw [chG_s, if_neg (fun z => by rw [hh] at z; exact nomatch z.2)]; rfl
theorem gG_some (hp : par k = nI c) {x : Int32} (hh : g k = some x) : chG par g c (k + 1) = chG par g c k + 1 := by rw [chG_s, if_pos ⟨hp, by rw [hh]; rfl⟩]
theorem gC_no (hp : ¬ par k = nI c) : chC par c (k + 1) = chC par c k := by rw [chC_s, if_neg hp]; rfl
theorem gC_yes (hp : par k = nI c) : chC par c (k + 1) = chC par c k + 1 := by rw [chC_s, if_pos hp]
end
section
variable {h : Nat → Option Nat} {v : Nat → Int32} {d : Nat → Nat} {k : Nat}
theorem ms_0 (hk : k = 0) : mSum h v (k + 1) = mSum h v k := by
  show mSum h v k + (if k = 0 then 0 else _) = _
  rw [if_pos hk]; exact Int32.add_zero _
theorem ms_none (hh : h k = none) : mSum h v (k + 1) = mSum h v k := by
  show mSum h v k + (if k = 0 then 0 else (match h k with | none => 0 | some j => v j)) = _
  rw [hh]
  by_cases hk : k = 0
  · rw [if_pos hk]; exact Int32.add_zero _
  · rw [if_neg hk]; exact Int32.add_zero _
theorem ms_some (hk : ¬ k = 0) {j : Nat} (hh : h k = some j) : mSum h v (k + 1) = mSum h v k + v j := by
  show mSum h v k + (if k = 0 then 0 else (match h k with | none => 0 | some j => v j)) = _
  rw [hh, if_neg hk]
theorem md_none (hh : h k = none) : mDbt h d (k + 1) = mDbt h d k := by
  show mDbt h d k + (match h k with | none => 0 | some j => nI (10 ^ d j)) = _
  rw [hh]; exact Int32.add_zero _
theorem md_some {j : Nat} (hh : h k = some j) : mDbt h d (k + 1) = mDbt h d k + nI (10 ^ d j) := by
  show mDbt h d k + (match h k with | none => 0 | some j => nI (10 ^ d j)) = _
  rw [hh]
theorem ma_none (hh : h k = none) : ¬ mAll h (k + 1) = true := by
  show ¬ (mAll h k && (h k).isSome) = true
  rw [hh]; simp
theorem ma_no (ha : ¬ mAll h k = true) : ¬ mAll h (k + 1) = true := by
  show ¬ (mAll h k && (h k).isSome) = true
  simp at ha; rw [ha]; simp
theorem ma_yes (ha : mAll h k = true) {j : Nat} (hh : h k = some j) : mAll h (k + 1) = true := by
  show (mAll h k && (h k).isSome) = true
  rw [hh, ha]; rfl
theorem mo_no (ha : ¬ mAll h 4 = true) : ¬ memOff h d v = true := by
  unfold memOff
  cases h 0 with
  | none => simp
  | some a => simp at ha; simp [ha]
theorem mo_far {a : Nat} (h0 : h 0 = some a) (ha : mAll h 4 = true) (hf : mDbt h d 4 < 2 * farI (v a) (mSum h v 4)) : memOff h d v = true := by
  unfold memOff
  rw [h0]
  show (mAll h 4 && decide (mDbt h d 4 < 2 * farI (v a) (mSum h v 4))) = true
  rw [ha, decide_eq_true hf]; rfl
theorem mo_near {a : Nat} (h0 : h 0 = some a) (hf : ¬ mDbt h d 4 < 2 * farI (v a) (mSum h v 4)) : ¬ memOff h d v = true := by
  unfold memOff
  rw [h0]
  show ¬ (mAll h 4 && decide (mDbt h d 4 < 2 * farI (v a) (mSum h v 4))) = true
  rw [decide_eq_false hf, Bool.and_false]; decide
end
section
variable {nC : Nat} {par wt : Nat → Int32} {h : Nat → Option Nat} {v : Nat → Int32} {d : Nat → Nat} {c : Int32} {own : Option Nat} {o : Nat}
theorem so_none (ho : own = none) : ¬ sumOff nC par wt h d v c own = true := by rw [ho]; exact fun z => nomatch z
theorem so_few (ho : own = some o) (h0 : ¬ 0 < cntN par h c nC) : ¬ sumOff nC par wt h d v c own = true := by
  rw [ho]
  show ¬ (decide (0 < cntN par h c nC) && _) = true
  rw [decide_eq_false h0, Bool.false_and]; decide
theorem so_far (ho : own = some o) (h0 : 0 < cntN par h c nC) (hf : nI (10 ^ d o) + dbtN par h d c nC < 2 * farI (v o) (sumN par wt h v c nC)) : sumOff nC par wt h d v c own = true := by
  rw [ho]
  show (decide (0 < cntN par h c nC) && decide (nI (10 ^ d o) + dbtN par h d c nC < 2 * farI (v o) (sumN par wt h v c nC))) = true
  rw [decide_eq_true h0, decide_eq_true hf]; rfl
theorem so_near (ho : own = some o) (hf : ¬ nI (10 ^ d o) + dbtN par h d c nC < 2 * farI (v o) (sumN par wt h v c nC)) : ¬ sumOff nC par wt h d v c own = true := by
  rw [ho]
  show ¬ (decide (0 < cntN par h c nC) && decide (nI (10 ^ d o) + dbtN par h d c nC < 2 * farI (v o) (sumN par wt h v c nC))) = true
  rw [decide_eq_false hf, Bool.and_false]; decide
end
section
variable {nC : Nat} {par wt : Nat → Int32} {h : Nat → Option Nat} {v : Nat → Int32} {L : List Nat} {c : Nat}
theorem dv_some (hT : tree nC par L) (hC : nC ≤ 12) (hc : c < nC) {j : Nat} (hj : h c = some j) : dvI (dV nC par wt h v c) = v j := by
  rw [dV_eq hT hC hc]; unfold ev; rw [hj]; rfl
theorem dv_all (hT : tree nC par L) (hC : nC ≤ 12) (hc : c < nC) (hj : h c = none) (h0 : 0 < chC par c nC) (hg : chG par (dV nC par wt h v) c nC = chC par c nC) : dvI (dV nC par wt h v c) = chS par wt (dV nC par wt h v) c nC := by
  rw [dV_eq hT hC hc]; unfold ev; rw [hj]
  show dvI (if 0 < chC par c nC ∧ chG par (dV nC par wt h v) c nC = chC par c nC then _ else _) = _
  rw [if_pos ⟨h0, hg⟩]; rfl
theorem dv_no (hT : tree nC par L) (hC : nC ≤ 12) (hc : c < nC) (hj : h c = none) (hn : ¬ (0 < chC par c nC ∧ chG par (dV nC par wt h v) c nC = chC par c nC)) : dvI (dV nC par wt h v c) = -99000000 := by
  rw [dV_eq hT hC hc]; unfold ev; rw [hj]
  show dvI (if 0 < chC par c nC ∧ chG par (dV nC par wt h v) c nC = chC par c nC then _ else _) = _
  rw [if_neg hn]; rfl
end
section
variable {p : Int32} {a b c : Nat} {now before flow : Option Nat} {d : Nat → Nat} {v : Nat → Int32}
theorem ro_far (h1 : now = some a) (h2 : before = some b) (h3 : flow = some c) (hp : 0 < p) (hf : nI (10 ^ d a) + nI (10 ^ d b) + nI (10 ^ d c) < 2 * farI (v a) (v b + v c)) : rollOff p now before flow d v = true := by
  rw [h1, h2, h3]
  show (decide (0 < p) && decide (nI (10 ^ d a) + nI (10 ^ d b) + nI (10 ^ d c) < 2 * farI (v a) (v b + v c))) = true
  rw [decide_eq_true hp, decide_eq_true hf]; rfl
theorem ro_near (h1 : now = some a) (h2 : before = some b) (h3 : flow = some c) (hf : ¬ nI (10 ^ d a) + nI (10 ^ d b) + nI (10 ^ d c) < 2 * farI (v a) (v b + v c)) : ¬ rollOff p now before flow d v = true := by
  rw [h1, h2, h3]
  show ¬ (decide (0 < p) && decide (nI (10 ^ d a) + nI (10 ^ d b) + nI (10 ^ d c) < 2 * farI (v a) (v b + v c))) = true
  rw [decide_eq_false hf, Bool.and_false]; decide
theorem ro_n1 (h : now = none) : ¬ rollOff p now before flow d v = true := by rw [h]; exact fun z => nomatch z
theorem ro_n2 (h : before = none) : ¬ rollOff p now before flow d v = true := by rw [h]; cases now <;> exact fun z => nomatch z
theorem ro_n3 (h : flow = none) : ¬ rollOff p now before flow d v = true := by rw [h]; cases now <;> cases before <;> exact fun z => nomatch z
end
-- ALL FAULTS, counted as the law does
def afO (nC nR : Nat) (par wt : Nat → Int32) (sk fk : Nat → Nat) (h : Nat → Option Nat) (d : Nat → Nat) (v : Nat → Int32) (p : Nat) : Int32 :=
  sT (fun k => bI (sumOff nC par wt (fun j => h (j * 40 + p * 4 + k % 4)) d v (nI (k / 4)) (h (k / 4 * 40 + p * 4 + k % 4)) = true) + (if k % 4 = 0 then bI (memOff (fun q => h (k / 4 * 40 + p * 4 + q)) d v = true) else 0)) (4 * nC)
    + sT (fun k => bI (rollOff (nI p) (h (sk (k / 4) * 40 + p * 4 + k % 4)) (h (sk (k / 4) * 40 + (p - 1) * 4 + k % 4)) (h (fk (k / 4) * 40 + p * 4 + k % 4)) d v = true)) (4 * nR)
theorem af_keys {nC nR : Nat} {par wt : Nat → Int32} {sk fk : Nat → Nat} {h : Nat → Option Nat} {d : Nat → Nat} {v : Nat → Int32} (hsk : ∀ r, r < nR → sk r < nC) :
    sT (fun K => fltA nC nR par wt sk fk h d v (K / 40) (K / 4 % 10) (K % 4)) (nC * 40) = sT (afO nC nR par wt sk fk h d v) 10 := by
  rw [flt_keys hsk]
  refine sT_congr (fun p _ => ?_)
  unfold afO
  rw [Nat.mul_comm 4 nC, Nat.mul_comm 4 nR, sT_mul, sT_mul]
  congr 1
  · refine sT_congr (fun c _ => ?_)
    have e : ∀ j, j < 4 → (bI (sumOff nC par wt (fun i => h (i * 40 + p * 4 + (c * 4 + j) % 4)) d v (nI ((c * 4 + j) / 4)) (h ((c * 4 + j) / 4 * 40 + p * 4 + (c * 4 + j) % 4)) = true) + (if (c * 4 + j) % 4 = 0 then bI (memOff (fun q => h ((c * 4 + j) / 4 * 40 + p * 4 + q)) d v = true) else 0)) =
        bI (sumOff nC par wt (fun k => h (k * 40 + p * 4 + j)) d v (nI c) (h (c * 40 + p * 4 + j)) = true) + (if j = 0 then bI (memOff (fun q => h (c * 40 + p * 4 + q)) d v = true) else 0) := by
      intro j hj
      rw [show (c * 4 + j) / 4 = c by omega, show (c * 4 + j) % 4 = j by omega]
    rw [sT_congr e, sT_add, sT_single (g := fun j => if j = 0 then bI (memOff (fun q => h (c * 40 + p * 4 + q)) d v = true) else 0) (j := 0) (by decide) (fun k _ hk => if_neg hk), if_pos rfl, Int32.add_comm]
  · refine sT_congr (fun r _ => sT_congr (fun m hm => ?_))
    rw [show (r * 4 + m) / 4 = r by omega, show (r * 4 + m) % 4 = m by omega]
section
variable {nC nR nF : Nat} {par wt : Nat → Int32} {sk fk : Nat → Nat} {ck cf cd : Nat → Nat} {cv : Nat → Int32} {f : Int32}
theorem af_class (hsk : ∀ r, r < nR → sk r < nC) : sT (fun k => if (hC ck cf cd nF (nI k) f).isSome = true then fltA nC nR par wt sk fk (fun K => hC ck cf cd nF (nI K) f) cd cv (k / 40) (k / 4 % 10) (k % 4) else 0) (nC * 40) =
    sT (afO nC nR par wt sk fk (fun K => hC ck cf cd nF (nI K) f) cd cv) 10 := by
  rw [← af_keys hsk]
  refine sT_congr (fun K hK => ?_)
  by_cases q : (hC ck cf cd nF (nI K) f).isSome = true
  · rw [if_pos q]
  · rw [if_neg q]
    refine (flt_none ?_).symm
    show hC ck cf cd nF (nI (K / 40 * 40 + K / 4 % 10 * 4 + K % 4)) f = none
    rw [show K / 40 * 40 + K / 4 % 10 * 4 + K % 4 = K by omega]
    simpa using q
theorem af_list (hsk : ∀ r, r < nR → sk r < nC) (hC12 : nC ≤ 12) (hck : ∀ k, ck k < 480) (hckC : ∀ k, k < nF → ck k < nC * 40) : sT (fun k => if hC ck cf cd nF (nI (ck k)) f = some k then fltA nC nR par wt sk fk (fun K => hC ck cf cd nF (nI K) f) cd cv (ck k / 40) (ck k / 4 % 10) (ck k % 4) else 0) nF =
    sT (afO nC nR par wt sk fk (fun K => hC ck cf cd nF (nI K) f) cd cv) 10 := by
  rw [← af_class hsk]
  have e1 : ∀ K, K < nC * 40 → (if (hC ck cf cd nF (nI K) f).isSome = true then fltA nC nR par wt sk fk (fun K => hC ck cf cd nF (nI K) f) cd cv (K / 40) (K / 4 % 10) (K % 4) else 0) =
      (match (fun K => if K < 480 then hC ck cf cd nF (nI K) f else none) K with | none => 0 | some k => fltA nC nR par wt sk fk (fun K => hC ck cf cd nF (nI K) f) cd cv (K / 40) (K / 4 % 10) (K % 4)) := by
    intro K hK
    dsimp only
    rw [if_pos (show K < 480 by omega)]
    cases hC ck cf cd nF (nI K) f with
    | none => rfl
    | some k => rfl
  rw [sT_congr e1]
  refine Eq.trans ?_ (sT_keys (h := fun K => if K < 480 then hC ck cf cd nF (nI K) f else none) (ck := ck) (nF := nF) (g := fun K _ => fltA nC nR par wt sk fk (fun K => hC ck cf cd nF (nI K) f) cd cv (K / 40) (K / 4 % 10) (K % 4)) (fun K k hk => ?_) hckC).symm
  · refine sT_congr (fun k hk => ?_)
    rw [if_pos (hck k)]
  · by_cases q : K < 480
    · rw [if_pos q] at hk; exact hC_at hck q hk
    · rw [if_neg q] at hk; cases hk
end
theorem af_step {y a b S T x z : Int32} (e : y = S + T) (ha : a = x) (hb : b = z) : y + a + b = S + (T + (x + z)) := by rw [e, ha, hb, Int32.add_assoc, Int32.add_assoc]
theorem af_one {y a S T x : Int32} (e : y = S + T) (ha : a = x) : y + a = S + (T + x) := by rw [e, ha, Int32.add_assoc]
