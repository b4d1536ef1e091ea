-- CHAINS: the facts of a key that ever held, the one that holds first
def rpl (kf kd : Nat → Nat) (a b : Nat) : Bool := decide (kf b < kf a ∨ kf b = kf a ∧ kd a < kd b)
def ins (kf kd : Nat → Nat) (k : Nat) : List Nat → List Nat
  | [] => [k]
  | b :: L => if rpl kf kd k b = true then k :: b :: L else b :: L
theorem ins_c {kf kd : Nat → Nat} {k b : Nat} {L : List Nat} : ins kf kd k (b :: L) = if rpl kf kd k b = true then k :: b :: L else b :: L := rfl
def chn (ck kf kd : Nat → Nat) (K : Nat) : Nat → List Nat
  | 0 => []
  | n + 1 => if ck n = K then ins kf kd n (chn ck kf kd K n) else chn ck kf kd K n
theorem ins_mem {kf kd : Nat → Nat} {k j : Nat} : ∀ {L : List Nat}, j ∈ ins kf kd k L → j = k ∨ j ∈ L
  | [], h => by simpa [ins] using h
  | b :: L, h => by
    rw [ins_c] at h
    by_cases q : rpl kf kd k b = true
    · rw [if_pos q] at h; exact List.mem_cons.mp h
    · rw [if_neg q] at h; exact Or.inr h
theorem chn_mem {ck kf kd : Nat → Nat} {K j : Nat} : ∀ {n : Nat}, j ∈ chn ck kf kd K n → j < n ∧ ck j = K
  | 0, h => absurd h List.not_mem_nil
  | n + 1, h => by
    unfold chn at h
    by_cases q : ck n = K
    · rw [if_pos q] at h
      rcases ins_mem h with rfl | h
      · exact ⟨Nat.lt_succ_self _, q⟩
      · exact ⟨Nat.lt_succ_of_lt (chn_mem h).1, (chn_mem h).2⟩
    · rw [if_neg q] at h
      exact ⟨Nat.lt_succ_of_lt (chn_mem h).1, (chn_mem h).2⟩
theorem rpl_t {kf kd : Nat → Nat} {a b : Nat} : rpl kf kd a b = true ↔ (kf b < kf a ∨ kf b = kf a ∧ kd a < kd b) := by unfold rpl; exact decide_eq_true_iff
/-- where a picked one is picked from all that stand there: the head is what holds -/
theorem ins_find {kf kd : Nat → Nat} {k : Nat} (P : Nat → Bool) : ∀ {L : List Nat}, (∀ b ∈ L, P k = true → P b = true) → (ins kf kd k L).find? P = (match L.find? P with
    | none => if P k = true then some k else none
    | some b => if P k = true ∧ (kf b < kf k ∨ kf b = kf k ∧ kd k < kd b) then some k else some b)
  | [], _ => by
    unfold ins
    cases hp : P k <;> simp [hp]
  | c :: L, h => by
    rw [ins_c]
    by_cases q : rpl kf kd k c = true
    · rw [if_pos q]
      have q' := rpl_t.mp q
      cases hp : P k with
      | false =>
        rw [List.find?_cons_of_neg (by simp [hp])]
        cases (c :: L).find? P <;> simp
      | true =>
        rw [List.find?_cons_of_pos hp, List.find?_cons_of_pos (h c List.mem_cons_self hp)]
        simp [q']
    · rw [if_neg q]
      have q' := mt rpl_t.mpr q
      cases hp : P k with
      | false => cases (c :: L).find? P <;> simp
      | true =>
        rw [List.find?_cons_of_pos (h c List.mem_cons_self hp)]
        simp [q']
/-- what the class looks for -/
def qC (ck cf : Nat → Nat) (K f : Int32) (k : Nat) : Bool := decide (nI (ck k) = K ∧ nI (cf k) ≤ f)
abbrev hC (ck cf cd : Nat → Nat) (nF : Nat) (K f : Int32) : Option Nat := sel (qC ck cf K f) cf cd nF
theorem chn_find {ck cf cd : Nat → Nat} {K : Nat} {f : Int32} (hK : K < 2 ^ 31) (hck : ∀ k, ck k < 2 ^ 31) : ∀ n, (∀ i j, i < j → j < n → nI (cf i) ≤ nI (cf j)) → (chn ck cf cd K n).find? (fun j => decide (nI (cf j) ≤ f)) = hC ck cf cd n (nI K) f
  | 0, _ => rfl
  | n + 1, hm => by
    have ih := chn_find (cf := cf) (cd := cd) (f := f) hK hck n (fun i j hij hj => hm i j hij (Nat.lt_succ_of_lt hj))
    unfold chn
    by_cases h : ck n = K
    · rw [if_pos h, ins_find _ ?_, ih]
      · have hq : qC ck cf (nI K) f n = decide (nI (cf n) ≤ f) := by
          unfold qC
          rw [h]
          simp
        show _ = sel (qC ck cf (nI K) f) cf cd (n + 1)
        rw [show sel (qC ck cf (nI K) f) cf cd (n + 1) = (match sel (qC ck cf (nI K) f) cf cd n with | none => if qC ck cf (nI K) f n = true then some n else none | some b => if qC ck cf (nI K) f n = true ∧ (cf b < cf n ∨ cf b = cf n ∧ cd n < cd b) then some n else some b) from rfl, hq]
      · intro b hb hp
        have h1 := hm b n (chn_mem hb).1 (Nat.lt_succ_self n)
        have h2 : nI (cf n) ≤ f := of_decide_eq_true hp
        refine decide_eq_true ?_
        rw [Int32.le_iff_toInt_le] at h1 h2 ⊢
        omega
    · rw [if_neg h, ih]
      exact (sel_no (by unfold qC; exact decide_eq_false (fun q => h ((nI_eq (hck n) hK).mp q.1)))).symm
/-- a chain of next places is a list -/
def lk (nx : Nat → Option Nat) : Option Nat → List Nat → Prop
  | o, [] => o = none
  | o, b :: L => o = some b ∧ lk nx (nx b) L
/-- every key's chain is in order, and the filings are -/
def chOk (ck cf cd : Nat → Nat) (hd nx : Nat → Option Nat) (nF : Nat) : Prop := (∀ K, K < 480 → lk nx (hd K) (chn ck cf cd K nF)) ∧ ∀ i j, i < j → j < nF → nI (cf i) ≤ nI (cf j)
-- small numbers
def small (x : Int32) : Prop := -1073741824 ≤ x.toInt ∧ x.toInt < 1073741824
theorem abs_far {x y : Int32} (hx : small x) (hy : small y) : (if 0 ≤ x - y then x - y else 0 - (x - y)) = farI x y := by
  obtain ⟨a1, a2⟩ := hx
  obtain ⟨b1, b2⟩ := hy
  have e : (x - y).toInt = x.toInt - y.toInt := by
    rw [Int32.toInt_sub, Int.bmod_eq_of_le (by omega) (by omega)]
  unfold farI
  by_cases h : x < y
  · rw [if_pos h, if_neg]
    · apply Int32.toInt_inj.mp
      rw [Int32.toInt_sub, Int32.toInt_sub, Int32.toInt_sub]
      simp only [Int32.toInt_zero]
      rw [Int.bmod_eq_of_le (n := x.toInt - y.toInt) (by omega) (by omega), Int.bmod_eq_of_le (by omega) (by omega), Int.bmod_eq_of_le (by omega) (by omega)]
      omega
    · rw [Int32.le_iff_toInt_le, e, Int32.toInt_zero]
      rw [Int32.lt_iff_toInt_lt] at h
      omega
  · rw [if_neg h, if_pos]
    rw [Int32.le_iff_toInt_le, e, Int32.toInt_zero]
    rw [Int32.lt_iff_toInt_lt] at h
    omega
theorem p10_lt31 {a : Nat} (h : a ≤ 4) : 10 ^ a < 2 ^ 31 := Nat.lt_of_le_of_lt (Nat.pow_le_pow_right (by decide) h) (by decide)
theorem p10_lt {a b : Nat} (ha : a ≤ 4) (hb : b ≤ 4) : nI (10 ^ a) < nI (10 ^ b) ↔ a < b := by
  rw [nI_ltI (p10_lt31 ha) (p10_lt31 hb)]
  exact Nat.pow_lt_pow_iff_right (by decide)
theorem p10_le {a b : Nat} (ha : a ≤ 4) (hb : b ≤ 4) : nI (10 ^ a) ≤ nI (10 ^ b) ↔ a ≤ b := by
  rw [nI_leI (p10_lt31 ha) (p10_lt31 hb)]
  exact Nat.pow_le_pow_iff_right (by decide)
-- the sums' steps, over the part that holds
theorem sumN_s {par wt : Nat → Int32} {h : Nat → Option Nat} {v : Nat → Int32} {c : Int32} (k : Nat) : sumN par wt h v c (k + 1) = sumN par wt h v c k + (match (if par k = c then h k else none) with | none => 0 | some j => wt k * v j) := by
  unfold sumN
  by_cases hp : par k = c
  · rw [if_pos hp, if_pos hp]; cases k <;> rfl
  · rw [if_neg hp, if_neg hp]; cases k <;> rfl
theorem dbtN_s {par : Nat → Int32} {h : Nat → Option Nat} {d : Nat → Nat} {c : Int32} (k : Nat) : dbtN par h d c (k + 1) = dbtN par h d c k + (match (if par k = c then h k else none) with | none => 0 | some j => nI (10 ^ d j)) := by
  unfold dbtN
  by_cases hp : par k = c
  · rw [if_pos hp, if_pos hp]; cases k <;> rfl
  · rw [if_neg hp, if_neg hp]; cases k <;> rfl
theorem cntN_s {par : Nat → Int32} {h : Nat → Option Nat} {c : Int32} (k : Nat) : cntN par h c (k + 1) = cntN par h c k + (match (if par k = c then h k else none) with | none => 0 | some _ => 1) := by
  unfold cntN
  by_cases hp : par k = c
  · rw [if_pos hp, if_pos hp]; cases k <;> rfl
  · rw [if_neg hp, if_neg hp]; cases k <;> rfl
-- bounds
def vOk (x : Int32) : Prop := -1000000 ≤ x.toInt ∧ x.toInt ≤ 1000000
def wOk (x : Int32) : Prop := x = 1 ∨ x = -1 ∨ x = 0
theorem vOk.small {x : Int32} (h : vOk x) : small x := ⟨by have := h.1; omega, by have := h.2; omega⟩
theorem add_b {x y : Int32} {a b : Int} (hx : -a ≤ x.toInt ∧ x.toInt ≤ a) (hy : -b ≤ y.toInt ∧ y.toInt ≤ b) (hab : a + b < 1073741824) : -(a + b) ≤ (x + y).toInt ∧ (x + y).toInt ≤ a + b := by
  rw [Int32.toInt_add, Int.bmod_eq_of_le (by omega) (by omega)]
  omega
theorem wv_b {w x : Int32} (hw : wOk w) (hx : vOk x) : -1000000 ≤ (w * x).toInt ∧ (w * x).toInt ≤ 1000000 := by
  obtain ⟨h1, h2⟩ := hx
  rcases hw with rfl | rfl | rfl
  · rw [Int32.one_mul]; exact ⟨h1, h2⟩
  · rw [Int32.toInt_mul, show (-1 : Int32).toInt = -1 by decide, Int.bmod_eq_of_le (by omega) (by omega)]
    omega
  · rw [Int32.zero_mul, Int32.toInt_zero]; omega
theorem sumN_b {par wt : Nat → Int32} {h : Nat → Option Nat} {v : Nat → Int32} {c : Int32} (hw : ∀ k, wOk (wt k)) (hv : ∀ k, vOk (v k)) : ∀ {n : Nat}, n ≤ 12 → -((n : Int) * 1000000) ≤ (sumN par wt h v c n).toInt ∧ (sumN par wt h v c n).toInt ≤ (n : Int) * 1000000
  | 0, _ => by simp [sumN]
  | n + 1, hn => by
    have ih := sumN_b (par := par) (h := h) (c := c) hw hv (n := n) (by omega)
    rw [sumN_s]
    have e : ((n + 1 : Nat) : Int) * 1000000 = (n : Int) * 1000000 + 1000000 := by omega
    rw [e]
    refine add_b ih ?_ (by omega)
    cases (if par n = c then h n else none) with
    | none => simp
    | some j => exact wv_b (hw n) (hv j)
theorem sumN_small {par wt : Nat → Int32} {h : Nat → Option Nat} {v : Nat → Int32} {c : Int32} (hw : ∀ k, wOk (wt k)) (hv : ∀ k, vOk (v k)) {n : Nat} (hn : n ≤ 12) : small (sumN par wt h v c n) := by
  have := sumN_b (par := par) (h := h) (c := c) hw hv hn
  unfold small
  omega
theorem mSum_b {h : Nat → Option Nat} {v : Nat → Int32} (hv : ∀ k, vOk (v k)) : ∀ {n : Nat}, n ≤ 12 → -((n : Int) * 1000000) ≤ (mSum h v n).toInt ∧ (mSum h v n).toInt ≤ (n : Int) * 1000000
  | 0, _ => by simp [mSum]
  | n + 1, hn => by
    have ih := mSum_b (h := h) hv (n := n) (by omega)
    unfold mSum
    have e : ((n + 1 : Nat) : Int) * 1000000 = (n : Int) * 1000000 + 1000000 := by omega
    rw [e]
    refine add_b ih ?_ (by omega)
    by_cases h0 : n = 0
    · rw [if_pos h0]; simp
    · rw [if_neg h0]
      cases h n with
      | none => simp
      | some j => exact hv j
theorem mSum_small {h : Nat → Option Nat} {v : Nat → Int32} (hv : ∀ k, vOk (v k)) {n : Nat} (hn : n ≤ 12) : small (mSum h v n) := by
  have := mSum_b (h := h) hv hn
  unfold small
  omega
theorem add_small {x y : Int32} (hx : vOk x) (hy : vOk y) : small (x + y) := by
  have := add_b (a := 1000000) (b := 1000000) hx hy (by decide)
  unfold small
  omega
/-- what a filing tells anew -/
def rstB (f : Int32) (now before : Option Nat) (cf : Nat → Nat) (cv : Nat → Int32) : Bool := match now with
  | none => false
  | some j => decide (nI (cf j) = f) && (match before with
    | none => false
    | some i => decide (cv i ≠ cv j))
/-- the faults of the key c, p, m, as the class counts them; h: what holds, by the key's number -/
def fltA (nC nR : Nat) (par wt : Nat → Int32) (sk fk : Nat → Nat) (h : Nat → Option Nat) (d : Nat → Nat) (v : Nat → Int32) (c p m : Nat) : Int32 :=
  bI (sumOff nC par wt (fun k => h (k * 40 + p * 4 + m)) d v (nI c) (h (c * 40 + p * 4 + m)) = true) + (if m = 0 then bI (memOff (fun q => h (c * 40 + p * 4 + q)) d v = true) else 0) +
  sT (fun r => if sk r = c then bI (rollOff (nI p) (h (sk r * 40 + p * 4 + m)) (h (sk r * 40 + (p - 1) * 4 + m)) (h (fk r * 40 + p * 4 + m)) d v = true) else 0) nR
theorem mAll_at {h : Nat → Option Nat} : ∀ {n k : Nat}, mAll h n = true → k < n → (h k).isSome = true
  | n + 1, k, ha, hk => by
    rw [show mAll h (n + 1) = (mAll h n && (h n).isSome) from rfl, Bool.and_eq_true] at ha
    rcases Nat.lt_succ_iff_lt_or_eq.mp hk with q | q
    · exact mAll_at ha.1 q
    · rw [q]; exact ha.2
theorem nI_sub1 {p : Nat} (h : 0 < p) : nI p - 1 = nI (p - 1) := by
  obtain ⟨k, rfl⟩ : ∃ k, p = k + 1 := ⟨p - 1, by omega⟩
  exact nI_pred k
