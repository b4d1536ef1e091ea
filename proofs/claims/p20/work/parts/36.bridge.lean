-- WHERE BOTH COUNT THE SAME
theorem sT_zero {g : Nat → Int32} : ∀ {n : Nat}, (∀ k, k < n → g k = 0) → sT g n = 0
  | 0, _ => rfl
  | n + 1, h => by
    unfold sT
    rw [sT_zero (fun k hk => h k (Nat.lt_succ_of_lt hk)), h n (Nat.lt_succ_self n)]
    exact Int32.add_zero _
theorem sT_add {f g : Nat → Int32} : ∀ n, sT (fun k => f k + g k) n = sT f n + sT g n
  | 0 => rfl
  | n + 1 => by
    show sT (fun k => f k + g k) n + (f n + g n) = (sT f n + f n) + (sT g n + g n)
    rw [sT_add n, Int32.add_assoc, Int32.add_assoc, ← Int32.add_assoc (sT g n), Int32.add_comm (sT g n) (f n), Int32.add_assoc (f n)]
theorem sT_swap {f : Nat → Nat → Int32} {m : Nat} : ∀ n, sT (fun i => sT (fun j => f i j) m) n = sT (fun j => sT (fun i => f i j) n) m
  | 0 => (sT_zero (fun _ _ => rfl)).symm
  | n + 1 => by
    show sT (fun i => sT (fun j => f i j) m) n + sT (fun j => f n j) m = _
    rw [sT_swap n, ← sT_add]
    rfl
theorem sT_single {g : Nat → Int32} {j : Nat} : ∀ {n : Nat}, j < n → (∀ k, k < n → k ≠ j → g k = 0) → sT g n = g j
  | 0, h, _ => absurd h (Nat.not_lt_zero _)
  | n + 1, h, h0 => by
    show sT g n + g n = g j
    rcases Nat.lt_succ_iff_lt_or_eq.mp h with q | q
    · rw [sT_single q (fun k hk hn => h0 k (Nat.lt_succ_of_lt hk) hn), h0 n (Nat.lt_succ_self n) (by omega)]
      exact Int32.add_zero _
    · subst q
      rw [sT_zero (fun k hk => h0 k (Nat.lt_succ_of_lt hk) (by omega))]
      exact Int32.zero_add _
theorem sT_app {g : Nat → Int32} {a : Nat} : ∀ b, sT g (a + b) = sT g a + sT (fun j => g (a + j)) b
  | 0 => (Int32.add_zero _).symm
  | b + 1 => by
    show sT g (a + b) + g (a + b) = sT g a + (sT (fun j => g (a + j)) b + g (a + b))
    rw [sT_app b, Int32.add_assoc]
theorem sT_mul {g : Nat → Int32} {b : Nat} : ∀ a, sT g (a * b) = sT (fun i => sT (fun j => g (i * b + j)) b) a
  | 0 => by rw [Nat.zero_mul]; rfl
  | a + 1 => by
    rw [Nat.succ_mul, sT_app, sT_mul a]
    rfl
/-- the keys' sum is that of the facts that hold -/
theorem sT_keys {N nF : Nat} {ck : Nat → Nat} {h : Nat → Option Nat} {g : Nat → Nat → Int32} (hh : ∀ K k, h K = some k → k < nF ∧ ck k = K) (hN : ∀ k, k < nF → ck k < N) :
    sT (fun K => match h K with | none => 0 | some k => g K k) N = sT (fun k => if h (ck k) = some k then g (ck k) k else 0) nF := by
  have e1 : ∀ K, K < N → (match h K with | none => 0 | some k => g K k) = sT (fun k => if h K = some k then g K k else 0) nF := by
    intro K _
    cases hK : h K with
    | none => exact (sT_zero (fun k _ => if_neg (fun z => nomatch z))).symm
    | some k =>
      show g K k = _
      rw [sT_single (j := k) (hh K k hK).1 (fun i _ hi => if_neg (fun z => hi (Option.some.inj z).symm)), if_pos rfl]
  have e2 : ∀ k, k < nF → sT (fun K => if h K = some k then g K k else 0) N = (if h (ck k) = some k then g (ck k) k else 0) := by
    intro k hk
    exact sT_single (g := fun K => if h K = some k then g K k else 0) (hN k hk) (fun K _ hK => if_neg (fun z => hK (hh K k z).2.symm))
  rw [sT_congr e1, sT_swap, sT_congr e2]
-- what holds, by either key
section
variable {mc mp mm mf md : Nat → Nat} {nF : Nat}
theorem hMC (h1 : ∀ k, mc k < 12) (h2 : ∀ k, mp k < 10) (h3 : ∀ k, mm k < 4) {c p m : Nat} {f : Int32} (hc : c < 12) (hp : p < 10) (hm : m < 4) :
    hM mc mp mm mf md nF (nI c) (nI p) (nI m) f = hC (fun k => mc k * 40 + mp k * 4 + mm k) mf md nF (nI (c * 40 + p * 4 + m)) f := by
  refine sel_congr (fun k _ => ⟨?_, rfl, rfl⟩)
  have a1 := h1 k
  have a2 := h2 k
  have a3 := h3 k
  unfold qM qC
  apply decide_eq_decide.mpr
  dsimp only
  rw [nI_eq (by omega) (by omega), nI_eq (by omega) (by omega), nI_eq (by omega) (by omega), nI_eq (by omega) (by omega)]
  constructor
  · rintro ⟨e1, e2, e3, e4⟩
    exact ⟨by rw [e1, e2, e3], e4⟩
  · rintro ⟨e1, e4⟩
    exact ⟨by omega, by omega, by omega, e4⟩
end
theorem hC_at {ck cf cd : Nat → Nat} {nF K k : Nat} {f : Int32} (hck : ∀ k, ck k < 480) (hK : K < 480) (h : hC ck cf cd nF (nI K) f = some k) : k < nF ∧ ck k = K := by
  obtain ⟨h1, h2⟩ := sel_lt h
  unfold qC at h2
  have := (of_decide_eq_true h2).1
  exact ⟨h1, (nI_eq (by have := hck k; omega) (by omega)).mp this⟩
theorem hC_f {ck cf cd : Nat → Nat} {nF k : Nat} {K f : Int32} (h : hC ck cf cd nF K f = some k) : nI (cf k) ≤ f := by
  have h2 := (sel_lt h).2
  unfold qC at h2
  exact (of_decide_eq_true h2).2
theorem sumN_congr {par wt : Nat → Int32} {h h' : Nat → Option Nat} {v : Nat → Int32} {c : Int32} : ∀ {n : Nat}, (∀ k, k < n → h k = h' k) → sumN par wt h v c n = sumN par wt h' v c n
  | 0, _ => rfl
  | n + 1, he => by rw [sumN_s, sumN_s, sumN_congr (fun k hk => he k (Nat.lt_succ_of_lt hk)), he n (Nat.lt_succ_self n)]
theorem dbtN_congr {par : Nat → Int32} {h h' : Nat → Option Nat} {d : Nat → Nat} {c : Int32} : ∀ {n : Nat}, (∀ k, k < n → h k = h' k) → dbtN par h d c n = dbtN par h' d c n
  | 0, _ => rfl
  | n + 1, he => by rw [dbtN_s, dbtN_s, dbtN_congr (fun k hk => he k (Nat.lt_succ_of_lt hk)), he n (Nat.lt_succ_self n)]
theorem cntN_congr {par : Nat → Int32} {h h' : Nat → Option Nat} {c : Int32} : ∀ {n : Nat}, (∀ k, k < n → h k = h' k) → cntN par h c n = cntN par h' c n
  | 0, _ => rfl
  | n + 1, he => by rw [cntN_s, cntN_s, cntN_congr (fun k hk => he k (Nat.lt_succ_of_lt hk)), he n (Nat.lt_succ_self n)]
theorem sumOff_congr {nC : Nat} {par wt : Nat → Int32} {h h' : Nat → Option Nat} {d : Nat → Nat} {v : Nat → Int32} {c : Int32} {o o' : Option Nat} (he : ∀ k, k < nC → h k = h' k) (ho : o = o') : sumOff nC par wt h d v c o = sumOff nC par wt h' d v c o' := by
  subst ho
  unfold sumOff
  rw [sumN_congr he, dbtN_congr he, cntN_congr he]
theorem mAll_congr {h h' : Nat → Option Nat} : ∀ {n : Nat}, (∀ k, k < n → h k = h' k) → mAll h n = mAll h' n
  | 0, _ => rfl
  | n + 1, he => by
    show (mAll h n && (h n).isSome) = (mAll h' n && (h' n).isSome)
    rw [mAll_congr (fun k hk => he k (Nat.lt_succ_of_lt hk)), he n (Nat.lt_succ_self n)]
theorem mSum_congr {h h' : Nat → Option Nat} {v : Nat → Int32} : ∀ {n : Nat}, (∀ k, k < n → h k = h' k) → mSum h v n = mSum h' v n
  | 0, _ => rfl
  | n + 1, he => by
    show mSum h v n + (if n = 0 then 0 else (match h n with | none => 0 | some j => v j)) = mSum h' v n + (if n = 0 then 0 else (match h' n with | none => 0 | some j => v j))
    rw [mSum_congr (fun k hk => he k (Nat.lt_succ_of_lt hk)), he n (Nat.lt_succ_self n)]
theorem mDbt_congr {h h' : Nat → Option Nat} {d : Nat → Nat} : ∀ {n : Nat}, (∀ k, k < n → h k = h' k) → mDbt h d n = mDbt h' d n
  | 0, _ => rfl
  | n + 1, he => by
    show mDbt h d n + (match h n with | none => 0 | some j => nI (10 ^ d j)) = mDbt h' d n + (match h' n with | none => 0 | some j => nI (10 ^ d j))
    rw [mDbt_congr (fun k hk => he k (Nat.lt_succ_of_lt hk)), he n (Nat.lt_succ_self n)]
theorem memOff_congr {h h' : Nat → Option Nat} {d : Nat → Nat} {v : Nat → Int32} (he : ∀ k, k < 4 → h k = h' k) : memOff h d v = memOff h' d v := by
  unfold memOff
  rw [mAll_congr he, mSum_congr he, mDbt_congr he, he 0 (by decide)]
theorem rollOff_0 {now before flow : Option Nat} {d : Nat → Nat} {v : Nat → Int32} : rollOff (nI 0) now before flow d v = false := by
  unfold rollOff
  split
  · rfl
  · rfl
theorem rollOff_n {p : Int32} {before flow : Option Nat} {d : Nat → Nat} {v : Nat → Int32} : rollOff p none before flow d v = false := rfl
-- what may be asked for
theorem cOk9 {x : Int32} : (0 ≤ x ∧ x ≤ 9) ↔ cOk 10 x := by
  have := cOk_iff (n := 10) (x := x) (by decide)
  rwa [show nI 10 - 1 = 9 by decide] at this
theorem cOk3 {x : Int32} : (0 ≤ x ∧ x ≤ 3) ↔ cOk 4 x := by
  have := cOk_iff (n := 4) (x := x) (by decide)
  rwa [show nI 4 - 1 = 3 by decide] at this
theorem cOk4 {x : Int32} : (0 ≤ x ∧ x ≤ 4) ↔ cOk 5 x := by
  have := cOk_iff (n := 5) (x := x) (by decide)
  rwa [show nI 5 - 1 = 4 by decide] at this
theorem key_iff {nC : Nat} {ci pi mi : Int32} (hC : nC ≤ 12) : ((0 ≤ ci ∧ ci ≤ nI nC - 1) ∧ (0 ≤ pi ∧ pi ≤ 9) ∧ (0 ≤ mi ∧ mi ≤ 3)) ↔ (cOk nC ci ∧ cOk 10 pi ∧ cOk 4 mi) := by
  rw [cOk_iff (by omega), cOk9, cOk3]
theorem ask_iff {nC nL : Nat} {ci pi mi fi : Int32} (hC : nC ≤ 12) (hL : nL < 8) : (((0 ≤ ci ∧ ci ≤ nI nC - 1) ∧ (0 ≤ pi ∧ pi ≤ 9) ∧ (0 ≤ mi ∧ mi ≤ 3)) ∧ (0 ≤ fi ∧ fi ≤ nI (nL + 1) - 1)) ↔ ((cOk nC ci ∧ cOk 10 pi ∧ cOk 4 mi) ∧ cOk (nL + 1) fi) := by
  rw [key_iff hC, cOk_iff (by omega)]
theorem kV_ask {nC nL : Nat} {ci pi mi fi : Int32} {c p m f : Nat} (hC : nC ≤ 12) (hL : nL < 8) (h : kV nC nL ci pi mi fi c p m f) : (((0 ≤ ci ∧ ci ≤ nI nC - 1) ∧ (0 ≤ pi ∧ pi ≤ 9) ∧ (0 ≤ mi ∧ mi ≤ 3)) ∧ (0 ≤ fi ∧ fi ≤ nI (nL + 1) - 1)) :=
  (ask_iff hC hL).mpr ⟨⟨⟨c, h.1⟩, ⟨p, h.2.1⟩, ⟨m, h.2.2.1⟩⟩, ⟨f, h.2.2.2⟩⟩
theorem kNo_ask {nC nL : Nat} {ci pi mi fi : Int32} (hC : nC ≤ 12) (hL : nL < 8) (h : kNo nC nL ci pi mi fi) : ¬ (((0 ≤ ci ∧ ci ≤ nI nC - 1) ∧ (0 ≤ pi ∧ pi ≤ 9) ∧ (0 ≤ mi ∧ mi ≤ 3)) ∧ (0 ≤ fi ∧ fi ≤ nI (nL + 1) - 1)) := mt (ask_iff hC hL).mp h
-- the three sums
section
variable {mc mp mm mf md : Nat → Nat} {mv : Nat → Int32} {nF nC nR : Nat}
theorem dis_eq (h1 : ∀ k, mc k < 12) (h2 : ∀ k, mp k < 10) (h3 : ∀ k, mm k < 4) {f : Nat} (h4 : ∀ k, mf k < 8) (hf : f < 8) : sT (fun k => if nI (mf k) = nI f then sT (fun j => bI (nI (mf k) = nI (mf j) ∧ nI (mc k * 40 + mp k * 4 + mm k) = nI (mc j * 40 + mp j * 4 + mm j) ∧ nI (10 ^ md k) + nI (10 ^ md j) < 2 * farI (mv k) (mv j))) k else 0) nF =
    sT (fun k => sT (fun j => bI (nI (mf k) = nI f ∧ nI (mf j) = nI f ∧ (nI (mc j) = nI (mc k) ∧ nI (mp j) = nI (mp k) ∧ nI (mm j) = nI (mm k)) ∧ nI (10 ^ md k) + nI (10 ^ md j) < 2 * farI (mv k) (mv j))) k) nF := by
  refine sT_congr (fun k _ => ?_)
  by_cases hk : nI (mf k) = nI f
  · rw [if_pos hk]
    refine sT_congr (fun j _ => bI_congr ?_)
    have a1 := h1 k; have a2 := h2 k; have a3 := h3 k
    have b1 := h1 j; have b2 := h2 j; have b3 := h3 j
    rw [hk, nI_eq (a := mc k * 40 + mp k * 4 + mm k) (by omega) (by omega), nI_eq (a := mc j) (by omega) (by omega), nI_eq (a := mp j) (by omega) (by omega), nI_eq (a := mm j) (by omega) (by omega)]
    constructor
    · rintro ⟨e1, e2, e3⟩
      exact ⟨rfl, e1.symm, ⟨by omega, by omega, by omega⟩, e3⟩
    · rintro ⟨-, e1, ⟨e2, e3, e4⟩, e5⟩
      exact ⟨e1.symm, by rw [e2, e3, e4], e5⟩
  · rw [if_neg hk]
    exact (sT_zero (fun j _ => (bI_f (fun z => hk z.1)).symm)).symm
theorem rst_eq (h1 : ∀ k, mc k < 12) (h2 : ∀ k, mp k < 10) (h3 : ∀ k, mm k < 4) (h7 : ∀ k, k < nF → mc k < nC) {f : Int32} (hC12 : nC ≤ 12) : sT (fun K => bI (rstB f (hC (fun k => mc k * 40 + mp k * 4 + mm k) mf md nF (nI K) f) (hC (fun k => mc k * 40 + mp k * 4 + mm k) mf md nF (nI K) (f - 1)) mf mv = true)) (nC * 40) =
    sT (fun k => bI (((decide (nI (mf k) = f) && decide (hM mc mp mm mf md nF (nI (mc k)) (nI (mp k)) (nI (mm k)) f = some k)) && (match hM mc mp mm mf md nF (nI (mc k)) (nI (mp k)) (nI (mm k)) (f - 1) with | none => false | some b => decide (mv b ≠ mv k))) = true)) nF := by
  have hck : ∀ k, mc k * 40 + mp k * 4 + mm k < 480 := fun k => by have := h1 k; have := h2 k; have := h3 k; omega
  have e1 : ∀ K, K < nC * 40 → bI (rstB f (hC (fun k => mc k * 40 + mp k * 4 + mm k) mf md nF (nI K) f) (hC (fun k => mc k * 40 + mp k * 4 + mm k) mf md nF (nI K) (f - 1)) mf mv = true) =
      (match (fun K => if K < 480 then hC (fun k => mc k * 40 + mp k * 4 + mm k) mf md nF (nI K) f else none) K with | none => 0 | some k => bI ((decide (nI (mf k) = f) && (match hC (fun k => mc k * 40 + mp k * 4 + mm k) mf md nF (nI K) (f - 1) with | none => false | some b => decide (mv b ≠ mv k))) = true)) := by
    intro K hK
    dsimp only
    rw [if_pos (by omega)]
    cases hC (fun k => mc k * 40 + mp k * 4 + mm k) mf md nF (nI K) f with
    | none => rfl
    | some k => rfl
  rw [sT_congr e1, sT_keys (ck := fun k => mc k * 40 + mp k * 4 + mm k) (nF := nF) (g := fun K k => bI ((decide (nI (mf k) = f) && (match hC (fun k => mc k * 40 + mp k * 4 + mm k) mf md nF (nI K) (f - 1) with | none => false | some b => decide (mv b ≠ mv k))) = true)) (fun K k hk => ?_) (fun k hk => ?_)]
  · refine sT_congr (fun k hk => ?_)
    rw [hMC h1 h2 h3 (h1 k) (h2 k) (h3 k), hMC h1 h2 h3 (h1 k) (h2 k) (h3 k), if_pos (hck k)]
    by_cases q : hC (fun k => mc k * 40 + mp k * 4 + mm k) mf md nF (nI (mc k * 40 + mp k * 4 + mm k)) f = some k
    · rw [if_pos q, decide_eq_true q, Bool.and_true]
    · rw [if_neg q, decide_eq_false q, Bool.and_false, Bool.false_and]
      rfl
  · by_cases q : K < 480
    · rw [if_pos q] at hk; exact hC_at hck q hk
    · rw [if_neg q] at hk; cases hk
  · have := h7 k hk; have := h2 k; have := h3 k
    show mc k * 40 + mp k * 4 + mm k < nC * 40
    omega
end
section
variable {nC nR : Nat} {par wt : Nat → Int32} {sk fk : Nat → Nat} {h : Nat → Option Nat} {d : Nat → Nat} {v : Nat → Int32}
theorem flt_none {c p m : Nat} (hn : h (c * 40 + p * 4 + m) = none) : fltA nC nR par wt sk fk h d v c p m = 0 := by
  unfold fltA
  have e1 : bI (sumOff nC par wt (fun k => h (k * 40 + p * 4 + m)) d v (nI c) (h (c * 40 + p * 4 + m)) = true) = 0 := by rw [hn]; exact (bI_f (fun z => nomatch z)).symm
  have e2 : (if m = 0 then bI (memOff (fun q => h (c * 40 + p * 4 + q)) d v = true) else 0) = 0 := by
    by_cases q : m = 0
    · rw [if_pos q]
      subst q
      have : memOff (fun q => h (c * 40 + p * 4 + q)) d v = false := by
        unfold memOff
        dsimp only
        rw [hn]
      rw [this]; rfl
    · rw [if_neg q]
  have e3 : sT (fun r => if sk r = c then bI (rollOff (nI p) (h (sk r * 40 + p * 4 + m)) (h (sk r * 40 + (p - 1) * 4 + m)) (h (fk r * 40 + p * 4 + m)) d v = true) else 0) nR = 0 := by
    refine sT_zero (fun r _ => ?_)
    by_cases q : sk r = c
    · rw [if_pos q, q, hn]; rfl
    · rw [if_neg q]
  rw [e1, e2, e3]
  rfl
/-- the faults of all keys, one by one -/
theorem flt_keys (hsk : ∀ r, r < nR → sk r < nC) : sT (fun K => fltA nC nR par wt sk fk h d v (K / 40) (K / 4 % 10) (K % 4)) (nC * 40) =
    sT (fun p => sT (fun c => bI (memOff (fun q => h (c * 40 + p * 4 + q)) d v = true) + sT (fun m => bI (sumOff nC par wt (fun k => h (k * 40 + p * 4 + m)) d v (nI c) (h (c * 40 + p * 4 + m)) = true)) 4) nC
      + sT (fun r => sT (fun m => bI (rollOff (nI p) (h (sk r * 40 + p * 4 + m)) (h (sk r * 40 + (p - 1) * 4 + m)) (h (fk r * 40 + p * 4 + m)) d v = true)) 4) nR) 10 := by
  rw [sT_mul]
  have e1 : ∀ c, c < nC → sT (fun j => fltA nC nR par wt sk fk h d v ((c * 40 + j) / 40) ((c * 40 + j) / 4 % 10) ((c * 40 + j) % 4)) 40 = sT (fun p => sT (fun m => fltA nC nR par wt sk fk h d v c p m) 4) 10 := by
    intro c _
    rw [show (40 : Nat) = 10 * 4 from rfl, sT_mul]
    refine sT_congr (fun p hp => sT_congr (fun m hm => ?_))
    rw [show (c * (10 * 4) + (p * 4 + m)) / (10 * 4) = c by omega, show (c * (10 * 4) + (p * 4 + m)) / 4 % 10 = p by omega, show (c * (10 * 4) + (p * 4 + m)) % 4 = m by omega]
  rw [sT_congr e1, sT_swap]
  refine sT_congr (fun p _ => ?_)
  have e2 : ∀ c, c < nC → sT (fun m => fltA nC nR par wt sk fk h d v c p m) 4 =
      (bI (memOff (fun q => h (c * 40 + p * 4 + q)) d v = true) + sT (fun m => bI (sumOff nC par wt (fun k => h (k * 40 + p * 4 + m)) d v (nI c) (h (c * 40 + p * 4 + m)) = true)) 4)
      + sT (fun r => if sk r = c then sT (fun m => bI (rollOff (nI p) (h (sk r * 40 + p * 4 + m)) (h (sk r * 40 + (p - 1) * 4 + m)) (h (fk r * 40 + p * 4 + m)) d v = true)) 4 else 0) nR := by
    intro c _
    unfold fltA
    rw [sT_add, sT_add, sT_single (g := fun m => if m = 0 then bI (memOff (fun q => h (c * 40 + p * 4 + q)) d v = true) else 0) (j := 0) (by decide) (fun k _ hk => if_neg hk), if_pos rfl, Int32.add_comm (sT _ 4) (bI _), sT_swap]
    congr 1
    refine sT_congr (fun r _ => ?_)
    by_cases q : sk r = c
    · rw [if_pos q]
      exact sT_congr (fun m _ => if_pos q)
    · rw [if_neg q]
      exact sT_zero (fun m _ => if_neg q)
  rw [sT_congr e2, sT_add]
  congr 1
  rw [sT_swap]
  refine sT_congr (fun r hr => ?_)
  rw [sT_single (g := fun c => if sk r = c then sT (fun m => bI (rollOff (nI p) (h (sk r * 40 + p * 4 + m)) (h (sk r * 40 + (p - 1) * 4 + m)) (h (fk r * 40 + p * 4 + m)) d v = true)) 4 else 0) (hsk r hr) (fun c _ hc => if_neg (fun z => hc z.symm)), if_pos rfl]
end
section
variable {mc mp mm mf md : Nat → Nat} {mv : Nat → Int32} {nF nC nR : Nat} {par wt : Nat → Int32} {sk fk : Nat → Nat} {f : Int32}
/-- the reference's sum is the keys' -/
theorem mFlt_eq (h1 : ∀ k, mc k < 12) (h2 : ∀ k, mp k < 10) (h3 : ∀ k, mm k < 4) (hC12 : nC ≤ 12) (hsk12 : ∀ r, sk r < 12) (hfk12 : ∀ r, fk r < 12) (hskC : ∀ r, r < nR → sk r < nC) : mFlt nC nR par wt (fun r => nI (sk r)) (fun r => nI (fk r)) (fun c p m => hM mc mp mm mf md nF c p m f) md mv =
    sT (fun K => fltA nC nR par wt sk fk (fun K => hC (fun k => mc k * 40 + mp k * 4 + mm k) mf md nF (nI K) f) md mv (K / 40) (K / 4 % 10) (K % 4)) (nC * 40) := by
  rw [flt_keys hskC]
  unfold mFlt
  refine sT_congr (fun p hp => ?_)
  have hh : ∀ c m, c < 12 → m < 4 → hM mc mp mm mf md nF (nI c) (nI p) (nI m) f = hC (fun k => mc k * 40 + mp k * 4 + mm k) mf md nF (nI (c * 40 + p * 4 + m)) f := fun c m hc hm => hMC h1 h2 h3 hc hp hm
  have e1 : ∀ c, c < nC → bI (memOff (fun m => hM mc mp mm mf md nF (nI c) (nI p) (nI m) f) md mv = true) + sT (fun m => bI (sumOff nC par wt (fun j => hM mc mp mm mf md nF (nI j) (nI p) (nI m) f) md mv (nI c) (hM mc mp mm mf md nF (nI c) (nI p) (nI m) f) = true)) 4 =
      bI (memOff (fun q => hC (fun k => mc k * 40 + mp k * 4 + mm k) mf md nF (nI (c * 40 + p * 4 + q)) f) md mv = true) + sT (fun m => bI (sumOff nC par wt (fun k => hC (fun k => mc k * 40 + mp k * 4 + mm k) mf md nF (nI (k * 40 + p * 4 + m)) f) md mv (nI c) (hC (fun k => mc k * 40 + mp k * 4 + mm k) mf md nF (nI (c * 40 + p * 4 + m)) f) = true)) 4 := by
    intro c hc
    rw [memOff_congr (fun m hm => hh c m (by omega) hm)]
    congr 1
    refine sT_congr (fun m hm => ?_)
    rw [sumOff_congr (fun k hk => hh k m (by omega) hm) (hh c m (by omega) hm)]
  rw [sT_congr e1, Nat.mul_comm 4 nR, sT_mul]
  congr 1
  refine sT_congr (fun r _ => sT_congr (fun m hm => ?_))
  dsimp only
  rw [show (r * 4 + m) / 4 = r by omega, show (r * 4 + m) % 4 = m by omega]
  by_cases q : p = 0
  · subst q
    rw [rollOff_0, rollOff_0]
  · refine bI_congr ?_
    rw [hh _ m (hsk12 r) hm, hh _ m (hfk12 r) hm, nI_sub1 (by omega), hMC h1 h2 h3 (hsk12 r) (show p - 1 < 10 by omega) hm]
theorem flt_class (h1 : ∀ k, mc k < 12) (h2 : ∀ k, mp k < 10) (h3 : ∀ k, mm k < 4) (hC12 : nC ≤ 12) (hsk12 : ∀ r, sk r < 12) (hfk12 : ∀ r, fk r < 12) (hskC : ∀ r, r < nR → sk r < nC) : sT (fun k => if (hC (fun k => mc k * 40 + mp k * 4 + mm k) mf md nF (nI k) f).isSome = true then fltA nC nR par wt sk fk (fun K => hC (fun k => mc k * 40 + mp k * 4 + mm k) mf md nF (nI K) f) md mv (k / 40) (k / 4 % 10) (k % 4) else 0) (nC * 40) =
    mFlt nC nR par wt (fun r => nI (sk r)) (fun r => nI (fk r)) (fun c p m => hM mc mp mm mf md nF c p m f) md mv := by
  rw [mFlt_eq h1 h2 h3 hC12 hsk12 hfk12 hskC]
  refine sT_congr (fun K hK => ?_)
  by_cases q : (hC (fun k => mc k * 40 + mp k * 4 + mm k) mf md nF (nI K) f).isSome = true
  · rw [if_pos q]
  · rw [if_neg q]
    refine (flt_none ?_).symm
    show hC (fun k => mc k * 40 + mp k * 4 + mm k) mf md nF (nI (K / 40 * 40 + K / 4 % 10 * 4 + K % 4)) f = none
    rw [show K / 40 * 40 + K / 4 % 10 * 4 + K % 4 = K by omega]
    simpa using q
theorem flt_list (h1 : ∀ k, mc k < 12) (h2 : ∀ k, mp k < 10) (h3 : ∀ k, mm k < 4) (hC12 : nC ≤ 12) (hsk12 : ∀ r, sk r < 12) (hfk12 : ∀ r, fk r < 12) (hskC : ∀ r, r < nR → sk r < nC) (h7 : ∀ k, k < nF → mc k < nC) : sT (fun k => if hC (fun k => mc k * 40 + mp k * 4 + mm k) mf md nF (nI (mc k * 40 + mp k * 4 + mm k)) f = some k then fltA nC nR par wt sk fk (fun K => hC (fun k => mc k * 40 + mp k * 4 + mm k) mf md nF (nI K) f) md mv ((mc k * 40 + mp k * 4 + mm k) / 40) ((mc k * 40 + mp k * 4 + mm k) / 4 % 10) ((mc k * 40 + mp k * 4 + mm k) % 4) else 0) nF =
    mFlt nC nR par wt (fun r => nI (sk r)) (fun r => nI (fk r)) (fun c p m => hM mc mp mm mf md nF c p m f) md mv := by
  have hck : ∀ k, mc k * 40 + mp k * 4 + mm k < 480 := fun k => by have := h1 k; have := h2 k; have := h3 k; omega
  rw [← flt_class h1 h2 h3 hC12 hsk12 hfk12 hskC]
  have e1 : ∀ K, K < nC * 40 → (if (hC (fun k => mc k * 40 + mp k * 4 + mm k) mf md nF (nI K) f).isSome = true then fltA nC nR par wt sk fk (fun K => hC (fun k => mc k * 40 + mp k * 4 + mm k) mf md nF (nI K) f) md mv (K / 40) (K / 4 % 10) (K % 4) else 0) =
      (match (fun K => if K < 480 then hC (fun k => mc k * 40 + mp k * 4 + mm k) mf md nF (nI K) f else none) K with | none => 0 | some k => fltA nC nR par wt sk fk (fun K => hC (fun k => mc k * 40 + mp k * 4 + mm k) mf md nF (nI K) f) md mv (K / 40) (K / 4 % 10) (K % 4)) := by
    intro K hK
    dsimp only
    rw [if_pos (show K < 480 by omega)]
    cases hC (fun k => mc k * 40 + mp k * 4 + mm k) mf md nF (nI K) f with
    | none => rfl
    | some k => rfl
  rw [sT_congr e1, sT_keys (ck := fun k => mc k * 40 + mp k * 4 + mm k) (nF := nF) (g := fun K _ => fltA nC nR par wt sk fk (fun K => hC (fun k => mc k * 40 + mp k * 4 + mm k) mf md nF (nI K) f) md mv (K / 40) (K / 4 % 10) (K % 4)) (fun K k hk => ?_) (fun k hk => ?_)]
  · refine sT_congr (fun k hk => ?_)
    rw [if_pos (hck k)]
  · by_cases q : K < 480
    · rw [if_pos q] at hk; exact hC_at hck q hk
    · rw [if_neg q] at hk; cases hk
  · have := h7 k hk; have := h2 k; have := h3 k
    show mc k * 40 + mp k * 4 + mm k < nC * 40
    omega
end
