-- WHAT A STATE IS: the class's cells, the reference's cells, and the numbers behind them
/-- a place or NONE -/
def oI (o : Option Nat) : Int32 := match o with
  | none => -1
  | some k => nI k
/-- the reference's cells: b 0 itself, b 1 .. b 12 its rows -/
def WM (cI cZ : ClassId) (b : Nat → Nat) (mC mR mL mF : Nat) (mpar mwt mstk mflw : Nat → Int32) (mc mp mm mf md : Nat → Nat) (mv mder mkn : Nat → Int32) (thr : Int32) : va_W :=
  [(b 0, .inr (4, [.int (nI mC), .ref (b 1), .ref (b 2), .int (nI mR), .ref (b 3), .ref (b 4), .int (nI (mL + 1)), .int (nI mF), .ref (b 5), .ref (b 6), .ref (b 7), .ref (b 8), .ref (b 9), .ref (b 10), .ref (b 11), .ref (b 12), .int thr])),
   (b 1, .inl (cI, 12, .inl mpar)), (b 2, .inl (cI, 12, .inl mwt)), (b 3, .inl (cI, 5, .inl mstk)), (b 4, .inl (cI, 5, .inl mflw)),
   (b 5, .inl (cI, 80, .inl (fun k => nI (mc k)))), (b 6, .inl (cI, 80, .inl (fun k => nI (mp k)))), (b 7, .inl (cI, 80, .inl (fun k => nI (mm k)))), (b 8, .inl (cI, 80, .inl (fun k => nI (mf k)))),
   (b 9, .inl (cI, 80, .inl mv)), (b 10, .inl (cI, 80, .inl (fun k => nI (md k)))), (b 11, .inl (cI, 12, .inl mder)), (b 12, .inl (cZ, 12, .inl mkn))]
/-- the class's fixed cells: a 0 itself, a 1 parents, a 2 weights, a 3 stocks, a 4 flows, a 5 listed, a 6 keyed, a 7 reached, a 8 signs, a 9 listed.facts, a 10 keyed.firsts -/
def WD (cI cO : ClassId) (a FA : Nat → Nat) (nC nR nL nF : Nat) (par wt stk flw : Nat → Int32) (hd : Nat → Option Nat) (rea sig : Nat → Int32) : va_W :=
  [(a 0, .inr (3, [.ref (a 1), .ref (a 2), .int (nI nC), .ref (a 3), .ref (a 4), .int (nI nR), .int (nI nL), .ref (a 5), .ref (a 6), .ref (a 7), .ref (a 8)])),
   (a 1, .inl (cI, 12, .inl par)), (a 2, .inl (cI, 12, .inl wt)), (a 3, .inl (cI, 5, .inl stk)), (a 4, .inl (cI, 5, .inl flw)),
   (a 5, .inr (2, [.ref (a 9), .int (nI nF)])), (a 6, .inr (1, [.ref (a 10)])), (a 7, .inl (cI, 12, .inl rea)), (a 8, .inl (cI, 12, .inl sig)),
   (a 9, .inl (cO, 80, .inr (.inr (.inr (.inr (fun k => if k < nF then some (FA k) else none)))))), (a 10, .inl (cO, 480, .inr (.inr (.inr (.inr (fun K => (hd K).map FA))))))]
/-- a fact's cell -/
def fcell (FA : Nat → Nat) (ck cf cd : Nat → Nat) (cv : Nat → Int32) (nx : Nat → Option Nat) (k : Nat) : Nat × va_E :=
  (FA k, .inr (0, [.int (nI (ck k)), .int (nI (cf k)), .int (cv k), .int (nI (10 ^ cd k)), va_rf ((nx k).map FA)]))
def WF (FA : Nat → Nat) (ck cf cd : Nat → Nat) (cv : Nat → Int32) (nx : Nat → Option Nat) (nF : Nat) : va_W := (List.range nF).map (fcell FA ck cf cd cv nx)
theorem WF_at {FA : Nat → Nat} {ck cf cd : Nat → Nat} {cv : Nat → Int32} {nx : Nat → Option Nat} {nF k : Nat} (h : k < nF) : (WF FA ck cf cd cv nx nF)[k]? = some (fcell FA ck cf cd cv nx k) := by
  unfold WF
  rw [List.getElem?_map, List.getElem?_range h]
  rfl
theorem WDF_at {cI cO : ClassId} {a FA : Nat → Nat} {nC nR nL nF : Nat} {par wt stk flw : Nat → Int32} {hd : Nat → Option Nat} {rea sig : Nat → Int32} {ck cf cd : Nat → Nat} {cv : Nat → Int32} {nx : Nat → Option Nat} {R : va_W} {k : Nat} (h : k < nF) :
    (WD cI cO a FA nC nR nL nF par wt stk flw hd rea sig ++ (WF FA ck cf cd cv nx nF ++ R))[11 + k]? = some (fcell FA ck cf cd cv nx k) := by
  rw [List.getElem?_append_right (by simp [WD])]
  have e : 11 + k - (WD cI cO a FA nC nR nL nF par wt stk flw hd rea sig).length = k := by simp [WD]
  rw [e, List.getElem?_append_left (by simp [WF]; exact h)]
  exact WF_at h
-- WHAT HOLDS: of the facts that q picks, the latest filing's, of several the least decimals', of several the first
def sel (q : Nat → Bool) (kf kd : Nat → Nat) : Nat → Option Nat
  | 0 => none
  | n + 1 => match sel q kf kd n with
    | none => if q n = true then some n else none
    | some b => if q n = true ∧ (kf b < kf n ∨ kf b = kf n ∧ kd n < kd b) then some n else some b
theorem sel_lt {q : Nat → Bool} {kf kd : Nat → Nat} {k : Nat} : ∀ {n : Nat}, sel q kf kd n = some k → k < n ∧ q k = true
  | 0, h => by cases h
  | n + 1, h => by
    unfold sel at h
    cases hb : sel q kf kd n with
    | none =>
      rw [hb] at h
      by_cases hq : q n = true
      · simp [hq] at h
        subst h
        exact ⟨Nat.lt_succ_self _, hq⟩
      · simp [hq] at h
    | some b =>
      rw [hb] at h
      dsimp only at h
      by_cases hc : q n = true ∧ (kf b < kf n ∨ kf b = kf n ∧ kd n < kd b)
      · rw [if_pos hc] at h
        cases h
        exact ⟨Nat.lt_succ_self _, hc.1⟩
      · rw [if_neg hc] at h
        cases h
        exact ⟨Nat.lt_succ_of_lt (sel_lt hb).1, (sel_lt hb).2⟩
theorem sel_congr {q q' : Nat → Bool} {kf kd kf' kd' : Nat → Nat} : ∀ {n : Nat}, (∀ k, k < n → q k = q' k ∧ kf k = kf' k ∧ kd k = kd' k) → sel q kf kd n = sel q' kf' kd' n
  | 0, _ => rfl
  | n + 1, h => by
    have ih := sel_congr (n := n) (fun k hk => h k (Nat.lt_succ_of_lt hk))
    unfold sel
    obtain ⟨h1, h2, h3⟩ := h n (Nat.lt_succ_self n)
    rw [ih]
    cases hb : sel q' kf' kd' n with
    | none => simp only [h1]
    | some b =>
      obtain ⟨g1, g2, g3⟩ := h b (Nat.lt_succ_of_lt (sel_lt hb).1)
      simp only [h1, h2, h3, g2, g3]
/-- what the reference looks for -/
def qM (mc mp mm mf : Nat → Nat) (c p m f : Int32) (k : Nat) : Bool := decide (nI (mc k) = c ∧ nI (mp k) = p ∧ nI (mm k) = m ∧ nI (mf k) ≤ f)
theorem sel_no {q : Nat → Bool} {kf kd : Nat → Nat} {n : Nat} (h : q n = false) : sel q kf kd (n + 1) = sel q kf kd n := by
  rw [show sel q kf kd (n + 1) = (match sel q kf kd n with | none => if q n = true then some n else none | some b => if q n = true ∧ (kf b < kf n ∨ kf b = kf n ∧ kd n < kd b) then some n else some b) from rfl]
  cases sel q kf kd n <;> simp [h]
theorem sel_new0 {q : Nat → Bool} {kf kd : Nat → Nat} {n : Nat} (h0 : sel q kf kd n = none) (h : q n = true) : sel q kf kd (n + 1) = some n := by
  rw [show sel q kf kd (n + 1) = (match sel q kf kd n with | none => if q n = true then some n else none | some b => if q n = true ∧ (kf b < kf n ∨ kf b = kf n ∧ kd n < kd b) then some n else some b) from rfl, h0]
  simp [h]
theorem sel_newer {q : Nat → Bool} {kf kd : Nat → Nat} {n b : Nat} (h0 : sel q kf kd n = some b) (h : q n = true) (hc : kf b < kf n ∨ kf b = kf n ∧ kd n < kd b) : sel q kf kd (n + 1) = some n := by
  rw [show sel q kf kd (n + 1) = (match sel q kf kd n with | none => if q n = true then some n else none | some b => if q n = true ∧ (kf b < kf n ∨ kf b = kf n ∧ kd n < kd b) then some n else some b) from rfl, h0]
  exact if_pos ⟨h, hc⟩
theorem sel_keep {q : Nat → Bool} {kf kd : Nat → Nat} {n b : Nat} (h0 : sel q kf kd n = some b) (hc : ¬ (kf b < kf n ∨ kf b = kf n ∧ kd n < kd b)) : sel q kf kd (n + 1) = some b := by
  rw [show sel q kf kd (n + 1) = (match sel q kf kd n with | none => if q n = true then some n else none | some b => if q n = true ∧ (kf b < kf n ∨ kf b = kf n ∧ kd n < kd b) then some n else some b) from rfl, h0]
  exact if_neg (fun z => hc z.2)
-- truth as a number
def bI (P : Prop) [Decidable P] : Int32 := if P then 1 else 0
theorem bI_t {P : Prop} [Decidable P] (h : P) : 1 = bI P := by unfold bI; rw [if_pos h]
theorem bI_f {P : Prop} [Decidable P] (h : ¬ P) : 0 = bI P := by unfold bI; rw [if_neg h]
theorem bI_z {P : Prop} [Decidable P] (h : bI P = 0) : ¬ P := fun q => by rw [← bI_t q] at h; exact absurd h (by decide)
theorem bI_n {P : Prop} [Decidable P] (h : ¬ bI P = 0) : P := Decidable.byContradiction fun q => h (bI_f q).symm
theorem bI_nr (P : Prop) [Decidable P] : narrow .boolean (.int (bI P)) = .int (bI P) := by
  unfold bI
  split <;> rfl
theorem bI_congr {P Q : Prop} [Decidable P] [Decidable Q] (h : P ↔ Q) : bI P = bI Q := by
  unfold bI
  by_cases hp : P
  · rw [if_pos hp, if_pos (h.mp hp)]
  · rw [if_neg hp, if_neg (fun q => hp (h.mpr q))]
theorem nI_nm1 {n : Nat} (h : n < 2 ^ 31) : ¬ nI n = -1 := by
  intro q
  have a := nI_toInt h
  rw [q] at a
  have : (-1 : Int32).toInt = -1 := by decide
  omega
theorem i_nlt {x y : Int32} (h : ¬ x < y) : y ≤ x := by
  rw [Int32.le_iff_toInt_le]; rw [Int32.lt_iff_toInt_lt] at h; omega
theorem i_nle {x y : Int32} (h : ¬ x ≤ y) : y < x := by
  rw [Int32.lt_iff_toInt_lt]; rw [Int32.le_iff_toInt_le] at h; omega
theorem i_ltn {x y : Int32} (h : x < y) : ¬ y ≤ x := by
  rw [Int32.le_iff_toInt_le]; rw [Int32.lt_iff_toInt_lt] at h; omega
theorem i_len {x y : Int32} (h : x ≤ y) : ¬ y < x := by
  rw [Int32.lt_iff_toInt_lt]; rw [Int32.le_iff_toInt_le] at h; omega
