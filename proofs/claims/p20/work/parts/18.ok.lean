-- WHAT MAY BE ASKED FOR: a number below n
def cOk (n : Nat) (x : Int32) : Prop := ∃ k : Nat, x = nI k ∧ k < n
theorem cOk_of {n : Nat} {x : Int32} (h0 : ¬ x < 0) (h : x < nI n) (hn : n < 2 ^ 31) : cOk n x := by
  obtain ⟨j, hj, rfl⟩ := nI_of h0
  exact ⟨j, rfl, (nI_ltI hj hn).mp h⟩
theorem cOk_neg {n : Nat} {x : Int32} (h : x < 0) (hn : n < 2 ^ 31) : ¬ cOk n x := by
  rintro ⟨k, rfl, hk⟩
  exact nI_pos (by omega) h
theorem cOk_ge {n : Nat} {x : Int32} (h : ¬ x < nI n) (hn : n < 2 ^ 31) : ¬ cOk n x := by
  rintro ⟨k, rfl, hk⟩
  exact h ((nI_ltI (by omega) hn).mpr hk)
theorem cOk_ofl {n : Nat} {x : Int32} (h0 : ¬ x < 0) (h : x ≤ nI n) (hn : n < 2 ^ 30) : cOk (n + 1) x := by
  obtain ⟨j, hj, rfl⟩ := nI_of h0
  exact ⟨j, rfl, by have := (nI_leI hj (by omega)).mp h; omega⟩
theorem cOk_gt {n : Nat} {x : Int32} (h : ¬ x ≤ nI n) (hn : n < 2 ^ 30) : ¬ cOk (n + 1) x := by
  rintro ⟨k, rfl, hk⟩
  exact h ((nI_leI (by omega) (by omega)).mpr (by omega))
theorem cOk_iff {n : Nat} {x : Int32} (hn : n < 2 ^ 30) : (0 ≤ x ∧ x ≤ nI n - 1) ↔ cOk n x := by
  constructor
  · rintro ⟨h0, h1⟩
    obtain ⟨j, hj, rfl⟩ := nI_of (i_len h0)
    refine ⟨j, rfl, ?_⟩
    rcases Nat.eq_zero_or_pos n with q | q
    · subst q
      rw [Int32.le_iff_toInt_le, nI_toInt hj, show (nI 0 - 1).toInt = -1 by decide] at h1
      omega
    · obtain ⟨k, rfl⟩ : ∃ k, n = k + 1 := ⟨n - 1, by omega⟩
      rw [nI_pred] at h1
      have := (nI_leI hj (by omega)).mp h1
      omega
  · rintro ⟨k, rfl, hk⟩
    obtain ⟨j, rfl⟩ : ∃ j, n = j + 1 := ⟨n - 1, by omega⟩
    rw [nI_pred]
    exact ⟨nI_pos' (by omega), nI_le (by omega) (by omega)⟩
def kV (nC nL : Nat) (ci pi mi fi : Int32) (c p m f : Nat) : Prop := (ci = nI c ∧ c < nC) ∧ (pi = nI p ∧ p < 10) ∧ (mi = nI m ∧ m < 4) ∧ (fi = nI f ∧ f < nL + 1)
def kNo (nC nL : Nat) (ci pi mi fi : Int32) : Prop := ¬ ((cOk nC ci ∧ cOk 10 pi ∧ cOk 4 mi) ∧ cOk (nL + 1) fi)
