-- WHAT THE CALLS ANSWER, over what holds
abbrev hM (mc mp mm mf md : Nat → Nat) (mF : Nat) (c p m f : Int32) : Option Nat := sel (qM mc mp mm mf c p m f) mf md mF
def farI (x y : Int32) : Int32 := if x < y then y - x else x - y
def sumN (par wt : Nat → Int32) (h : Nat → Option Nat) (v : Nat → Int32) (c : Int32) : Nat → Int32
  | 0 => 0
  | k + 1 => sumN par wt h v c k + (if par k = c then (match h k with | none => 0 | some j => wt k * v j) else 0)
def dbtN (par : Nat → Int32) (h : Nat → Option Nat) (d : Nat → Nat) (c : Int32) : Nat → Int32
  | 0 => 0
  | k + 1 => dbtN par h d c k + (if par k = c then (match h k with | none => 0 | some j => nI (10 ^ d j)) else 0)
def cntN (par : Nat → Int32) (h : Nat → Option Nat) (c : Int32) : Nat → Nat
  | 0 => 0
  | k + 1 => cntN par h c k + (if par k = c then (match h k with | none => 0 | some _ => 1) else 0)
theorem cntN_le {par : Nat → Int32} {h : Nat → Option Nat} {c : Int32} : ∀ n, cntN par h c n ≤ n
  | 0 => Nat.le_refl _
  | n + 1 => by
    have := cntN_le (par := par) (h := h) (c := c) n
    unfold cntN
    by_cases hp : par n = c
    · rw [if_pos hp]
      cases h n <;> simp <;> omega
    · rw [if_neg hp]
      omega
def sumOff (nC : Nat) (par wt : Nat → Int32) (h : Nat → Option Nat) (d : Nat → Nat) (v : Nat → Int32) (c : Int32) (own : Option Nat) : Bool := match own with
  | none => false
  | some o => decide (0 < cntN par h c nC) && decide (nI (10 ^ d o) + dbtN par h d c nC < 2 * farI (v o) (sumN par wt h v c nC))
def mAll (h : Nat → Option Nat) : Nat → Bool
  | 0 => true
  | k + 1 => mAll h k && (h k).isSome
def mSum (h : Nat → Option Nat) (v : Nat → Int32) : Nat → Int32
  | 0 => 0
  | k + 1 => mSum h v k + (if k = 0 then 0 else (match h k with | none => 0 | some j => v j))
def mDbt (h : Nat → Option Nat) (d : Nat → Nat) : Nat → Int32
  | 0 => 0
  | k + 1 => mDbt h d k + (match h k with | none => 0 | some j => nI (10 ^ d j))
def memOff (h : Nat → Option Nat) (d : Nat → Nat) (v : Nat → Int32) : Bool := match h 0 with
  | none => false
  | some a => mAll h 4 && decide (mDbt h d 4 < 2 * farI (v a) (mSum h v 4))
theorem mAll_0 {h : Nat → Option Nat} (h0 : h 0 = none) : ∀ n, mAll h (n + 1) = false
  | 0 => by simp [mAll, h0]
  | n + 1 => by
    have := mAll_0 h0 n
    rw [show mAll h (n + 1 + 1) = (mAll h (n + 1) && (h (n + 1)).isSome) from rfl, this]
    rfl
def rollOff (p : Int32) (now before flow : Option Nat) (d : Nat → Nat) (v : Nat → Int32) : Bool := match now, before, flow with
  | some a, some b, some c => decide (0 < p) && decide (nI (10 ^ d a) + nI (10 ^ d b) + nI (10 ^ d c) < 2 * farI (v a) (v b + v c))
  | _, _, _ => false
/-- a sum of n things -/
def sT (g : Nat → Int32) : Nat → Int32
  | 0 => 0
  | n + 1 => sT g n + g n
theorem sT_congr {g g' : Nat → Int32} : ∀ {n : Nat}, (∀ k, k < n → g k = g' k) → sT g n = sT g' n
  | 0, _ => rfl
  | n + 1, h => by
    unfold sT
    rw [sT_congr (fun k hk => h k (Nat.lt_succ_of_lt hk)), h n (Nat.lt_succ_self n)]
/-- all faults of a filing, as the reference counts them: h c p m is what holds -/
def mFlt (mC mR : Nat) (par wt : Nat → Int32) (stk flw : Nat → Int32) (h : Int32 → Int32 → Int32 → Option Nat) (d : Nat → Nat) (v : Nat → Int32) : Int32 :=
  sT (fun p => sT (fun k => bI (memOff (fun m => h (nI k) (nI p) (nI m)) d v = true) + sT (fun m => bI (sumOff mC par wt (fun j => h (nI j) (nI p) (nI m)) d v (nI k) (h (nI k) (nI p) (nI m)) = true)) 4) mC
    + sT (fun k => bI (rollOff (nI p) (h (stk (k / 4)) (nI p) (nI (k % 4))) (h (stk (k / 4)) (nI p - 1) (nI (k % 4))) (h (flw (k / 4)) (nI p) (nI (k % 4))) d v = true)) (4 * mR)) 10
