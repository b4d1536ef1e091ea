-- THE LAW'S STATE: both sides, tied
def lW (cI cZ cO cL : ClassId) (a b : Nat → Nat) (ob : Nat) (FA : Nat → Nat) (nC nR nL nF : Nat) (par wt : Nat → Int32) (sk fk : Nat → Nat) (hd : Nat → Option Nat) (rea sig : Nat → Int32) (mc mp mm mf md : Nat → Nat) (mv : Nat → Int32) (nx : Nat → Option Nat) (mder mkn : Nat → Int32) (thr : Int32) (ov : Nat → Int64) : va_W :=
  WD cI cO a FA nC nR nL nF par wt (fun r => nI (sk r)) (fun r => nI (fk r)) hd rea sig ++ (WF FA (fun k => mc k * 40 + mp k * 4 + mm k) mf md mv nx nF ++ (ob, .inl (cL, 1, .inr (.inl ov))) :: WM cI cZ b nC nR nL nF par wt (fun r => nI (sk r)) (fun r => nI (fk r)) mc mp mm mf md mv mder mkn thr)
def lOk (nC nR nL nF : Nat) (par wt : Nat → Int32) (sk fk : Nat → Nat) (hd : Nat → Option Nat) (mc mp mm mf md : Nat → Nat) (mv : Nat → Int32) (nx : Nat → Option Nat) (L : List Nat) : Prop :=
  (nC ≤ 12 ∧ nR ≤ 5 ∧ nL < 8 ∧ nF ≤ 80) ∧ (tree nC par L ∧ ∀ k, wOk (wt k)) ∧ ((∀ r, sk r < 12) ∧ (∀ r, fk r < 12) ∧ ∀ r, r < nR → sk r < nC) ∧
  (chOk (fun k => mc k * 40 + mp k * 4 + mm k) mf md hd nx nF ∧ (∀ K j, hd K = some j → j < nF) ∧ (∀ k j, k < nF → nx k = some j → j < nF) ∧ ∀ k, k < nF → mf k ≤ nL) ∧
  ((∀ k, mc k < 12) ∧ (∀ k, mp k < 10) ∧ (∀ k, mm k < 4) ∧ (∀ k, mf k < 8) ∧ (∀ k, md k ≤ 4) ∧ (∀ k, vOk (mv k)) ∧ ∀ k, k < nF → mc k < nC)
def lInv (D : va_G) (cI cZ cO cL : ClassId) (A : Nat → Prop) (a b : Nat → Nat) (ob : Nat) (H : Heap) : Prop :=
  ∃ (FA : Nat → Nat) (nC nR nL nF : Nat) (par wt : Nat → Int32) (sk fk : Nat → Nat) (hd : Nat → Option Nat) (rea sig : Nat → Int32) (mc mp mm mf md : Nat → Nat) (mv : Nat → Int32) (nx : Nat → Option Nat) (mder mkn : Nat → Int32) (thr : Int32) (ov : Nat → Int64) (L : List Nat),
    lOk nC nR nL nF par wt sk fk hd mc mp mm mf md mv nx L ∧ va_P D vwCl (lW cI cZ cO cL a b ob FA nC nR nL nF par wt sk fk hd rea sig mc mp mm mf md mv nx mder mkn thr ov) H ∧ va_D A (lW cI cZ cO cL a b ob FA nC nR nL nF par wt sk fk hd rea sig mc mp mm mf md mv nx mder mkn thr ov)
/-- the reference's cells first -/
theorem lperm {α : Type} (X Y M : List α) (x : α) : (M ++ (X ++ (Y ++ [x]))).Perm (X ++ (Y ++ x :: M)) := by
  have e : X ++ (Y ++ x :: M) = (X ++ (Y ++ [x])) ++ M := by simp
  rw [e]
  exact List.perm_append_comm
theorem lg_self (x : Int64) : lg_cmp x x = 0 := by simp [lg_cmp]
theorem ck_up {mc mp mm : Nat → Nat} {n c p m : Nat} : va_up (fun k => mc k * 40 + mp k * 4 + mm k) n (c * 40 + p * 4 + m) = fun k => va_up mc n c k * 40 + va_up mp n p k * 4 + va_up mm n m k := by
  funext k
  unfold va_up
  by_cases h : k = n
  · rw [if_pos h, if_pos h, if_pos h, if_pos h]
  · rw [if_neg h, if_neg h, if_neg h, if_neg h]
theorem upd_all {P : Int32 → Prop} {f : Nat → Int32} {n : Nat} {x : Int32} (h : ∀ k, P (f k)) (hx : P x) : ∀ k, P (upd f n x k) := fun k => by
  by_cases q : k = n
  · simp [upd, q]; exact hx
  · simp [upd, q]; exact h k
section
variable {nC nR nL nF : Nat} {par wt : Nat → Int32} {sk fk : Nat → Nat} {hd : Nat → Option Nat} {mc mp mm mf md : Nat → Nat} {mv : Nat → Int32} {nx : Nat → Option Nat} {L : List Nat}
theorem lOk_add (h : lOk nC nR nL nF par wt sk fk hd mc mp mm mf md mv nx L) (h12 : nC < 12) : lOk (nC + 1) nR nL nF (upd par nC (-1)) wt sk fk hd mc mp mm mf md mv nx (nC :: L) := by
  obtain ⟨⟨hC12, hR5, hL8, hF⟩, ⟨hT, hwt⟩, ⟨hsk12, hfk12, hskC⟩, hch, h1, h2, h3, h4, hmd, hmv, h7⟩ := h
  exact ⟨⟨h12, hR5, hL8, hF⟩, ⟨tree_add hT, hwt⟩, ⟨hsk12, hfk12, fun r hr => Nat.lt_succ_of_lt (hskC r hr)⟩, hch, h1, h2, h3, h4, hmd, hmv, fun k hk => Nat.lt_succ_of_lt (h7 k hk)⟩
theorem lOk_hang (h : lOk nC nR nL nF par wt sk fk hd mc mp mm mf md mv nx L) {c p : Nat} (hc : c < nC) (hp : p < nC) (ha : anc par (nI c) L (nI p) = false) (ui : Int32) : ∃ L', lOk nC nR nL nF (upd par c (nI p)) (upd wt c (if ui = 0 then -1 else 1)) sk fk hd mc mp mm mf md mv nx L' := by
  obtain ⟨⟨hC12, hR5, hL8, hF⟩, ⟨hT, hwt⟩, hr⟩ := h
  refine ⟨_, ⟨hC12, hR5, hL8, hF⟩, ⟨tree_hang hT hC12 hc hp ha, upd_all hwt ?_⟩, hr⟩
  by_cases q : ui = 0
  · rw [if_pos q]; exact Or.inr (Or.inl rfl)
  · rw [if_neg q]; exact Or.inl rfl
theorem lOk_unhang (h : lOk nC nR nL nF par wt sk fk hd mc mp mm mf md mv nx L) (c : Nat) : lOk nC nR nL nF (upd par c (-1)) wt sk fk hd mc mp mm mf md mv nx L := by
  obtain ⟨hb, ⟨hT, hwt⟩, hr⟩ := h
  exact ⟨hb, ⟨tree_unhang hT, hwt⟩, hr⟩
theorem lOk_roll (h : lOk nC nR nL nF par wt sk fk hd mc mp mm mf md mv nx L) {s f : Nat} (hs : s < nC) (hf : f < nC) (h5 : nR < 5) : lOk nC (nR + 1) nL nF par wt (va_up sk nR s) (va_up fk nR f) hd mc mp mm mf md mv nx L := by
  obtain ⟨⟨hC12, hR5, hL8, hF⟩, hT, ⟨hsk12, hfk12, hskC⟩, hr⟩ := h
  refine ⟨⟨hC12, h5, hL8, hF⟩, hT, ⟨up_all (P := fun z => z < 12) hsk12 (by omega), up_all (P := fun z => z < 12) hfk12 (by omega), fun r hr => ?_⟩, hr⟩
  unfold va_up
  by_cases q : r = nR
  · rw [if_pos q]; exact hs
  · rw [if_neg q]; exact hskC r (by omega)
theorem lOk_file (h : lOk nC nR nL nF par wt sk fk hd mc mp mm mf md mv nx L) (h7 : nL < 7) : lOk nC nR (nL + 1) nF par wt sk fk hd mc mp mm mf md mv nx L := by
  obtain ⟨⟨hC12, hR5, hL8, hF⟩, hT, hk, ⟨hCh, hH, hN, hfL⟩, hr⟩ := h
  exact ⟨⟨hC12, hR5, by omega, hF⟩, hT, hk, ⟨hCh, hH, hN, fun k hk => Nat.le_succ_of_le (hfL k hk)⟩, hr⟩
theorem lOk_tell (h : lOk nC nR nL nF par wt sk fk hd mc mp mm mf md mv nx L) {c p m d : Nat} {vi : Int32} {u : (Nat → Option Nat) × (Nat → Option Nat)} (hc : c < nC) (hp : p < 10) (hm : m < 4) (hd4 : d ≤ 4) (hv : (-1000000) ≤ vi ∧ vi ≤ (1000000)) (h80 : nF < 80)
    (hu : lkIns (va_up mf nF nL) (va_up md nF d) ((va_up (fun k => mc k * 40 + mp k * 4 + mm k) nF (c * 40 + p * 4 + m)) nF) nF (chn (va_up (fun k => mc k * 40 + mp k * 4 + mm k) nF (c * 40 + p * 4 + m)) (va_up mf nF nL) (va_up md nF d) ((va_up (fun k => mc k * 40 + mp k * 4 + mm k) nF (c * 40 + p * 4 + m)) nF) nF) hd (va_up nx nF none) u) :
    lOk nC nR nL (nF + 1) par wt sk fk u.1 (va_up mc nF c) (va_up mp nF p) (va_up mm nF m) (va_up mf nF nL) (va_up md nF d) (upd mv nF vi) u.2 L := by
  obtain ⟨⟨hC12, hR5, hL8, hF⟩, hT, hk, ⟨hCh, hH, hN, hfL⟩, h1, h2, h3, h4, hmd, hmv, h7⟩ := h
  have hvo : vOk vi := by
    obtain ⟨v1, v2⟩ := hv
    rw [Int32.le_iff_toInt_le] at v1 v2
    rw [show (-1000000 : Int32).toInt = -1000000 by decide] at v1
    rw [show (1000000 : Int32).toInt = 1000000 by decide] at v2
    exact ⟨v1, v2⟩
  refine ⟨⟨hC12, hR5, hL8, h80⟩, hT, hk, ⟨?_, ?_, ?_, fun k hk => ?_⟩, up_all (P := fun z => z < 12) h1 (by omega), up_all (P := fun z => z < 10) h2 hp, up_all (P := fun z => z < 4) h3 hm, up_all (P := fun z => z < 8) h4 hL8, up_all (P := fun z => z ≤ 4) hmd hd4, upd_all hmv hvo, fun k hk => ?_⟩
  · rw [← ck_up]
    refine chOk_new hCh (fun j hj => ⟨up_ne hj, up_ne hj, up_ne hj⟩) (fun j hj => ?_) hu
    rw [up_ne hj, show va_up mf nF nL nF = nL by simp [va_up]]
    exact (nI_leI (by have := h4 j; omega) (by omega)).mpr (hfL j hj)
  · exact hH_new hH hu
  · exact hN_new hN hu
  · unfold va_up
    by_cases q : k = nF
    · rw [if_pos q]; exact Nat.le_refl _
    · rw [if_neg q]; exact hfL k (by omega)
  · unfold va_up
    by_cases q : k = nF
    · rw [if_pos q]; exact hc
    · rw [if_neg q]; exact h7 k (by omega)
theorem roll_eq (h1 : ∀ k, mc k < 12) (h2 : ∀ k, mp k < 10) (h3 : ∀ k, mm k < 4) {x y p m : Nat} {f : Int32} (hx : x < 12) (hy : y < 12) (hp : p < 10) (hm : m < 4) :
    bI (rollOff (nI p) (hC (fun k => mc k * 40 + mp k * 4 + mm k) mf md nF (nI (x * 40 + p * 4 + m)) f) (hC (fun k => mc k * 40 + mp k * 4 + mm k) mf md nF (nI (x * 40 + (p - 1) * 4 + m)) f) (hC (fun k => mc k * 40 + mp k * 4 + mm k) mf md nF (nI (y * 40 + p * 4 + m)) f) md mv = true) =
    bI (rollOff (nI p) (hM mc mp mm mf md nF (nI x) (nI p) (nI m) f) (hM mc mp mm mf md nF (nI x) (nI p - 1) (nI m) f) (hM mc mp mm mf md nF (nI y) (nI p) (nI m) f) md mv = true) := by
  refine bI_congr ?_
  by_cases q : p = 0
  · subst q
    rw [rollOff_0, rollOff_0]
  · rw [hMC h1 h2 h3 hx hp hm, hMC h1 h2 h3 hy hp hm, nI_sub1 (by omega), hMC h1 h2 h3 hx (show p - 1 < 10 by omega) hm]
end
