-- HOW THE STATE MOVES
section
variable {nC nR nL nF : Nat} {par wt : Nat → Int32} {sk fk : Nat → Nat} {hd : Nat → Option Nat} {ck cf cd : Nat → Nat} {cv : Nat → Int32} {nx : Nat → Option Nat} {L : List Nat}
theorem upd_all {P : Int32 → Prop} {f : Nat → Int32} {n : Nat} {x : Int32} (h : ∀ k, P (f k)) (hx : P x) : ∀ k, P (upd f n x k) := fun k => by
  by_cases q : k = n
  · simp [upd, q]; exact hx
  · simp [upd, q]; exact h k
theorem sOk_add (h : sOk nC nR nL nF par wt sk fk hd ck cf cd cv nx L) (h12 : nC < 12) : sOk (nC + 1) nR nL nF (upd par nC (-1)) wt sk fk hd ck cf cd cv nx (nC :: L) := by
  obtain ⟨⟨hC12, hR5, hL8, hF⟩, ⟨hT, hwt⟩, ⟨hsk12, hfk12, hskC⟩, hch, hck, hcf, hcd, hcv, h7⟩ := h
  exact ⟨⟨h12, hR5, hL8, hF⟩, ⟨tree_add hT, hwt⟩, ⟨hsk12, hfk12, fun r hr => ⟨Nat.lt_succ_of_lt (hskC r hr).1, Nat.lt_succ_of_lt (hskC r hr).2⟩⟩, hch, hck, hcf, hcd, hcv, fun k hk => by have := h7 k hk; omega⟩
theorem sOk_hang (h : sOk nC nR nL nF par wt sk fk hd ck cf cd cv nx L) {c p : Nat} (hc : c < nC) (hp : p < nC) (ha : anc par (nI c) L (nI p) = false) {w : Int32} (hw : wOk w) : ∃ L', sOk nC nR nL nF (upd par c (nI p)) (upd wt c w) sk fk hd ck cf cd cv nx L' := by
  obtain ⟨⟨hC12, hR5, hL8, hF⟩, ⟨hT, hwt⟩, hr⟩ := h
  exact ⟨_, ⟨hC12, hR5, hL8, hF⟩, ⟨tree_hang hT hC12 hc hp ha, upd_all hwt hw⟩, hr⟩
theorem sOk_unhang (h : sOk nC nR nL nF par wt sk fk hd ck cf cd cv nx L) (c : Nat) : sOk nC nR nL nF (upd par c (-1)) wt sk fk hd ck cf cd cv nx L := by
  obtain ⟨hb, ⟨hT, hwt⟩, hr⟩ := h
  exact ⟨hb, ⟨tree_unhang hT, hwt⟩, hr⟩
theorem sOk_roll (h : sOk nC nR nL nF par wt sk fk hd ck cf cd cv nx L) {s f : Nat} (hs : s < nC) (hf : f < nC) (h5 : nR < 5) : sOk nC (nR + 1) nL nF par wt (va_up sk nR s) (va_up fk nR f) hd ck cf cd cv nx L := by
  obtain ⟨⟨hC12, hR5, hL8, hF⟩, hT, ⟨hsk12, hfk12, hskC⟩, hr⟩ := h
  refine ⟨⟨hC12, h5, hL8, hF⟩, hT, ⟨up_all (P := fun z => z < 12) hsk12 (by omega), up_all (P := fun z => z < 12) hfk12 (by omega), fun r hr => ?_⟩, hr⟩
  unfold va_up
  by_cases q : r = nR
  · rw [if_pos q, if_pos q]; exact ⟨hs, hf⟩
  · rw [if_neg q, if_neg q]; exact hskC r (by omega)
theorem sOk_file (h : sOk nC nR nL nF par wt sk fk hd ck cf cd cv nx L) (h7 : nL < 7) : sOk nC nR (nL + 1) nF par wt sk fk hd ck cf cd cv nx L := by
  obtain ⟨⟨hC12, hR5, hL8, hF⟩, hT, hk, ⟨hCh, hH, hN, hfL⟩, hr⟩ := h
  exact ⟨⟨hC12, hR5, by omega, hF⟩, hT, hk, ⟨hCh, hH, hN, fun k hk => Nat.le_succ_of_le (hfL k hk)⟩, hr⟩
theorem vOk_of {vi : Int32} (hv : (-1000000) ≤ vi ∧ vi ≤ (1000000)) : vOk vi := by
  obtain ⟨v1, v2⟩ := hv
  rw [Int32.le_iff_toInt_le] at v1 v2
  rw [show (-1000000 : Int32).toInt = -1000000 by decide] at v1
  rw [show (1000000 : Int32).toInt = 1000000 by decide] at v2
  exact ⟨v1, v2⟩
theorem sOk_tell (h : sOk nC nR nL nF par wt sk fk hd ck cf cd cv nx L) {c p m d : Nat} {vi : Int32} {u : (Nat → Option Nat) × (Nat → Option Nat)} (hc : c < nC) (hp : p < 10) (hm : m < 4) (hd4 : d ≤ 4) (hv : (-1000000) ≤ vi ∧ vi ≤ (1000000)) (h80 : nF < 80)
    (hu : lkIns (va_up cf nF nL) (va_up cd nF d) ((va_up ck nF (c * 40 + p * 4 + m)) nF) nF (chn (va_up ck nF (c * 40 + p * 4 + m)) (va_up cf nF nL) (va_up cd nF d) ((va_up ck nF (c * 40 + p * 4 + m)) nF) nF) hd (va_up nx nF none) u) :
    sOk nC nR nL (nF + 1) par wt sk fk u.1 (va_up ck nF (c * 40 + p * 4 + m)) (va_up cf nF nL) (va_up cd nF d) (upd cv nF vi) u.2 L := by
  obtain ⟨⟨hC12, hR5, hL8, hF⟩, hT, hk, ⟨hCh, hH, hN, hfL⟩, hck, hcf, hcd, hcv, h7⟩ := h
  refine ⟨⟨hC12, hR5, hL8, h80⟩, hT, hk, ⟨?_, ?_, ?_, fun k hk => ?_⟩, up_all (P := fun z => z < 480) hck (by omega), up_all (P := fun z => z < 8) hcf hL8, up_all (P := fun z => z ≤ 4) hcd hd4, upd_all hcv (vOk_of hv), fun k hk => ?_⟩
  · refine chOk_new hCh (fun j hj => ⟨up_ne hj, up_ne hj, up_ne hj⟩) (fun j hj => ?_) hu
    rw [up_ne hj, show va_up cf nF nL nF = nL by simp [va_up]]
    exact (nI_leI (by have := hcf j; omega) (by omega)).mpr (hfL j hj)
  · exact hH_new hH hu
  · exact hN_new hN hu
  · unfold va_up
    by_cases q : k = nF
    · rw [if_pos q]; exact Nat.le_refl _
    · rw [if_neg q]; exact hfL k (by omega)
  · unfold va_up
    by_cases q : k = nF
    · rw [if_pos q]; omega
    · rw [if_neg q]; exact h7 k (by omega)
end
section
variable {nC nR nL nF : Nat} {par wt pv rv kv : Nat → Int32} {sk fk : Nat → Nat}
theorem upd_eq {f : Nat → Int32} {i : Nat} {x : Int32} : upd f i x i = x := by simp [upd]
theorem upd_ne {f : Nat → Int32} {i j : Nat} {x : Int32} (h : j ≠ i) : upd f i x j = f j := by simp [upd, h]
theorem upd_self {f : Nat → Int32} {i : Nat} : upd f i (f i) = f := by
  funext k
  by_cases h : k = i
  · rw [h]; exact upd_eq
  · exact upd_ne h
theorem pOk_add (h : pOk nC par wt pv) : pOk (nC + 1) (upd par nC (-1)) wt (upd pv nC 0) := fun k hk => by
  by_cases q : k = nC
  · subst q; exact Or.inl ⟨upd_eq, upd_eq⟩
  · rw [upd_ne q, upd_ne q]
    rcases h k (by omega) with z | ⟨j, hj, z⟩
    · exact Or.inl z
    · exact Or.inr ⟨j, by omega, z⟩
theorem pOk_unhang (h : pOk nC par wt pv) (c : Nat) : pOk nC (upd par c (-1)) wt (upd pv c 0) := fun k hk => by
  by_cases q : k = c
  · subst q; exact Or.inl ⟨upd_eq, upd_eq⟩
  · rw [upd_ne q, upd_ne q]; exact h k hk
theorem pOk_hang1 (h : pOk nC par wt pv) {c p : Nat} (hp : p < nC) : pOk nC (upd par c (nI p)) (upd wt c (if (1 : Int32) = 0 then -1 else 1)) (upd pv c (nI (2 * (p + 1) + 1))) := fun k hk => by
  by_cases q : k = c
  · subst q; rw [upd_eq, upd_eq, upd_eq]; exact Or.inr ⟨p, hp, rfl, Or.inl ⟨rfl, rfl⟩⟩
  · rw [upd_ne q, upd_ne q, upd_ne q]; exact h k hk
theorem pOk_hang0 (h : pOk nC par wt pv) {c p : Nat} (hp : p < nC) : pOk nC (upd par c (nI p)) (upd wt c (if (0 : Int32) = 0 then -1 else 1)) (upd pv c (nI (2 * (p + 1) + 0))) := fun k hk => by
  by_cases q : k = c
  · subst q; rw [upd_eq, upd_eq, upd_eq]; exact Or.inr ⟨p, hp, rfl, Or.inr ⟨rfl, rfl⟩⟩
  · rw [upd_ne q, upd_ne q, upd_ne q]; exact h k hk
theorem rOk2_roll (h : rOk2 nR sk fk rv) {c p : Nat} : rOk2 (nR + 1) (va_up sk nR c) (va_up fk nR p) (upd (upd rv (2 * nR) (nI c)) (2 * nR + 1) (nI p)) := fun i hi => by
  by_cases q : i = nR
  · subst q
    rw [upd_ne (show 2 * i ≠ 2 * i + 1 by omega), upd_eq, upd_eq]
    simp [va_up]
  · rw [upd_ne (show 2 * i ≠ 2 * nR + 1 by omega), upd_ne (show 2 * i ≠ 2 * nR by omega), upd_ne (show 2 * i + 1 ≠ 2 * nR + 1 by omega), upd_ne (show 2 * i + 1 ≠ 2 * nR by omega)]
    have := h i (by omega)
    simp [va_up, q]; exact this
theorem kOk_0 (h : kOk nC nR nL nF kv) : kOk (nC + 1) nR nL nF (upd kv 0 (nI (nC + 1))) := ⟨upd_eq, (upd_ne (by decide)).trans h.2.1, (upd_ne (by decide)).trans h.2.2.1, (upd_ne (by decide)).trans h.2.2.2⟩
theorem kOk_1 (h : kOk nC nR nL nF kv) : kOk nC (nR + 1) nL nF (upd kv 1 (nI (nR + 1))) := ⟨(upd_ne (by decide)).trans h.1, upd_eq, (upd_ne (by decide)).trans h.2.2.1, (upd_ne (by decide)).trans h.2.2.2⟩
theorem kOk_2 (h : kOk nC nR nL nF kv) (n : Nat) : kOk nC nR n nF (upd kv 2 (nI (n + 1))) := ⟨(upd_ne (by decide)).trans h.1, (upd_ne (by decide)).trans h.2.1, upd_eq, (upd_ne (by decide)).trans h.2.2.2⟩
theorem kOk_3 (h : kOk nC nR nL nF kv) : kOk nC nR nL (nF + 1) (upd kv 3 (nI (nF + 1))) := ⟨(upd_ne (by decide)).trans h.1, (upd_ne (by decide)).trans h.2.1, (upd_ne (by decide)).trans h.2.2.1, upd_eq⟩
end
-- WHAT A TOLD FACT CHANGES
section
variable {ck cf cd : Nat → Nat} {cv : Nat → Int32} {nF nL K d : Nat} {vi : Int32}
theorem up_eq {α : Type} {f : Nat → α} {n : Nat} {x : α} : va_up f n x n = x := by simp [va_up]
theorem tell_holds (hcf : ∀ k, cf k < 2 ^ 31) (hL : nL < 8) (hfL : ∀ k, k < nF → cf k ≤ nL) :
    hC (va_up ck nF K) (va_up cf nF nL) (va_up cd nF d) (nF + 1) (nI K) (nI nL) = some nF ∨
      ∃ b, b < nF ∧ hC ck cf cd nF (nI K) (nI nL) = some b ∧ hC (va_up ck nF K) (va_up cf nF nL) (va_up cd nF d) (nF + 1) (nI K) (nI nL) = some b ∧ cd b ≤ d := by
  have hq : qC (va_up ck nF K) (va_up cf nF nL) (nI K) (nI nL) nF = true := by
    unfold qC
    rw [up_eq, up_eq]
    exact decide_eq_true ⟨rfl, nI_le (Nat.le_refl _) (by omega)⟩
  have hs : sel (qC (va_up ck nF K) (va_up cf nF nL) (nI K) (nI nL)) (va_up cf nF nL) (va_up cd nF d) nF = sel (qC ck cf (nI K) (nI nL)) cf cd nF := by
    refine sel_congr (fun k hk => ⟨?_, up_ne hk, up_ne hk⟩)
    unfold qC
    rw [up_ne hk, up_ne hk]
  cases ho : sel (qC ck cf (nI K) (nI nL)) cf cd nF with
  | none => exact Or.inl (sel_new0 (hs.trans ho) hq)
  | some b =>
    have hb := (sel_lt ho).1
    by_cases hn : (va_up cf nF nL) b < (va_up cf nF nL) nF ∨ (va_up cf nF nL) b = (va_up cf nF nL) nF ∧ (va_up cd nF d) nF < (va_up cd nF d) b
    · exact Or.inl (sel_newer (hs.trans ho) hq hn)
    · refine Or.inr ⟨b, hb, ho, sel_keep (hs.trans ho) hn, ?_⟩
      rw [up_ne hb, up_ne hb, up_eq, up_eq] at hn
      have := hfL b hb
      omega
theorem tell_before (hL : nL < 8) (h0 : 0 < nL) : hC (va_up ck nF K) (va_up cf nF nL) (va_up cd nF d) (nF + 1) (nI K) (nI (nL - 1)) = hC ck cf cd nF (nI K) (nI (nL - 1)) := by
  have hq : qC (va_up ck nF K) (va_up cf nF nL) (nI K) (nI (nL - 1)) nF = false := by
    unfold qC
    rw [up_eq, up_eq]
    exact decide_eq_false (fun z => nI_ge (a := nL - 1) (b := nL) (by omega) (by omega) z.2)
  show sel _ _ _ (nF + 1) = _
  rw [sel_no hq]
  refine sel_congr (fun k hk => ⟨?_, up_ne hk, up_ne hk⟩)
  unfold qC
  rw [up_ne hk, up_ne hk]
theorem hv_old {o : Option Nat} (h : ∀ b, o = some b → b < nF) : hv (upd cv nF vi) o = hv cv o := by
  cases o with
  | none => rfl
  | some b => exact upd_ne (by have := h b rfl; omega)
theorem hd_le {a b : Nat} (h : a ≤ b) (hb : b ≤ 4) : nI (10 ^ a) ≤ nI (10 ^ b) := (p10_le (by omega) hb).mpr h
end
-- SUMS OF COUNTS are small
theorem bI_b {P : Prop} [Decidable P] : 0 ≤ (bI P).toInt ∧ (bI P).toInt ≤ 1 := by
  unfold bI
  split <;> decide
theorem sT_b {g : Nat → Int32} {M : Int} : ∀ {n : Nat}, (n : Int) * M < 1073741824 → 0 ≤ M → (∀ k, k < n → 0 ≤ (g k).toInt ∧ (g k).toInt ≤ M) → 0 ≤ (sT g n).toInt ∧ (sT g n).toInt ≤ (n : Int) * M
  | 0, _, _, _ => by simp [sT]
  | n + 1, hn, hM, h => by
    have e : ((n + 1 : Nat) : Int) * M = (n : Int) * M + M := by rw [Int.natCast_add, Int.add_mul]; simp
    rw [e] at hn ⊢
    have ih := sT_b (g := g) (n := n) (by omega) hM (fun k hk => h k (Nat.lt_succ_of_lt hk))
    have hk := h n (Nat.lt_succ_self n)
    show 0 ≤ (sT g n + g n).toInt ∧ (sT g n + g n).toInt ≤ _
    rw [Int32.toInt_add, Int.bmod_eq_of_le (by omega) (by omega)]
    omega
/-- the disagreements of a filing -/
def disT (ck cf cd : Nat → Nat) (cv : Nat → Int32) (nF : Nat) (f : Nat) : Int32 := sT (fun k => if nI (cf k) = nI f then sT (fun j => bI (nI (cf k) = nI (cf j) ∧ nI (ck k) = nI (ck j) ∧ nI (10 ^ cd k) + nI (10 ^ cd j) < 2 * farI (cv k) (cv j))) k else 0) nF
section
variable {ck cf cd : Nat → Nat} {cv : Nat → Int32} {nF nL K d f : Nat} {vi : Int32}
theorem dis_row {k : Nat} (hk : k ≤ 80) : 0 ≤ ((if nI (cf k) = nI f then sT (fun j => bI (nI (cf k) = nI (cf j) ∧ nI (ck k) = nI (ck j) ∧ nI (10 ^ cd k) + nI (10 ^ cd j) < 2 * farI (cv k) (cv j))) k else 0 : Int32)).toInt ∧
    ((if nI (cf k) = nI f then sT (fun j => bI (nI (cf k) = nI (cf j) ∧ nI (ck k) = nI (ck j) ∧ nI (10 ^ cd k) + nI (10 ^ cd j) < 2 * farI (cv k) (cv j))) k else 0 : Int32)).toInt ≤ 80 := by
  by_cases q : nI (cf k) = nI f
  · rw [if_pos q]
    have := sT_b (g := fun j => bI (nI (cf k) = nI (cf j) ∧ nI (ck k) = nI (ck j) ∧ nI (10 ^ cd k) + nI (10 ^ cd j) < 2 * farI (cv k) (cv j))) (M := 1) (n := k) (by omega) (by decide) (fun j _ => bI_b)
    omega
  · rw [if_neg q]; decide
theorem dis_b (hF : nF ≤ 80) : 0 ≤ (disT ck cf cd cv nF f).toInt ∧ (disT ck cf cd cv nF f).toInt ≤ 6400 := by
  have := sT_b (g := fun k => if nI (cf k) = nI f then sT (fun j => bI (nI (cf k) = nI (cf j) ∧ nI (ck k) = nI (ck j) ∧ nI (10 ^ cd k) + nI (10 ^ cd j) < 2 * farI (cv k) (cv j))) k else 0) (M := 80) (n := nF) (by omega) (by decide) (fun k hk => dis_row (by omega))
  unfold disT
  omega
theorem dis_nn (hF : nF ≤ 80) : ¬ disT ck cf cd cv nF f < 0 := by
  have := dis_b (ck := ck) (cf := cf) (cd := cd) (cv := cv) (f := f) hF
  rw [Int32.lt_iff_toInt_lt, Int32.toInt_zero]
  omega
theorem dis_grow (hF : nF < 80) : ¬ disT (va_up ck nF K) (va_up cf nF nL) (va_up cd nF d) (upd cv nF vi) (nF + 1) f < disT ck cf cd cv nF f := by
  have e : sT (fun k => if nI ((va_up cf nF nL) k) = nI f then sT (fun j => bI (nI ((va_up cf nF nL) k) = nI ((va_up cf nF nL) j) ∧ nI ((va_up ck nF K) k) = nI ((va_up ck nF K) j) ∧ nI (10 ^ (va_up cd nF d) k) + nI (10 ^ (va_up cd nF d) j) < 2 * farI ((upd cv nF vi) k) ((upd cv nF vi) j))) k else 0) nF = disT ck cf cd cv nF f := by
    refine sT_congr (fun k hk => ?_)
    rw [up_ne hk, up_ne hk, up_ne hk, upd_ne (by omega)]
    by_cases q : nI (cf k) = nI f
    · rw [if_pos q, if_pos q]
      refine sT_congr (fun j hj => ?_)
      rw [up_ne (by omega), up_ne (by omega), up_ne (by omega), upd_ne (by omega)]
    · rw [if_neg q, if_neg q]
  have h1 := dis_b (ck := ck) (cf := cf) (cd := cd) (cv := cv) (f := f) (Nat.le_of_lt hF)
  have h2 := dis_row (ck := va_up ck nF K) (cf := va_up cf nF nL) (cd := va_up cd nF d) (cv := upd cv nF vi) (f := f) (Nat.le_of_lt hF)
  unfold disT
  rw [show ∀ g : Nat → Int32, sT g (nF + 1) = sT g nF + g nF from fun _ => rfl, e]
  unfold disT at h1 ⊢
  rw [Int32.lt_iff_toInt_lt, Int32.toInt_add, Int.bmod_eq_of_le (by omega) (by omega)]
  omega
theorem dis_new (hcf : ∀ k, cf k < 8) (hfL : ∀ k, k < nF → cf k ≤ nL) (hL : nL < 7) : disT ck cf cd cv nF (nL + 1) = 0 := sT_zero (fun k hk => if_neg (fun z => by
  have := (nI_eq (by have := hcf k; omega) (by omega)).mp z
  have := hfL k hk
  omega))
theorem rst_new {nC : Nat} (hcf : ∀ k, cf k < 8) (hfL : ∀ k, k < nF → cf k ≤ nL) (hL : nL < 7) : sT (fun k => bI (rstB (nI (nL + 1)) (hC ck cf cd nF (nI k) (nI (nL + 1))) (hC ck cf cd nF (nI k) (nI (nL + 1) - 1)) cf cv = true)) (nC * 40) = 0 := sT_zero (fun k _ => (bI_f (fun z => by
  cases ho : hC ck cf cd nF (nI k) (nI (nL + 1)) with
  | none => rw [ho] at z; exact nomatch z
  | some j =>
    rw [ho] at z
    have z : (decide (nI (cf j) = nI (nL + 1)) && _) = true := z
    rw [Bool.and_eq_true] at z
    have := (nI_eq (by have := hcf j; omega) (by omega)).mp (of_decide_eq_true z.1)
    have := hfL j (sel_lt ho).1
    omega)).symm)
theorem rst_0 {nC : Nat} (hcf : ∀ k, cf k < 8) : sT (fun k => bI (rstB (nI 0) (hC ck cf cd nF (nI k) (nI 0)) (hC ck cf cd nF (nI k) (nI 0 - 1)) cf cv = true)) (nC * 40) = 0 := sT_zero (fun k _ => (bI_f (fun z => by
  have hn : hC ck cf cd nF (nI k) (nI 0 - 1) = none := by
    cases ho : hC ck cf cd nF (nI k) (nI 0 - 1) with
    | none => rfl
    | some j =>
      have h := hC_f ho
      have := hcf j
      rw [Int32.le_iff_toInt_le, nI_toInt (by omega), show (nI 0 - 1).toInt = -1 by decide] at h
      omega
  rw [hn] at z
  cases ho : hC ck cf cd nF (nI k) (nI 0) with
  | none => rw [ho] at z; exact nomatch z
  | some j =>
    rw [ho] at z
    have z : (decide (nI (cf j) = nI 0) && false) = true := z
    rw [Bool.and_false] at z
    exact nomatch z)).symm)
end
theorem val_a {n : Nat} (h : n < 2000001) : (-1000000) ≤ nI n - 1000000 ∧ nI n - 1000000 ≤ (1000000) := by
  have e : (nI n - 1000000).toInt = n - 1000000 := by rw [Int32.toInt_sub, nI_toInt (by omega), show (1000000 : Int32).toInt = 1000000 by decide, Int.bmod_eq_of_le (by omega) (by omega)]
  rw [Int32.le_iff_toInt_le, Int32.le_iff_toInt_le, e, show (-1000000 : Int32).toInt = -1000000 by decide, show (1000000 : Int32).toInt = 1000000 by decide]
  omega
theorem val_b {n : Nat} (h : n < 60) : (-1000000) ≤ nI n - 20 ∧ nI n - 20 ≤ (1000000) := by
  have e : (nI n - 20).toInt = n - 20 := by rw [Int32.toInt_sub, nI_toInt (by omega), show (20 : Int32).toInt = 20 by decide, Int.bmod_eq_of_le (by omega) (by omega)]
  rw [Int32.le_iff_toInt_le, Int32.le_iff_toInt_le, e, show (-1000000 : Int32).toInt = -1000000 by decide, show (1000000 : Int32).toInt = 1000000 by decide]
  omega
theorem nI_neg {n : Nat} {x : Int32} (h : n < 2 ^ 31) (hx : x.toInt < 0) : ¬ nI n = x := fun e => by
  rw [← e, nI_toInt h] at hx
  omega
-- THE STATE, as the law's loop has it
def lI (D : va_G) (cI cO : ClassId) (A : Nat → Prop) (a : Nat → Nat) (pb rb cb : Nat) (n0 : Nat) (H : Heap) : Prop :=
  ∃ (FA : Nat → Nat) (nC nR nL nF : Nat) (par wt : Nat → Int32) (sk fk : Nat → Nat) (hd : Nat → Option Nat) (rea sig : Nat → Int32) (ck cf cd : Nat → Nat) (cv : Nat → Int32) (nx : Nat → Option Nat) (pv rv kv : Nat → Int32) (L : List Nat),
    (n0 ≤ nC ∧ sOk nC nR nL nF par wt sk fk hd ck cf cd cv nx L ∧ pOk nC par wt pv ∧ rOk2 nR sk fk rv ∧ kOk nC nR nL nF kv) ∧
    va_P D vwCl (WD cI cO a FA nC nR nL nF par wt (fun r => nI (sk r)) (fun r => nI (fk r)) hd rea sig ++ (WF FA ck cf cd cv nx nF ++ (LR cI pb rb cb pv rv kv))) H ∧ va_D A (WD cI cO a FA nC nR nL nF par wt (fun r => nI (sk r)) (fun r => nI (fk r)) hd rea sig ++ (WF FA ck cf cd cv nx nF ++ (LR cI pb rb cb pv rv kv)))
theorem lI_mk {D : va_G} {cI cO : ClassId} {A : Nat → Prop} {a : Nat → Nat} {pb rb cb n0 : Nat} {H : Heap} {FA : Nat → Nat} {nC nR nL nF : Nat} {par wt : Nat → Int32} {sk fk : Nat → Nat} {hd : Nat → Option Nat} {rea sig : Nat → Int32} {ck cf cd : Nat → Nat} {cv : Nat → Int32} {nx : Nat → Option Nat} {pv rv kv : Nat → Int32} {L : List Nat}
    (h0 : n0 ≤ nC) (hOk : sOk nC nR nL nF par wt sk fk hd ck cf cd cv nx L) (hpk : pOk nC par wt pv) (hrk : rOk2 nR sk fk rv) (hkk : kOk nC nR nL nF kv)
    (hP : va_P D vwCl (WD cI cO a FA nC nR nL nF par wt (fun r => nI (sk r)) (fun r => nI (fk r)) hd rea sig ++ (WF FA ck cf cd cv nx nF ++ (LR cI pb rb cb pv rv kv))) H) (hD : va_D A (WD cI cO a FA nC nR nL nF par wt (fun r => nI (sk r)) (fun r => nI (fk r)) hd rea sig ++ (WF FA ck cf cd cv nx nF ++ (LR cI pb rb cb pv rv kv)))) :
    lI D cI cO A a pb rb cb n0 H := ⟨FA, nC, nR, nL, nF, par, wt, sk, fk, hd, rea, sig, ck, cf, cd, cv, nx, pv, rv, kv, L, ⟨h0, hOk, hpk, hrk, hkk⟩, hP, hD⟩
