/-! A STEP AS A FUNCTION -/
def xOp (w : Int32) : Nat := (wI w).toNatClampNeg
def xPr (op : Nat) : Nat := ([1, 1, 1, 1, 1, 1, 1, 2, 3, 3, 1, 1, 1, 1, 1, 1, 2, 2, 10, 0, 1, 1, 1, 1, 5, 8, 1, 0, 1, 1] : List Nat).getD op 0
def xPrice (op : Nat) (sf : Nat → Int32) (sn : Nat) (σ : Int64 → Int32) (ac : Nat) : Nat :=
  if op = 19 then (if sn < 2 then 5 else if σ (xSlot (nI ac) (sf (sn - 1 - 1))) = sf (sn - 1) then 5 else if σ (xSlot (nI ac) (sf (sn - 1 - 1))) = 0 then 40 else 20)
  else if op = 27 then (if sn < 2 ∨ sf (sn - 1 - 1) = 0 then 25 else 40) else xPr op
def xNeed (op : Nat) (x : Int32) : Nat := xNd op + (if op = 3 ∨ op = 4 ∨ op = 27 then x.toNatClampNeg else 0)
theorem fPrice_nI {op : Nat} (h : op < 30) : fPrice op = nI (xPr op) := by
  have : ∀ k : Fin 30, fPrice k.val = nI (xPr k.val) := by decide +kernel
  exact this ⟨op, h⟩
theorem fNeed_nI {op : Nat} (h : op < 30) : fNeed op = nI (xNd op) := by
  have : ∀ k : Fin 30, fNeed k.val = nI (xNd k.val) := by decide +kernel
  exact this ⟨op, h⟩
theorem xPr_lt {op : Nat} (h : op < 30) : xPr op ≤ 10 := by
  have : ∀ k : Fin 30, xPr k.val ≤ 10 := by decide +kernel
  exact this ⟨op, h⟩
theorem xPr_pos {op : Nat} (h : op < 30) (h1 : op ≠ 19) (h2 : op ≠ 27) : 1 ≤ xPr op := by
  have : ∀ k : Fin 30, k.val ≠ 19 → k.val ≠ 27 → 1 ≤ xPr k.val := by decide +kernel
  exact this ⟨op, h⟩ h1 h2
theorem xNd_lt {op : Nat} (h : op < 30) : xNd op ≤ 3 := by
  have : ∀ k : Fin 30, xNd k.val ≤ 3 := by decide +kernel
  exact this ⟨op, h⟩
theorem xPrice_I {op : Nat} {sf : Nat → Int32} {sn : Nat} {σ : Int64 → Int32} {ac : Nat} (h : op < 30) :
    (if op = 19 then (if sn < 2 then 5 else if σ (xSlot (nI ac) (sf (sn - 1 - 1))) = sf (sn - 1) then 5 else if σ (xSlot (nI ac) (sf (sn - 1 - 1))) = 0 then 40 else 20) else if op = 27 then (if sn < 2 ∨ sf (sn - 1 - 1) = 0 then 25 else 40) else fPrice op) = nI (xPrice op sf sn σ ac) := by
  unfold xPrice
  by_cases c1 : op = 19
  · rw [if_pos c1, if_pos c1]
    by_cases c2 : sn < 2
    · rw [if_pos c2, if_pos c2]; rfl
    · rw [if_neg c2, if_neg c2]
      by_cases c3 : σ (xSlot (nI ac) (sf (sn - 1 - 1))) = sf (sn - 1)
      · rw [if_pos c3, if_pos c3]; rfl
      · rw [if_neg c3, if_neg c3]
        by_cases c4 : σ (xSlot (nI ac) (sf (sn - 1 - 1))) = 0
        · rw [if_pos c4, if_pos c4]; rfl
        · rw [if_neg c4, if_neg c4]; rfl
  · rw [if_neg c1, if_neg c1]
    by_cases c2 : op = 27
    · rw [if_pos c2, if_pos c2]
      by_cases c3 : sn < 2 ∨ sf (sn - 1 - 1) = 0
      · rw [if_pos c3, if_pos c3]; rfl
      · rw [if_neg c3, if_neg c3]; rfl
    · rw [if_neg c2, if_neg c2]; exact fPrice_nI h
theorem xPrice_le {op : Nat} {sf : Nat → Int32} {sn : Nat} {σ : Int64 → Int32} {ac : Nat} (h : op < 30) : xPrice op sf sn σ ac ≤ 40 ∧ 1 ≤ xPrice op sf sn σ ac := by
  unfold xPrice
  by_cases c1 : op = 19
  · rw [if_pos c1]
    split
    · omega
    · split
      · omega
      · split <;> omega
  · rw [if_neg c1]
    by_cases c2 : op = 27
    · rw [if_pos c2]; split <;> omega
    · rw [if_neg c2]
      have := xPr_lt h
      have := xPr_pos h c1 c2
      omega
theorem xPrice_19 {op : Nat} {sf : Nat → Int32} {sn : Nat} {σ : Int64 → Int32} {ac : Nat} (h : op = 19) (h2 : 2 ≤ sn) (hne : σ (xSlot (nI ac) (sf (sn - 1 - 1))) ≠ sf (sn - 1)) : 20 ≤ xPrice op sf sn σ ac := by
  unfold xPrice
  rw [if_pos h, if_neg (by omega), if_neg hne]
  split <;> omega
theorem xNeed_I {op : Nat} {x : Int32} (h : op < 30) (hx : op = 3 ∨ op = 4 ∨ op = 27 → x = nI x.toNatClampNeg) : (if op = 3 ∨ op = 4 ∨ op = 27 then fNeed op + x else fNeed op) = nI (xNeed op x) := by
  unfold xNeed
  by_cases c : op = 3 ∨ op = 4 ∨ op = 27
  · rw [if_pos c, if_pos c, fNeed_nI h]
    calc nI (xNd op) + x = nI (xNd op) + nI x.toNatClampNeg := by rw [← hx c]
      _ = _ := nI_add _ _
  · rw [if_neg c, if_neg c]; exact fNeed_nI h
/-- what a good word is -/
theorem wGood_of {w : Int32} {len : Nat} (h : wGood w len = true) (hl : len ≤ 160) :
    xOp w < 30 ∧ wI w = nI (xOp w) ∧ (xOp w = 3 ∨ xOp w = 4 ∨ xOp w = 16 ∨ xOp w = 17 ∨ xOp w = 27 → wN w = nI (wN w).toNatClampNeg ∧ (wN w).toNatClampNeg ≤ 160) ∧
    (xOp w = 3 ∨ xOp w = 4 → (wN w).toNatClampNeg ≤ 15) ∧ (xOp w = 4 → 1 ≤ (wN w).toNatClampNeg) ∧ (xOp w = 16 ∨ xOp w = 17 → (wN w).toNatClampNeg ≤ len) ∧ (xOp w = 27 → (wN w).toNatClampNeg ≤ 8) := by
  obtain ⟨j, hj, e⟩ := pk_andE w (m := 255) 8 (by decide)
  have e : wI w = nI j := e
  have hop : xOp w = j := by unfold xOp; rw [e, nI_clamp (by omega)]
  rw [hop, e]
  have q : ∀ k : Nat, k < 2 ^ 31 → (nI j = nI k ↔ j = k) := fun k hk => nI_eq (by omega) hk
  have hk : ∀ (M : Nat), M ≤ 160 → ¬ wN w < 0 → ¬ nI M < wN w → wN w = nI (wN w).toNatClampNeg ∧ (wN w).toNatClampNeg ≤ M := by
    intro M hM h1 h2
    have a := x_nn h1
    refine ⟨a, ?_⟩
    rcases Nat.lt_or_ge M (wN w).toNatClampNeg with g | g
    · refine absurd ?_ h2
      obtain ⟨t, ht, et⟩ := nI_of h1
      rw [et, nI_clamp ht] at g
      rw [et]; exact nI_lt g ht
    · exact g
  unfold wGood at h
  rw [e] at h
  have c3 : (nI j = 3 ↔ j = 3) := q 3 (by decide)
  have c4 : (nI j = 4 ↔ j = 4) := q 4 (by decide)
  have c16 : (nI j = 16 ↔ j = 16) := q 16 (by decide)
  have c17 : (nI j = 17 ↔ j = 17) := q 17 (by decide)
  have c27 : (nI j = 27 ↔ j = 27) := q 27 (by decide)
  simp only [c3, c4, c16, c17, c27] at h
  by_cases g3 : j = 3
  · rw [if_pos g3] at h
    simp only [Bool.and_eq_true, Bool.not_eq_true', decide_eq_false_iff_not] at h
    obtain ⟨a, b⟩ := hk 15 (by omega) h.1 h.2
    exact ⟨by omega, rfl, fun _ => ⟨a, by omega⟩, fun _ => b, fun _ => by omega, fun _ => by omega, fun _ => by omega⟩
  · rw [if_neg g3] at h
    by_cases g4 : j = 4
    · rw [if_pos g4] at h
      simp only [Bool.and_eq_true, Bool.not_eq_true', decide_eq_false_iff_not] at h
      have h0 : ¬ wN w < 0 := fun z => h.1 (Int32.lt_trans z (by decide))
      obtain ⟨a, b⟩ := hk 15 (by omega) h0 h.2
      refine ⟨by omega, rfl, fun _ => ⟨a, by omega⟩, fun _ => b, fun _ => ?_, fun _ => by omega, fun _ => by omega⟩
      rcases Nat.eq_zero_or_pos (wN w).toNatClampNeg with g | g
      · rw [g] at a
        exact absurd (by rw [a]; decide) h.1
      · exact g
    · rw [if_neg g4] at h
      by_cases g5 : j = 16 ∨ j = 17
      · rw [if_pos g5] at h
        simp only [Bool.and_eq_true, Bool.not_eq_true', decide_eq_false_iff_not] at h
        obtain ⟨a, b⟩ := hk len hl h.1 h.2
        exact ⟨by omega, rfl, fun _ => ⟨a, by omega⟩, fun _ => by omega, fun _ => by omega, fun _ => b, fun _ => by omega⟩
      · rw [if_neg g5] at h
        by_cases g6 : j = 27
        · rw [if_pos g6] at h
          simp only [Bool.and_eq_true, Bool.not_eq_true', decide_eq_false_iff_not] at h
          obtain ⟨a, b⟩ := hk 8 (by omega) h.1 h.2
          exact ⟨by omega, rfl, fun _ => ⟨a, by omega⟩, fun _ => by omega, fun _ => by omega, fun _ => by omega, fun _ => b⟩
        · rw [if_neg g6] at h
          simp only [Bool.not_eq_true', decide_eq_false_iff_not] at h
          have hlt : j < 30 := by
            rcases Nat.lt_or_ge j 30 with g | g
            · exact g
            · exact absurd (nI_le (a := 30) g (by omega)) h
          exact ⟨hlt, rfl, fun _ => by omega, fun _ => by omega, fun _ => by omega, fun _ => by omega, fun _ => by omega⟩
/-- a code in which nothing but good words is sealed -/
def xCode (cw : Nat → Int32) (lc : Nat → Nat) (z : Nat → Bool) : Prop := ∀ a, a < 24 → lc a ≤ 160 ∧ (z a = true → ∀ k, k < lc a → wGood (cw (a * 160 + k)) (lc a) = true)
def xLen (lc : Nat → Nat) (z : Nat → Bool) (a : Nat) : Nat := if z a = true then lc a else 0
/-- one step of a run, but for CALL -/
def xStep (cw : Nat → Int32) (lc : Nat → Nat) (z : Nat → Bool) (nA ac : Nat) (cl vl : Int32) (rf : Nat → Int32) (rn : Nat) (F : XF) (S : XS) : XF × XS :=
  if ¬ F.2.2.1 < xLen lc z ac then ((F.1, F.2.1, F.2.2.1, F.2.2.2.1, 0, 0), S)
  else if F.2.2.2.1 < xPrice (xOp (cw (ac * 160 + F.2.2.1))) F.1 F.2.1 S.2.1 ac then ((F.1, F.2.1, F.2.2.1, 0, 2, 0), S)
  else if F.2.1 < xNeed (xOp (cw (ac * 160 + F.2.2.1))) (wN (cw (ac * 160 + F.2.2.1))) then ((F.1, F.2.1, F.2.2.1, 0, 3, 0), S)
  else if ¬ F.2.1 < 32 ∧ xPush (xOp (cw (ac * 160 + F.2.2.1))) = true then ((F.1, F.2.1, F.2.2.1, 0, 4, 0), S)
  else xPerf (xOp (cw (ac * 160 + F.2.2.1))) (wN (cw (ac * 160 + F.2.2.1))) nA ac cl vl rf rn (F.1, F.2.1, F.2.2.1 + 1, F.2.2.2.1 - xPrice (xOp (cw (ac * 160 + F.2.2.1))) F.1 F.2.1 S.2.1 ac, F.2.2.2.2) S
/-- the step is a CALL that is paid and has what it needs -/
def xIsCall (cw : Nat → Int32) (lc : Nat → Nat) (z : Nat → Bool) (ac : Nat) (F : XF) (S : XS) : Prop :=
  F.2.2.1 < xLen lc z ac ∧ xOp (cw (ac * 160 + F.2.2.1)) = 27 ∧ ¬ F.2.2.2.1 < xPrice 27 F.1 F.2.1 S.2.1 ac ∧ ¬ F.2.1 < xNeed 27 (wN (cw (ac * 160 + F.2.2.1)))
