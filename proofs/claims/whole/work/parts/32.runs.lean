/-! STEPS, CALLS AND RUNS RESPECT WHAT CAN'T BE SEEN -/
theorem xPrice_congr {op : Nat} {sf sg : Nat → Int32} {sn : Nat} {σ : Int64 → Int32} {ac : Nat} (h : ∀ i, i < sn → sf i = sg i) : xPrice op sf sn σ ac = xPrice op sg sn σ ac := by
  unfold xPrice
  by_cases c : sn < 2
  · simp only [c, if_true, true_or]
  · rw [h (sn - 1) (by omega), h (sn - 1 - 1) (by omega)]
theorem xStep_congr {cw : Nat → Int32} {lc : Nat → Nat} {z : Nat → Bool} {nA ac : Nat} {cl vl : Int32} {rf rf2 : Nat → Int32} {rn : Nat} {F G : XF} {S T : XS} (hcd : xCode cw lc z) (hac : ac < nA) (hnA : nA ≤ 24) (hrn : rn ≤ 8) (hR : ∀ i, i < rn → rf i = rf2 i) (hnc : ¬ xIsCall cw lc z ac F S) (hF : FEq F G) (hS : SEq nA S T) :
    FEq (xStep cw lc z nA ac cl vl rf rn F S).1 (xStep cw lc z nA ac cl vl rf2 rn G T).1 ∧ SEq nA (xStep cw lc z nA ac cl vl rf rn F S).2 (xStep cw lc z nA ac cl vl rf2 rn G T).2 := by
  obtain ⟨sf, sn, pk, gs, en, an⟩ := F
  obtain ⟨sg, r2⟩ := G
  obtain ⟨bal, σ, kn, lf, ln⟩ := S
  obtain ⟨bal2, σ2, kn2, lg, ln2⟩ := T
  obtain ⟨hF1, hF2⟩ := hF
  obtain ⟨hB, h2, h3, h4, hL⟩ := id hS
  dsimp only at hF1 hF2 hB h2 h3 h4 hL
  subst hF1; subst h2; subst h3; subst h4
  unfold xStep
  dsimp only
  rw [← xPrice_congr (op := xOp (cw (ac * 160 + pk))) (σ := σ) (ac := ac) hF2]
  by_cases c1 : ¬ pk < xLen lc z ac
  · rw [if_pos c1, if_pos c1]; exact ⟨⟨rfl, hF2⟩, hS⟩
  · rw [if_neg c1, if_neg c1]
    by_cases c2 : gs < xPrice (xOp (cw (ac * 160 + pk))) sf sn σ ac
    · rw [if_pos c2, if_pos c2]; exact ⟨⟨rfl, hF2⟩, hS⟩
    · rw [if_neg c2, if_neg c2]
      by_cases c3 : sn < xNeed (xOp (cw (ac * 160 + pk))) (wN (cw (ac * 160 + pk)))
      · rw [if_pos c3, if_pos c3]; exact ⟨⟨rfl, hF2⟩, hS⟩
      · rw [if_neg c3, if_neg c3]
        by_cases c4 : ¬ sn < 32 ∧ xPush (xOp (cw (ac * 160 + pk))) = true
        · rw [if_pos c4, if_pos c4]; exact ⟨⟨rfl, hF2⟩, hS⟩
        · rw [if_neg c4, if_neg c4]
          have c1 : pk < xLen lc z ac := Decidable.not_not.mp c1
          have hzt : z ac = true := Decidable.byContradiction (fun g => by unfold xLen at c1; rw [if_neg g] at c1; omega)
          have hpl : pk < lc ac := by unfold xLen at c1; rw [if_pos hzt] at c1; exact c1
          obtain ⟨hop, hwI, hxx, hx1, hx2, hx3, hx4⟩ := wGood_of ((hcd ac (by omega)).2 hzt pk hpl) (hcd ac (by omega)).1
          have h27 : xOp (cw (ac * 160 + pk)) ≠ 27 := fun q => hnc ⟨c1, q, by rw [q] at c2; exact c2, by rw [q] at c3; exact c3⟩
          have hnd : xNd (xOp (cw (ac * 160 + pk))) ≤ sn := by unfold xNeed at c3; omega
          exact xPerf_congr hop h27 hnd (fun q => by
            unfold xNeed at c3
            rw [if_pos (by omega)] at c3
            have : 1 ≤ xNd (xOp (cw (ac * 160 + pk))) := by rcases q with q | q <;> (rw [q]; decide)
            omega) (by omega) (by omega) hF2 hB hL hR
theorem xIsCall_congr {cw : Nat → Int32} {lc : Nat → Nat} {z : Nat → Bool} {nA ac : Nat} {F G : XF} {S T : XS} (hF : FEq F G) (hS : SEq nA S T) : xIsCall cw lc z ac F S ↔ xIsCall cw lc z ac G T := by
  obtain ⟨sf, sn, pk, gs, en, an⟩ := F
  obtain ⟨sg, r2⟩ := G
  obtain ⟨bal, σ, kn, lf, ln⟩ := S
  obtain ⟨bal2, σ2, kn2, lg, ln2⟩ := T
  obtain ⟨hF1, hF2⟩ := hF
  obtain ⟨hB, h2, h3, h4, hL⟩ := id hS
  dsimp only at hF1 hF2 hB h2 h3 h4 hL
  subst hF1; subst h2; subst h3; subst h4
  unfold xIsCall
  dsimp only
  rw [← xPrice_congr (op := 27) (σ := σ) (ac := ac) hF2]
/-- a run within asks for nothing that can't be seen -/
def CongF (nA : Nat) (f : XC) : Prop := ∀ (fr ac : Nat) (v : Int32) (g : Nat) (rf rf2 : Nat → Int32) (rn : Nat) (S T : XS), fr < nA → ac < nA → rn ≤ 8 → (∀ i, i < rn → rf i = rf2 i) → SEq nA S T →
  (f fr ac v g rf rn S).1 = (f fr ac v g rf2 rn T).1 ∧ (f fr ac v g rf rn S).2.1 = (f fr ac v g rf2 rn T).2.1 ∧ (f fr ac v g rf rn S).2.2.1 = (f fr ac v g rf2 rn T).2.2.1 ∧ SEq nA (f fr ac v g rf rn S).2.2.2 (f fr ac v g rf2 rn T).2.2.2
theorem xCall_congr {f : Option XC} {j nA ac : Nat} {F G : XF} {S T : XS} (hf : ∀ g, f = some g → CongF nA g) (hac : ac < nA) (hnA : nA ≤ 24) (hj : j ≤ 8) (hn : 3 + j ≤ F.2.1) (hF : FEq F G) (hS : SEq nA S T) :
    FEq (xCall f j nA ac F S).1 (xCall f j nA ac G T).1 ∧ SEq nA (xCall f j nA ac F S).2 (xCall f j nA ac G T).2 := by
  obtain ⟨sf, sn, pk, gs, en, an⟩ := F
  obtain ⟨sg, r2⟩ := G
  obtain ⟨bal, σ, kn, lf, ln⟩ := S
  obtain ⟨bal2, σ2, kn2, lg, ln2⟩ := T
  obtain ⟨hF1, hF2⟩ := hF
  obtain ⟨hB, h2, h3, h4, hL⟩ := id hS
  dsimp only at hF1 hF2 hB h2 h3 h4 hL hn
  subst hF1; subst h2; subst h3; subst h4
  have e0 : sf (sn - 1) = sg (sn - 1) := hF2 _ (by omega)
  have e1 : sf (sn - 1 - 1) = sg (sn - 1 - 1) := hF2 _ (by omega)
  have e2 : sf (sn - 1 - 1 - 1) = sg (sn - 1 - 1 - 1) := hF2 _ (by omega)
  have hd : ∀ i, i < sn - 1 - 1 - 1 - j → sf i = sg i := fun i hi => hF2 i (by omega)
  cases f with
  | none => exact ⟨⟨rfl, ag_push (ag_push hd rfl) rfl⟩, hS⟩
  | some f =>
    have hcan : xCan nA ac bal (sf (sn - 1)) (sf (sn - 1 - 1)) = xCan nA ac bal2 (sg (sn - 1)) (sg (sn - 1 - 1)) := by unfold xCan; rw [e0, e1, hB ac hac]
    unfold xCall
    dsimp only
    have hcc : (sf (sn - 1 - 1 - 1) < 0 ∨ xCan nA ac bal (sf (sn - 1)) (sf (sn - 1 - 1)) = false) ↔ (sg (sn - 1 - 1 - 1) < 0 ∨ xCan nA ac bal2 (sg (sn - 1)) (sg (sn - 1 - 1)) = false) := by rw [hcan, e2]
    by_cases c : sf (sn - 1 - 1 - 1) < 0 ∨ xCan nA ac bal (sf (sn - 1)) (sf (sn - 1 - 1)) = false
    · rw [if_pos c, if_pos (hcc.mp c)]; exact ⟨⟨rfl, ag_push (ag_push hd rfl) rfl⟩, hS⟩
    · rw [if_neg c, if_neg (fun q => c (hcc.mpr q))]
      have ht : xHas nA (sf (sn - 1)) = true := by
        rcases Bool.eq_false_or_eq_true (xHas nA (sf (sn - 1))) with g | g
        · exact g
        · exact absurd (Or.inr (by unfold xCan; rw [g]; rfl)) c
      obtain ⟨a1, a2, a3, a4⟩ := hf f rfl ac (sf (sn - 1)).toNatClampNeg (sf (sn - 1 - 1)) (xGiven (sf (sn - 1 - 1 - 1)) gs) (fun i => sf (sn - 1 - 1 - 1 - 1 - i)) (fun i => sg (sn - 1 - 1 - 1 - 1 - i)) j (bal, σ, kn, lf, ln) (bal2, σ, kn, lg, ln) hac (xHas_ix ht (by omega)).2 hj (fun i hi => hF2 _ (by omega)) hS
      rw [← e0, ← e1, ← e2]
      refine ⟨⟨?_, ag_push (ag_push hd a2) (by rw [a1])⟩, a4⟩
      dsimp only
      rw [a3]
theorem xStepC_congr {f : Option XC} {cw : Nat → Int32} {lc : Nat → Nat} {z : Nat → Bool} {nA ac : Nat} {cl vl : Int32} {rf rf2 : Nat → Int32} {rn : Nat} {F G : XF} {S T : XS} (hf : ∀ g, f = some g → CongF nA g) (hcd : xCode cw lc z) (hac : ac < nA) (hnA : nA ≤ 24) (hrn : rn ≤ 8) (hR : ∀ i, i < rn → rf i = rf2 i) (hF : FEq F G) (hS : SEq nA S T) :
    FEq (xStepC f cw lc z nA ac cl vl rf rn F S).1 (xStepC f cw lc z nA ac cl vl rf2 rn G T).1 ∧ SEq nA (xStepC f cw lc z nA ac cl vl rf rn F S).2 (xStepC f cw lc z nA ac cl vl rf2 rn G T).2 := by
  unfold xStepC
  by_cases c : xIsCall cw lc z ac F S
  · rw [if_pos c, if_pos ((xIsCall_congr hF hS).mp c)]
    have hp : xPrice 27 F.1 F.2.1 S.2.1 ac = xPrice 27 G.1 G.2.1 T.2.1 ac := by
      rw [← hF.1, ← hS.2.1]; exact xPrice_congr hF.2
    obtain ⟨g1, g2, g3, g4⟩ := c
    have hzt : z ac = true := Decidable.byContradiction (fun g => by unfold xLen at g1; rw [if_neg g] at g1; omega)
    have hpl : F.2.2.1 < lc ac := by unfold xLen at g1; rw [if_pos hzt] at g1; exact g1
    obtain ⟨hop, hwI, hxx, hx1, hx2, hx3, hx4⟩ := wGood_of ((hcd ac (by omega)).2 hzt _ hpl) (hcd ac (by omega)).1
    rw [← hp, ← hF.1]
    refine xCall_congr hf hac hnA (hx4 g2) ?_ ⟨rfl, hF.2⟩ hS
    show 3 + _ ≤ F.2.1
    have e9 : xNeed 27 (wN (cw (ac * 160 + F.2.2.1))) = 3 + (wN (cw (ac * 160 + F.2.2.1))).toNatClampNeg := rfl
    omega
  · rw [if_neg c, if_neg (fun q => c ((xIsCall_congr hF hS).mpr q))]
    exact xStep_congr hcd hac hnA hrn hR c hF hS
theorem xLoop_congr {f : Option XC} {cw : Nat → Int32} {lc : Nat → Nat} {z : Nat → Bool} {nA ac : Nat} {cl vl : Int32} {rf rf2 : Nat → Int32} {rn : Nat} (hf : ∀ g, f = some g → CongF nA g) (hcd : xCode cw lc z) (hac : ac < nA) (hnA : nA ≤ 24) (hrn : rn ≤ 8) (hR : ∀ i, i < rn → rf i = rf2 i) :
    ∀ (n : Nat) (F G : XF) (S T : XS), FEq F G → SEq nA S T → FEq (xLoop f cw lc z nA ac cl vl rf rn n F S).1 (xLoop f cw lc z nA ac cl vl rf2 rn n G T).1 ∧ SEq nA (xLoop f cw lc z nA ac cl vl rf rn n F S).2 (xLoop f cw lc z nA ac cl vl rf2 rn n G T).2 := by
  intro n
  induction n with
  | zero => intro F G S T hF hS; exact ⟨hF, hS⟩
  | succ n ih =>
    intro F G S T hF hS
    unfold xLoop
    rw [← hF.1]
    by_cases c : F.2.2.2.2.1 = -1
    · rw [if_pos c, if_pos c]
      obtain ⟨a, b⟩ := xStepC_congr (cl := cl) (vl := vl) hf hcd hac hnA hrn hR hF hS
      exact ih _ _ _ _ a b
    · rw [if_neg c, if_neg c]; exact ⟨hF, hS⟩
theorem xGoF_congr {f : Option XC} {cw : Nat → Int32} {lc : Nat → Nat} {z : Nat → Bool} {nA : Nat} (hf : ∀ g, f = some g → CongF nA g) (hcd : xCode cw lc z) (hnA : nA ≤ 24) : CongF nA (xGoF f cw lc z nA) := by
  intro fr ac v g rf rf2 rn S T hfr hac hrn hR hS
  have hm : SEq nA (xMove S.1 fr ac v, S.2) (xMove T.1 fr ac v, T.2) := by
    refine ⟨?_, hS.2⟩
    show ∀ i, i < nA → xMove S.1 fr ac v i = xMove T.1 fr ac v i
    unfold xMove
    have h1 : ∀ i, i < nA → upd S.1 fr (S.1 fr - v) i = upd T.1 fr (T.1 fr - v) i := ag_upd hS.1 (by rw [hS.1 fr hfr])
    exact ag_upd h1 (by rw [h1 ac hac])
  obtain ⟨a, b⟩ := xLoop_congr (cl := nI fr) (vl := v) hf hcd hac hnA hrn hR (g + 2) (fun _ => 0, 0, 0, g, -1, 0) (fun _ => 0, 0, 0, g, -1, 0) _ _ ⟨rfl, fun _ _ => rfl⟩ hm
  unfold xGoF
  dsimp only
  rw [← a.1]
  by_cases c : (xLoop f cw lc z nA ac (nI fr) v rf rn (g + 2) (fun _ => 0, 0, 0, g, -1, 0) (xMove S.1 fr ac v, S.2)).1.2.2.2.2.1 = 0
  · rw [if_pos c, if_pos c]; exact ⟨rfl, rfl, rfl, b⟩
  · rw [if_neg c, if_neg c]; exact ⟨rfl, rfl, rfl, hS⟩
theorem xGo_congr {cw : Nat → Int32} {lc : Nat → Nat} {z : Nat → Bool} {nA : Nat} (hcd : xCode cw lc z) (hnA : nA ≤ 24) : ∀ d, CongF nA (xGo cw lc z nA d) := by
  intro d
  induction d with
  | zero => exact xGoF_congr (fun g h => by cases h) hcd hnA
  | succ d ih => exact xGoF_congr (fun g h => by cases h; exact ih) hcd hnA
/-- what a step without CALL keeps -/
theorem xStep_inv {cw : Nat → Int32} {lc : Nat → Nat} {z : Nat → Bool} {nA ac : Nat} {cl vl : Int32} {rf : Nat → Int32} {rn : Nat} {sf : Nat → Int32} {sn pk gs : Nat} {en an : Int32} {bal : Nat → Int32} {σ : Int64 → Int32} {kn : Nat} {lf : Nat → Int32} {ln : Nat} (hcd : xCode cw lc z) (hac : ac < 24) (hsn : sn ≤ 32) (hpk : pk ≤ 160) (hln : ln ≤ 300)
    (hnc : ¬ xIsCall cw lc z ac (sf, sn, pk, gs, en, an) (bal, σ, kn, lf, ln)) : ∀ R, R = xStep cw lc z nA ac cl vl rf rn (sf, sn, pk, gs, en, an) (bal, σ, kn, lf, ln) →
    R.1.2.1 ≤ 32 ∧ R.1.2.2.1 ≤ 160 ∧ R.1.2.2.2.1 ≤ gs ∧ (R.1.2.2.2.2.1 = -1 → R.1.2.2.2.1 + 1 ≤ gs) ∧ R.2.1 = bal ∧ ln ≤ R.2.2.2.2.2 ∧ R.2.2.2.2.2 ≤ 300 ∧ ∀ i, i < ln → R.2.2.2.2.1 i = lf i := by
  intro R hR
  unfold xStep at hR
  dsimp only at hR
  by_cases c1 : ¬ pk < xLen lc z ac
  · rw [if_pos c1] at hR; subst hR
    exact ⟨hsn, hpk, Nat.le_refl _, fun h => absurd (show (0 : Int32) = -1 from h) (by decide), rfl, Nat.le_refl _, hln, fun _ _ => rfl⟩
  · rw [if_neg c1] at hR
    by_cases c2 : gs < xPrice (xOp (cw (ac * 160 + pk))) sf sn σ ac
    · rw [if_pos c2] at hR; subst hR
      exact ⟨hsn, hpk, Nat.zero_le _, fun h => absurd (show (2 : Int32) = -1 from h) (by decide), rfl, Nat.le_refl _, hln, fun _ _ => rfl⟩
    · rw [if_neg c2] at hR
      by_cases c3 : sn < xNeed (xOp (cw (ac * 160 + pk))) (wN (cw (ac * 160 + pk)))
      · rw [if_pos c3] at hR; subst hR
        exact ⟨hsn, hpk, Nat.zero_le _, fun h => absurd (show (3 : Int32) = -1 from h) (by decide), rfl, Nat.le_refl _, hln, fun _ _ => rfl⟩
      · rw [if_neg c3] at hR
        by_cases c4 : ¬ sn < 32 ∧ xPush (xOp (cw (ac * 160 + pk))) = true
        · rw [if_pos c4] at hR; subst hR
          exact ⟨hsn, hpk, Nat.zero_le _, fun h => absurd (show (4 : Int32) = -1 from h) (by decide), rfl, Nat.le_refl _, hln, fun _ _ => rfl⟩
        · rw [if_neg c4] at hR
          have c1 : pk < xLen lc z ac := Decidable.not_not.mp c1
          have hzt : z ac = true := Decidable.byContradiction (fun g => by unfold xLen at c1; rw [if_neg g] at c1; omega)
          have hpl : pk < lc ac := by unfold xLen at c1; rw [if_pos hzt] at c1; exact c1
          have hla := (hcd ac hac).1
          obtain ⟨hop, hwI, hxx, hx1, hx2, hx3, hx4⟩ := wGood_of ((hcd ac hac).2 hzt pk hpl) hla
          have hpr := xPrice_le (op := xOp (cw (ac * 160 + pk))) (sf := sf) (sn := sn) (σ := σ) (ac := ac) hop
          have hnd : xNd (xOp (cw (ac * 160 + pk))) ≤ sn := by unfold xNeed at c3; omega
          obtain ⟨q1, q2, q3, q4, q5, q6, q7⟩ := xPerf_inv (op := xOp (cw (ac * 160 + pk))) (x := wN (cw (ac * 160 + pk))) (nA := nA) (ac := ac) (cl := cl) (vl := vl) (rf := rf) (rn := rn) (sf := sf) (pk := pk + 1) (gs := gs - xPrice (xOp (cw (ac * 160 + pk))) sf sn σ ac) (en := en) (an := an) (bal := bal) (σ := σ) (kn := kn) (lf := lf) hop (fun q => hnc ⟨c1, q, by rw [q] at c2; exact c2, by rw [q] at c3; exact c3⟩) hnd hsn
            (fun q => Decidable.byContradiction (fun g => c4 ⟨g, q⟩)) (by omega) (fun q => (hxx (by omega)).2) hln
          subst hR
          exact ⟨q1, q2, by omega, fun _ => by omega, q4, q5, q6, q7⟩
