/-! WHAT A RUN LEAVES BEHIND: the list of changes, told by the maps that were (sh, nh) -/
def xGh (σ : Int64 → Int32) (kn : Nat) (cs : Nat → Int64) (nb : Nat → Int32) (ch : Nat) (sh : Nat → Int64 → Int32) (nh : Nat → Nat) : Prop :=
  (∀ i, i < ch → sh i = mU (sh (i + 1)) (cs i) (nb i) ∧ nh i = mN (nh (i + 1)) (sh (i + 1) (cs i)) (nb i) ∧ nh i ≤ 500) ∧ sh ch = σ ∧ nh ch = kn
def xExt (cs : Nat → Int64) (nb : Nat → Int32) (ch : Nat) (sh : Nat → Int64 → Int32) (nh : Nat → Nat) (lf : Nat → Int32) (ln : Nat) (cs2 : Nat → Int64) (nb2 : Nat → Int32) (ch2 : Nat) (sh2 : Nat → Int64 → Int32) (nh2 : Nat → Nat) (lf2 : Nat → Int32) (ln2 : Nat) : Prop :=
  ch ≤ ch2 ∧ (∀ i, i ≤ ch → sh2 i = sh i ∧ nh2 i = nh i) ∧ (∀ i, i < ch → cs2 i = cs i ∧ nb2 i = nb i) ∧ ln ≤ ln2 ∧ ∀ i, i < ln → lf2 i = lf i
theorem xExt.rf {cs : Nat → Int64} {nb : Nat → Int32} {ch : Nat} {sh : Nat → Int64 → Int32} {nh : Nat → Nat} {lf : Nat → Int32} {ln : Nat} : xExt cs nb ch sh nh lf ln cs nb ch sh nh lf ln := ⟨Nat.le_refl _, fun _ _ => ⟨rfl, rfl⟩, fun _ _ => ⟨rfl, rfl⟩, Nat.le_refl _, fun _ _ => rfl⟩
theorem xExt.tr {cs cs2 cs3 : Nat → Int64} {nb nb2 nb3 : Nat → Int32} {ch ch2 ch3 : Nat} {sh sh2 sh3 : Nat → Int64 → Int32} {nh nh2 nh3 : Nat → Nat} {lf lf2 lf3 : Nat → Int32} {ln ln2 ln3 : Nat} (a : xExt cs nb ch sh nh lf ln cs2 nb2 ch2 sh2 nh2 lf2 ln2) (b : xExt cs2 nb2 ch2 sh2 nh2 lf2 ln2 cs3 nb3 ch3 sh3 nh3 lf3 ln3) : xExt cs nb ch sh nh lf ln cs3 nb3 ch3 sh3 nh3 lf3 ln3 := by
  obtain ⟨a1, a2, a3, a4, a5⟩ := a
  obtain ⟨b1, b2, b3, b4, b5⟩ := b
  exact ⟨Nat.le_trans a1 b1, fun i hi => ⟨(b2 i (by omega)).1.trans (a2 i hi).1, (b2 i (by omega)).2.trans (a2 i hi).2⟩, fun i hi => ⟨(b3 i (by omega)).1.trans (a3 i hi).1, (b3 i (by omega)).2.trans (a3 i hi).2⟩, Nat.le_trans a4 b4, fun i hi => (b5 i (by omega)).trans (a5 i hi)⟩
def xBnd (sn2 gs2 ln2 ch2 gs ch : Nat) : Prop := sn2 ≤ 32 ∧ gs2 ≤ gs ∧ ln2 ≤ 300 ∧ ch2 ≤ 500 ∧ 20 * ch2 + gs2 ≤ 20 * ch + gs
theorem mN_inv {n : Nat} {a v : Int32} (h : a ≠ v) (hn : a ≠ 0 → 1 ≤ n) : mN (mN n a v) v a = n := by
  unfold mN
  by_cases ca : a = 0
  · by_cases cv : v = 0
    · exact absurd (ca.trans cv.symm) h
    · simp [ca, cv]
  · have := hn ca
    by_cases cv : v = 0
    · simp [ca, cv]; omega
    · simp [ca, cv]
theorem ST_pos {sl : Nat → Int64} {nu : Nat → Int32} {n : Nat} {σ : Int64 → Int32} {z : Int64} (h : ST sl nu n σ) (hz : σ z ≠ 0) : 1 ≤ n := by
  rcases Nat.eq_zero_or_pos n with g | g
  · exact absurd (h.2.2.2 z (fun i hi => by omega)) hz
  · exact g
theorem mU_back {σ : Int64 → Int32} {z : Int64} {v : Int32} : mU (mU σ z v) z (σ z) = σ := by
  funext w
  by_cases c : w = z
  · subst c; simp [mU]
  · simp [mU, c]
theorem xGh_log {sl : Nat → Int64} {nu : Nat → Int32} {σ σ2 : Int64 → Int32} {kn kn2 : Nat} {cs cs2 : Nat → Int64} {nb nb2 : Nat → Int32} {ch ch2 : Nat} {sh : Nat → Int64 → Int32} {nh : Nat → Nat} (hst : ST sl nu kn σ) (h : xGh σ kn cs nb ch sh nh) (hl : xLog σ kn cs nb ch σ2 kn2 cs2 nb2 ch2) :
    ∃ (sh2 : Nat → Int64 → Int32) (nh2 : Nat → Nat), xGh σ2 kn2 cs2 nb2 ch2 sh2 nh2 ∧ ch ≤ ch2 ∧ (∀ i, i ≤ ch → sh2 i = sh i ∧ nh2 i = nh i) ∧ (∀ i, i < ch → cs2 i = cs i ∧ nb2 i = nb i) ∧ (ch2 = ch ∨ (ch < 500 ∧ ch2 = ch + 1 ∧ σ2 ≠ σ)) := by
  obtain ⟨h1, h2, h3⟩ := h
  rcases hl with ⟨rfl, rfl, rfl, rfl, rfl⟩ | ⟨hc, rfl, z, v, hne, rfl, rfl, rfl, rfl⟩
  · exact ⟨sh, nh, ⟨h1, h2, h3⟩, Nat.le_refl _, fun _ _ => ⟨rfl, rfl⟩, fun _ _ => ⟨rfl, rfl⟩, Or.inl rfl⟩
  · have keep : ∀ i, i ≤ ch → va_up sh (ch + 1) (mU σ z v) i = sh i ∧ va_up nh (ch + 1) (mN kn (σ z) v) i = nh i := fun i hi => ⟨va_up_ne _ _ (by omega), va_up_ne _ _ (by omega)⟩
    refine ⟨va_up sh (ch + 1) (mU σ z v), va_up nh (ch + 1) (mN kn (σ z) v), ⟨fun i hi => ?_, va_up_self _ _ _, va_up_self _ _ _⟩, Nat.le_succ _, keep, fun i hi => ⟨pk_uLn (by omega), pk_un (by omega)⟩, Or.inr ⟨hc, rfl, fun e => hne ?_⟩⟩
    · by_cases c : i = ch
      · subst c
        rw [(keep i (Nat.le_refl _)).1, (keep i (Nat.le_refl _)).2, va_up_self, va_up_self, pk_uLs, pk_us, h2, h3, mU_back, mU_at, mN_inv hne (fun q => ST_pos hst q)]
        exact ⟨rfl, rfl, hst.1⟩
      · obtain ⟨g1, g2, g3⟩ := h1 i (by omega)
        rw [(keep i (by omega)).1, (keep i (by omega)).2, (keep (i + 1) (by omega)).1, (keep (i + 1) (by omega)).2, pk_uLn (by omega), pk_un (by omega)]
        exact ⟨g1, g2, g3⟩
    · have := congrFun e z
      rw [mU_at] at this
      exact this.symm
theorem xPerf_σ {op : Nat} {x : Int32} {nA ac : Nat} {cl vl : Int32} {rf : Nat → Int32} {rn : Nat} {sf : Nat → Int32} {sn pk gs : Nat} {en an : Int32} {bal : Nat → Int32} {σ : Int64 → Int32} {kn : Nat} {lf : Nat → Int32} {ln : Nat} (hop : op < 30) (h27 : op ≠ 27) (h19 : op ≠ 19) :
    (xPerf op x nA ac cl vl rf rn (sf, sn, pk, gs, en, an) (bal, σ, kn, lf, ln)).2.2.1 = σ := by
  rcases (show op = 0 ∨ op = 1 ∨ op = 2 ∨ op = 3 ∨ op = 4 ∨ op = 5 ∨ op = 6 ∨ op = 7 ∨ op = 8 ∨ op = 9 ∨ op = 10 ∨ op = 11 ∨ op = 12 ∨ op = 13 ∨ op = 14 ∨ op = 15 ∨ op = 16 ∨ op = 17 ∨ op = 18 ∨ op = 20 ∨ op = 21 ∨ op = 22 ∨ op = 23 ∨ op = 24 ∨ op = 25 ∨ op = 26 ∨ op = 28 ∨ op = 29 by omega) with rfl | rfl | rfl | rfl | rfl | rfl | rfl | rfl | rfl | rfl | rfl | rfl | rfl | rfl | rfl | rfl | rfl | rfl | rfl | rfl | rfl | rfl | rfl | rfl | rfl | rfl | rfl | rfl <;> simp only [xPerf]
  split <;> rfl
/-- a step that changes the storage pays for it -/
theorem xStep_paid {cw : Nat → Int32} {lc : Nat → Nat} {z : Nat → Bool} {nA ac : Nat} {cl vl : Int32} {rf : Nat → Int32} {rn : Nat} {sf : Nat → Int32} {sn pk gs : Nat} {en an : Int32} {bal : Nat → Int32} {σ : Int64 → Int32} {kn : Nat} {lf : Nat → Int32} {ln : Nat} (hcd : xCode cw lc z) (hac : ac < 24)
    (hnc : ¬ xIsCall cw lc z ac (sf, sn, pk, gs, en, an) (bal, σ, kn, lf, ln)) : ∀ R, R = xStep cw lc z nA ac cl vl rf rn (sf, sn, pk, gs, en, an) (bal, σ, kn, lf, ln) → R.2.2.1 ≠ σ → R.1.2.2.2.1 + 20 ≤ gs := by
  intro R hR hne
  unfold xStep at hR
  dsimp only at hR
  by_cases c1 : ¬ pk < xLen lc z ac
  · rw [if_pos c1] at hR; subst hR; exact absurd rfl hne
  · rw [if_neg c1] at hR
    by_cases c2 : gs < xPrice (xOp (cw (ac * 160 + pk))) sf sn σ ac
    · rw [if_pos c2] at hR; subst hR; exact absurd rfl hne
    · rw [if_neg c2] at hR
      by_cases c3 : sn < xNeed (xOp (cw (ac * 160 + pk))) (wN (cw (ac * 160 + pk)))
      · rw [if_pos c3] at hR; subst hR; exact absurd rfl hne
      · rw [if_neg c3] at hR
        by_cases c4 : ¬ sn < 32 ∧ xPush (xOp (cw (ac * 160 + pk))) = true
        · rw [if_pos c4] at hR; subst hR; exact absurd rfl hne
        · rw [if_neg c4] at hR
          have c1 : pk < xLen lc z ac := Decidable.not_not.mp c1
          have hzt : z ac = true := Decidable.byContradiction (fun g => by unfold xLen at c1; rw [if_neg g] at c1; omega)
          have hpl : pk < lc ac := by unfold xLen at c1; rw [if_pos hzt] at c1; exact c1
          obtain ⟨hop, -⟩ := wGood_of ((hcd ac hac).2 hzt pk hpl) (hcd ac hac).1
          have h27 : xOp (cw (ac * 160 + pk)) ≠ 27 := fun q => hnc ⟨c1, q, by rw [q] at c2; exact c2, by rw [q] at c3; exact c3⟩
          by_cases h19 : xOp (cw (ac * 160 + pk)) = 19
          · have hnd : 2 ≤ sn := by
              have e9 : xNd (xOp (cw (ac * 160 + pk))) = 2 := by rw [h19]; decide
              unfold xNeed at c3; omega
            have key : σ (xSlot (nI ac) (sf (sn - 1 - 1))) ≠ sf (sn - 1) → R.1.2.2.2.1 + 20 ≤ gs := by
              intro q
              have hp := xPrice_19 (op := xOp (cw (ac * 160 + pk))) (σ := σ) (ac := ac) h19 hnd q
              rw [hR]
              rw [h19] at hp c2 ⊢
              simp only [xPerf]
              split <;> dsimp only <;> omega
            apply key
            intro q
            apply hne
            rw [hR, h19]
            simp only [xPerf]
            split
            · rfl
            · exact mU_self q
          · exact absurd (by rw [hR]; exact xPerf_σ hop h27 h19) hne
/-- the runs within: their cells in a row, each with the next one -/
def xChain (kI : ClassId) (qc qb qs qk : Nat) : Nat → Value → va_W → Prop
  | 0, iv, pl => iv = .null ∧ pl = []
  | d + 1, iv, pl => ∃ (i0 js ja jb js1 ja1 : Nat) (jv : Value) (f1 f2 f3 f4 f5 f6 f7 f8 f9 : Int32) (jf jr jbb : Nat → Int32) (jn jm : Nat) (pl' : va_W), iv = .ref i0 ∧ jn ≤ 32 ∧ jm ≤ 8 ∧
      pl = [(i0, .inr (3, [.ref qc, .ref qb, .ref qs, .ref qk, jv, .ref js, .ref ja, .ref jb, .int f1, .int f2, .int f3, .int f4, .int f5, .int f6, .int f7, .int f8, .int f9])), (js, .inr (2, [.ref js1, .int (nI jn)])), (js1, .inl (kI, 32, .inl jf)), (ja, .inr (2, [.ref ja1, .int (nI jm)])), (ja1, .inl (kI, 8, .inl jr)), (jb, .inl (kI, 24, .inl jbb))] ++ pl' ∧ xChain kI qc qb qs qk d jv pl'
/-- the run that the d-th one has within -/
noncomputable def xIn (cw : Nat → Int32) (lc : Nat → Nat) (z : Nat → Bool) (nA : Nat) : Nat → Option XC
  | 0 => none
  | d + 1 => some (xGo cw lc z nA d)
theorem xGo_eq (cw : Nat → Int32) (lc : Nat → Nat) (z : Nat → Bool) (nA : Nat) (d : Nat) : xGo cw lc z nA d = xGoF (xIn cw lc z nA d) cw lc z nA := by
  cases d <;> rfl
theorem xIn_congr {cw : Nat → Int32} {lc : Nat → Nat} {z : Nat → Bool} {nA : Nat} (hcd : xCode cw lc z) (hnA : nA ≤ 24) (d : Nat) : ∀ g, xIn cw lc z nA d = some g → CongF nA g := by
  intro g h
  cases d with
  | zero => cases h
  | succ d => cases h; exact xGo_congr hcd hnA d
theorem SEq.rf {nA : Nat} {S : XS} : SEq nA S S := ⟨fun _ _ => rfl, rfl, rfl, rfl, fun _ _ => rfl⟩
theorem SEq.tr {nA : Nat} {S T U : XS} (a : SEq nA S T) (b : SEq nA T U) : SEq nA S U := ⟨fun i h => (a.1 i h).trans (b.1 i h), a.2.1.trans b.2.1, a.2.2.1.trans b.2.2.1, a.2.2.2.1.trans b.2.2.2.1, fun i h => (a.2.2.2.2 i h).trans (b.2.2.2.2 i (by rw [← a.2.2.2.1]; exact h))⟩
theorem FEq.rf {F : XF} : FEq F F := ⟨rfl, fun _ _ => rfl⟩
theorem FEq.tr {F G K : XF} (a : FEq F G) (b : FEq G K) : FEq F K := ⟨a.1.trans b.1, fun i h => (a.2 i h).trans (b.2 i (by rw [← a.1]; exact h))⟩
theorem x_given {g : Int32} {gs : Nat} (hg : ¬ g < 0) (hgs : gs ≤ 10000) : (if nI (gs - gs / 8) < g then nI (gs - gs / 8) else g) = nI (xGiven g gs) := by
  obtain ⟨k, hk, rfl⟩ := nI_of hg
  unfold xGiven
  rw [nI_clamp hk]
  have e := nI_ltI (a := gs - gs / 8) (b := k) (by omega) hk
  by_cases c : gs - gs / 8 < k
  · rw [if_pos (e.mpr c), if_pos c]
  · rw [if_neg (fun q => c (e.mp q)), if_neg c]
theorem xGiven_le {g : Int32} {gs : Nat} : xGiven g gs ≤ gs := by
  unfold xGiven
  split
  · omega
  · omega
/-- a call that is made -/
theorem xCall_yes {cw : Nat → Int32} {lc : Nat → Nat} {z : Nat → Bool} {nA ac d j : Nat} {sf : Nat → Int32} {sn pk gs : Nat} {en an : Int32} {S S2 : XS} {rf : Nat → Int32} {en2 an2 : Int32} {gb : Nat} (hcd : xCode cw lc z) (hnA : nA ≤ 24) (hac : ac < nA) (hj : j ≤ 8) (hg : ¬ sf (sn - 1 - 1 - 1) < 0) (hc : xCan nA ac S.1 (sf (sn - 1)) (sf (sn - 1 - 1)) = true)
    (ha : ∀ i, i < j → rf i = sf (sn - 1 - 1 - 1 - 1 - i))
    (h1 : en2 = (xGo cw lc z nA d ac (sf (sn - 1)).toNatClampNeg (sf (sn - 1 - 1)) (xGiven (sf (sn - 1 - 1 - 1)) gs) rf j S).1) (h2 : an2 = (xGo cw lc z nA d ac (sf (sn - 1)).toNatClampNeg (sf (sn - 1 - 1)) (xGiven (sf (sn - 1 - 1 - 1)) gs) rf j S).2.1) (h3 : gb = (xGo cw lc z nA d ac (sf (sn - 1)).toNatClampNeg (sf (sn - 1 - 1)) (xGiven (sf (sn - 1 - 1 - 1)) gs) rf j S).2.2.1)
    (h4 : SEq nA S2 (xGo cw lc z nA d ac (sf (sn - 1)).toNatClampNeg (sf (sn - 1 - 1)) (xGiven (sf (sn - 1 - 1 - 1)) gs) rf j S).2.2.2) :
    FEq (upd (upd sf (sn - 1 - 1 - 1 - j) an2) (sn - 1 - 1 - 1 - j + 1) (if en2 = 0 then 1 else 0), sn - 1 - 1 - 1 - j + 1 + 1, pk, gs - xGiven (sf (sn - 1 - 1 - 1)) gs + gb, en, an) (xCall (xIn cw lc z nA (d + 1)) j nA ac (sf, sn, pk, gs, en, an) S).1 ∧ SEq nA S2 (xCall (xIn cw lc z nA (d + 1)) j nA ac (sf, sn, pk, gs, en, an) S).2 := by
  have ht : xHas nA (sf (sn - 1)) = true := by
    unfold xCan at hc
    simp only [Bool.and_eq_true] at hc
    exact hc.1.1
  obtain ⟨a1, a2, a3, a4⟩ := xGo_congr hcd hnA d ac (sf (sn - 1)).toNatClampNeg (sf (sn - 1 - 1)) (xGiven (sf (sn - 1 - 1 - 1)) gs) rf (fun i => sf (sn - 1 - 1 - 1 - 1 - i)) j S S hac (xHas_ix ht (by omega)).2 hj ha SEq.rf
  unfold xCall xIn
  dsimp only
  have hcn : ¬ (sf (sn - 1 - 1 - 1) < 0 ∨ xCan nA ac S.1 (sf (sn - 1)) (sf (sn - 1 - 1)) = false) := fun q => q.elim hg (fun q => by rw [hc] at q; cases q)
  rw [if_neg hcn]
  subst h1; subst h2; subst h3
  refine ⟨⟨?_, fun i _ => ?_⟩, h4.tr a4⟩
  · dsimp only; rw [a3]
  · dsimp only; rw [a1, a2]
theorem xChain_mk {kI : ClassId} {qc qb qs qk d : Nat} {i0 js ja jb js1 ja1 : Nat} {jv : Value} {f1 f2 f3 f4 f5 f6 f7 f8 f9 : Int32} {jf jr jbb : Nat → Int32} {jn jm : Nat} {pl' : va_W} (h1 : jn ≤ 32) (h2 : jm ≤ 8) (h : xChain kI qc qb qs qk d jv pl') :
    xChain kI qc qb qs qk (d + 1) (.ref i0) ([(i0, .inr (3, [.ref qc, .ref qb, .ref qs, .ref qk, jv, .ref js, .ref ja, .ref jb, .int f1, .int f2, .int f3, .int f4, .int f5, .int f6, .int f7, .int f8, .int f9])), (js, .inr (2, [.ref js1, .int (nI jn)])), (js1, .inl (kI, 32, .inl jf)), (ja, .inr (2, [.ref ja1, .int (nI jm)])), (ja1, .inl (kI, 8, .inl jr)), (jb, .inl (kI, 24, .inl jbb))] ++ pl') :=
  ⟨i0, js, ja, jb, js1, ja1, jv, f1, f2, f3, f4, f5, f6, f7, f8, f9, jf, jr, jbb, jn, jm, pl', rfl, h1, h2, rfl, h⟩
