/-! THE SAME ON THE REFERENCE'S ARRAYS -/
def mG (sk : Nat → Int32) (ht pp gg : Nat → Nat) (i : Nat) : XF := (fun k => sk (32 * i + k), ht i, pp i, gg i, -1, 0)
def mK (rc : Nat → Nat) (cr vv gv : Nat → Int32) (gc : Nat → Nat) (i : Nat) : XK := (rc i, cr i, vv i, fun k => gv (8 * i + k), gc i)
def mS (oB : Nat → Int32) (σo : Nat → Int64 → Int32) (oK : Nat → Nat) (lf : Nat → Int32) (oL : Nat → Nat) (i : Nat) : XS := (fun k => oB (24 * i + k), σo i, oK i, lf, oL i)
def mWf (lc : Nat → Nat) (nA D : Nat) (rc gc ht pp : Nat → Nat) (oA oN oV : Nat → Int32) (oK oL : Nat → Nat) (ln : Nat) (σo : Nat → Int64 → Int32) : Prop :=
  (∀ i, i ≤ D → rc i < nA ∧ gc i ≤ 8 ∧ oL i ≤ ln ∧ MST (fun k => oA (500 * i + k)) (fun k => oN (500 * i + k)) (fun k => oV (500 * i + k)) (oK i) (σo i)) ∧
  (∀ i, i < D → ht i ≤ 30 ∧ pp i + 1 ≤ lc (rc i)) ∧ ∀ i j, i < j → j ≤ D → oL i ≤ oL j
def mGs (D : Nat) (gg fu : Nat → Nat) : Prop := mT gg 0 (D + 1) ≤ 10000 ∧ ∀ i, i ≤ D → mT gg i (D + 1) + 2 ≤ fu i
/-- the run at D goes on, and what comes out at the end is R -/
def mIn (cw : Nat → Int32) (lc : Nat → Nat) (z : Nat → Bool) (nA : Nat) (R : XR) (D : Nat) (sk : Nat → Int32) (ht : Nat → Nat) (pp : Nat → Nat) (gg : Nat → Nat) (rc : Nat → Nat) (cr : Nat → Int32) (vv : Nat → Int32) (gv : Nat → Int32) (gc : Nat → Nat) (oB : Nat → Int32) (oA : Nat → Int32) (oN : Nat → Int32) (oV : Nat → Int32) (oK : Nat → Nat) (oL : Nat → Nat) (bal : Nat → Int32) (ka : Nat → Int32) (kN : Nat → Int32) (kv : Nat → Int32) (kn : Nat) (lf : Nat → Int32) (ln : Nat) (σ : Int64 → Int32) (σo : Nat → Int64 → Int32) (fu : Nat → Nat) : Prop :=
  (D < 8 ∧ ht D ≤ 32 ∧ pp D ≤ lc (rc D) ∧ ln ≤ 300) ∧ MST ka kN kv kn σ ∧ mWf lc nA D rc gc ht pp oA oN oV oK oL ln σo ∧ mGs D gg fu ∧ REq nA (mTo cw lc z nA D fu (mG sk ht pp gg) (mK rc cr vv gv gc) (mS oB σo oK lf oL) (bal, σ, kn, lf, ln)) R
def mDI : Nat → Int32
  | 0 => -1
  | D + 1 => nI D
/-- as many runs as D1 say; none: all is over, and R came out -/
def mOK (cw : Nat → Int32) (lc : Nat → Nat) (z : Nat → Bool) (nA : Nat) (R : XR) (D1 : Nat) (sk : Nat → Int32) (ht : Nat → Nat) (pp : Nat → Nat) (gg : Nat → Nat) (rc : Nat → Nat) (cr : Nat → Int32) (vv : Nat → Int32) (gv : Nat → Int32) (gc : Nat → Nat) (oB : Nat → Int32) (oA : Nat → Int32) (oN : Nat → Int32) (oV : Nat → Int32) (oK : Nat → Nat) (oL : Nat → Nat) (bal : Nat → Int32) (ka : Nat → Int32) (kN : Nat → Int32) (kv : Nat → Int32) (kn : Nat) (lf : Nat → Int32) (ln : Nat) (f2 f3 f4 : Int32) : Prop :=
  match D1 with
  | 0 => ∃ σ, f2 = R.1 ∧ f3 = R.2.1 ∧ f4 = nI R.2.2.1 ∧ SEq nA (bal, σ, kn, lf, ln) R.2.2.2 ∧ MST ka kN kv kn σ ∧ ln ≤ 300
  | D + 1 => ∃ σ σo fu, mIn cw lc z nA R D sk ht pp gg rc cr vv gv gc oB oA oN oV oK oL bal ka kN kv kn lf ln σ σo fu
def mNx (cw : Nat → Int32) (lc : Nat → Nat) (z : Nat → Bool) (nA : Nat) (R : XR) (D : Nat) (gg0 : Nat → Nat) (dp : Int32) (sk : Nat → Int32) (ht : Nat → Nat) (pp : Nat → Nat) (gg : Nat → Nat) (rc : Nat → Nat) (cr : Nat → Int32) (vv : Nat → Int32) (gv : Nat → Int32) (gc : Nat → Nat) (oB : Nat → Int32) (oA : Nat → Int32) (oN : Nat → Int32) (oV : Nat → Int32) (oK : Nat → Nat) (oL : Nat → Nat) (bal : Nat → Int32) (ka : Nat → Int32) (kN : Nat → Int32) (kv : Nat → Int32) (kn : Nat) (lf : Nat → Int32) (ln : Nat) (f2 f3 f4 : Int32) : Prop :=
  ∃ D2, dp = mDI D2 ∧ mOK cw lc z nA R D2 sk ht pp gg rc cr vv gv gc oB oA oN oV oK oL bal ka kN kv kn lf ln f2 f3 f4 ∧ 2 * mT gg 0 D2 + D2 < 2 * mT gg0 0 (D + 1) + (D + 1)
/-- what the end of a run leaves of the others -/
def mEndP (D : Nat) (how told : Int32) (gas : Nat) (sk : Nat → Int32) (ht pp gg : Nat → Nat) (dp : Int32) (sk2 : Nat → Int32) (ht2 pp2 gg2 : Nat → Nat) (e2 r2 l2 : Int32) : Prop :=
  (D = 0 ∧ dp = -1 ∧ e2 = how ∧ r2 = told ∧ l2 = nI gas) ∨
  ∃ d, D = d + 1 ∧ dp = nI d ∧ sk2 = upd (upd sk (32 * d + ht d) told) (32 * d + (ht d + 1)) (if how = 0 then 1 else 0) ∧ ht2 = va_up (va_up ht d (ht d + 1)) d (ht d + 1 + 1) ∧ pp2 = va_up pp d (pp d + 1) ∧ gg2 = va_up gg d (gg d + gas)
section Arr
variable {cw : Nat → Int32} {lc : Nat → Nat} {z : Nat → Bool} {nA : Nat} {R : XR} {D : Nat} {sk : Nat → Int32} {ht : Nat → Nat} {pp : Nat → Nat} {gg : Nat → Nat} {rc : Nat → Nat} {cr : Nat → Int32} {vv : Nat → Int32} {gv : Nat → Int32} {gc : Nat → Nat} {oB : Nat → Int32} {oA : Nat → Int32} {oN : Nat → Int32} {oV : Nat → Int32} {oK : Nat → Nat} {oL : Nat → Nat} {bal : Nat → Int32} {ka : Nat → Int32} {kN : Nat → Int32} {kv : Nat → Int32} {kn : Nat} {lf : Nat → Int32} {ln : Nat} {σ σ2 : Int64 → Int32} {σo : Nat → Int64 → Int32} {fu : Nat → Nat} {f2 f3 f4 : Int32} {X : XF × XS}
variable {sk2 : Nat → Int32} {ht2 : Nat → Nat} {pp2 : Nat → Nat} {gg2 : Nat → Nat} {cr2 : Nat → Int32} {vv2 : Nat → Int32} {gv2 : Nat → Int32} {gc2 : Nat → Nat} {oB2 : Nat → Int32} {oA2 : Nat → Int32} {oN2 : Nat → Int32} {oV2 : Nat → Int32} {oK2 : Nat → Nat} {oL2 : Nat → Nat} {bal2 : Nat → Int32} {ka2 : Nat → Int32} {kN2 : Nat → Int32} {kv2 : Nat → Int32} {kn2 : Nat} {lf2 : Nat → Int32} {ln2 : Nat} {rc2 : Nat → Nat}
theorem mG_eq {j : Nat} (a : ht2 j = ht j) (b : pp2 j = pp j) (c : gg2 j = gg j) (d : ∀ k, k < ht j → sk2 (32 * j + k) = sk (32 * j + k)) : FEq (mG sk2 ht2 pp2 gg2 j) (mG sk ht pp gg j) := by
  unfold mG
  rw [a, b, c]
  exact ⟨rfl, d⟩
/-- a step that goes on -/
theorem mIn_cont (hcd : xCode cw lc z) (hnA : nA ≤ 24) (h : mIn cw lc z nA R D sk ht pp gg rc cr vv gv gc oB oA oN oV oK oL bal ka kN kv kn lf ln σ σo fu) (hX : X = xStepC (xIn cw lc z nA (7 - D)) cw lc z nA (rc D) (cr D) (vv D) (fun k => gv (8 * D + k)) (gc D) (mG sk ht pp gg D) (bal, σ, kn, lf, ln)) (hF : FEq (mG sk2 ht2 pp2 gg2 D) X.1) (hS : SEq nA (bal2, σ2, kn2, lf2, ln2) X.2)
    (hsk : ∀ j, j < 32 * D → sk2 j = sk j) (hht : ∀ j, j < D → ht2 j = ht j) (hpp : ∀ j, j < D → pp2 j = pp j) (hgg : ∀ j, j < D → gg2 j = gg j) (hpay : gg2 D + 1 ≤ gg D) (h32 : ht2 D ≤ 32) (hpl : pp2 D ≤ lc (rc D)) (hl1 : ln ≤ ln2) (hl2 : ln2 ≤ 300) (hlf : ∀ i, i < ln → lf2 i = lf i) (hms : MST ka2 kN2 kv2 kn2 σ2) :
    mNx cw lc z nA R D gg (nI D) sk2 ht2 pp2 gg2 rc cr vv gv gc oB oA oN oV oK oL bal2 ka2 kN2 kv2 kn2 lf2 ln2 f2 f3 f4 := by
  obtain ⟨⟨h1, h2, h3, h4⟩, h5, ⟨h6, h7, h8⟩, ⟨h9, h10⟩, h11⟩ := h
  obtain ⟨n, hn⟩ : ∃ n, fu D = n + 1 := ⟨fu D - 1, by have := h10 D (Nat.le_refl D); omega⟩
  have hT : ∀ i, i ≤ D → mT gg2 i (D + 1) + 1 ≤ mT gg i (D + 1) := fun i hi => by
    rw [mT_s hi, mT_s hi, mT_congr D hgg]; omega
  refine ⟨D + 1, rfl, ⟨σ2, σo, va_up fu D n, ⟨h1, h32, hpl, hl2⟩, hms, ⟨fun i hi => ?_, fun i hi => ?_, h8⟩, ⟨?_, fun i hi => ?_⟩, ?_⟩, ?_⟩
  · obtain ⟨a, b, c, d⟩ := h6 i hi
    exact ⟨a, b, by omega, d⟩
  · rw [hht i hi, hpp i hi]; exact h7 i hi
  · have := hT 0 (Nat.zero_le D); omega
  · have h12 := hT i hi
    have h13 := h10 i hi
    by_cases c : i = D
    · subst c; rw [va_up_at]; omega
    · rw [m_upne c]; omega
  · refine mTo_step hcd hnA h11 hn rfl hX hF hS (fun j hj => ⟨(h6 j hj).1, (h6 j hj).2.1⟩) (fun j hj => ?_) (fun j hj => ?_)
    · exact mG_eq (hht j hj) (hpp j hj) (hgg j hj) (fun k hk => hsk _ (by have := (h7 j hj).1; omega))
    · exact ⟨fun _ _ => rfl, rfl, rfl, rfl, fun i hi => hlf i (Nat.lt_of_lt_of_le hi (h6 j hj).2.2.1)⟩
  · have := hT 0 (Nat.zero_le D); omega
/-- a run ends -/
theorem mIn_end {ht0 gg0 : Nat → Nat} {dp e2 r2 l2 : Int32} (hcd : xCode cw lc z) (hnA : nA ≤ 24) (h : mIn cw lc z nA R D sk ht pp gg rc cr vv gv gc oB oA oN oV oK oL bal ka kN kv kn lf ln σ σo fu) (hX : X = xStepC (xIn cw lc z nA (7 - D)) cw lc z nA (rc D) (cr D) (vv D) (fun k => gv (8 * D + k)) (gc D) (mG sk ht pp gg D) (bal, σ, kn, lf, ln)) (hx : ¬ X.1.2.2.2.2.1 = -1)
    (hE : mEndP D X.1.2.2.2.2.1 X.1.2.2.2.2.2 X.1.2.2.2.1 sk ht0 pp gg0 dp sk2 ht2 pp2 gg2 e2 r2 l2) (hh0 : ∀ j, j < D → ht0 j = ht j) (hg0 : ∀ j, j < D → gg0 j = gg j) (hgle : X.1.2.2.2.1 ≤ gg D)
    (hS : SEq nA (bal2, σ2, kn2, lf, ln2) (uEnd X (mS oB σo oK lf oL D)).2.2.2) (hms : MST ka2 kN2 kv2 kn2 σ2) (hl : ∀ j, j < D → oL j ≤ ln2) (hl2 : ln2 ≤ 300) :
    mNx cw lc z nA R D gg dp sk2 ht2 pp2 gg2 rc cr vv gv gc oB oA oN oV oK oL bal2 ka2 kN2 kv2 kn2 lf ln2 e2 r2 l2 := by
  obtain ⟨⟨h1, h2, h3, h4⟩, h5, ⟨h6, h7, h8⟩, ⟨h9, h10⟩, h11⟩ := h
  obtain ⟨n, hn⟩ : ∃ n, fu D = n + 1 := ⟨fu D - 1, by have := h10 D (Nat.le_refl D); omega⟩
  rcases hE with ⟨e, rfl, rfl, rfl, rfl⟩ | ⟨d, e, rfl, rfl, rfl, rfl, rfl⟩
  · subst e
    have q := mTo_end0 h11 hn rfl hX hx
    refine ⟨0, rfl, ⟨σ2, q.1, q.2.1, congrArg nI q.2.2.1, hS.tr q.2.2.2, hms, hl2⟩, ?_⟩
    show 2 * 0 + 0 < _
    omega
  · subst e
    have hd := h7 d (Nat.lt_succ_self d)
    have e1 : ht0 d = ht d := hh0 d (Nat.lt_succ_self d)
    have e2 : gg0 d = gg d := hg0 d (Nat.lt_succ_self d)
    have hT : ∀ i, i ≤ d → mT (va_up gg0 d (gg0 d + X.1.2.2.2.1)) i (d + 1) ≤ mT gg i (d + 1 + 1) := fun i hi => by
      rw [mT_s hi, mT_s (show i ≤ d + 1 by omega), mT_s hi, va_up_at, mT_congr (gg2 := gg) d (fun j hj => by rw [m_upne (by omega)]; exact hg0 j (by omega))]
      omega
    refine ⟨d + 1, rfl, ⟨σ2, σo, fu, ⟨by omega, ?_, ?_, hl2⟩, hms, ⟨fun i hi => ?_, fun i hi => ?_, fun i j hi hj => h8 i j hi (by omega)⟩, ⟨?_, fun i hi => ?_⟩, ?_⟩, ?_⟩
    · rw [va_up_at]; omega
    · rw [va_up_at]; exact hd.2
    · obtain ⟨a, b, c, g⟩ := h6 i (by omega)
      exact ⟨a, b, hl i (by omega), g⟩
    · rw [m_upne (by omega), m_upne (by omega), m_upne (by omega), hh0 i (by omega)]; exact h7 i (by omega)
    · have := hT 0 (Nat.zero_le d); omega
    · have := hT i hi
      have := h10 i (by omega)
      omega
    · refine mTo_endS hcd hnA h11 hn rfl hX hx ?_ hS (fun j hj => ⟨(h6 j (by omega)).1, (h6 j (by omega)).2.1⟩) (fun j hj => ?_) (fun j hj => SEq.rf)
      · have e9 : mG (upd (upd sk (32 * d + ht0 d) X.1.2.2.2.2.2) (32 * d + (ht0 d + 1)) (if X.1.2.2.2.2.1 = 0 then 1 else 0)) (va_up (va_up ht0 d (ht0 d + 1)) d (ht0 d + 1 + 1)) (va_up pp d (pp d + 1)) (va_up gg0 d (gg0 d + X.1.2.2.2.1)) d = uRes (mG sk ht pp gg d) (uEnd X (mS oB σo oK lf oL (d + 1))) := by
          unfold mG uRes uEnd
          dsimp only
          rw [m_updk, m_updk, va_up_at, va_up_at, va_up_at, e1, e2]
        rw [e9]
        exact FEq.rf
      · refine mG_eq ?_ (m_upne (by omega)) ?_ (fun k hk => ?_)
        · rw [m_upne (by omega), m_upne (by omega)]; exact hh0 j (by omega)
        · rw [m_upne (by omega)]; exact hg0 j (by omega)
        · have := (h7 j (by omega)).1
          rw [pk_un (by omega), pk_un (by omega)]
    · have := hT 0 (Nat.zero_le d); omega
/-- it ends well: nothing is undone -/
theorem mIn_endA {ht0 gg0 : Nat → Nat} {dp e2 r2 l2 : Int32} {told : Int32} {gas : Nat} (hcd : xCode cw lc z) (hnA : nA ≤ 24) (h : mIn cw lc z nA R D sk ht pp gg rc cr vv gv gc oB oA oN oV oK oL bal ka kN kv kn lf ln σ σo fu) {Y : XF} (hX : (Y, ((bal, σ, kn, lf, ln) : XS)) = xStepC (xIn cw lc z nA (7 - D)) cw lc z nA (rc D) (cr D) (vv D) (fun k => gv (8 * D + k)) (gc D) (mG sk ht pp gg D) (bal, σ, kn, lf, ln)) (hx : Y.2.2.2.2 = (0, told)) (hg : Y.2.2.2.1 = gas)
    (hE : mEndP D 0 told gas sk ht0 pp gg0 dp sk2 ht2 pp2 gg2 e2 r2 l2) (hh0 : ∀ j, j < D → ht0 j = ht j) (hg0 : ∀ j, j < D → gg0 j = gg j) (hgle : gas ≤ gg D) :
    mNx cw lc z nA R D gg dp sk2 ht2 pp2 gg2 rc cr vv gv gc oB oA oN oV oK oL bal ka kN kv kn lf ln e2 r2 l2 := by
  obtain ⟨sfY, snY, pkY, gsY, enY, anY⟩ := Y
  dsimp only at hx hg
  cases hx
  subst hg
  refine mIn_end (σ2 := σ) hcd hnA h hX (by show ¬ (0 : Int32) = -1; decide) hE hh0 hg0 hgle ?_ h.2.1 (fun j hj => (h.2.2.1.1 j (by omega)).2.2.1) h.1.2.2.2
  exact SEq.rf
/-- it fails: all is as it was before it -/
theorem mIn_endU {ht0 gg0 : Nat → Nat} {dp e2 r2 l2 : Int32} {how told : Int32} {gas : Nat} (hcd : xCode cw lc z) (hnA : nA ≤ 24) (h : mIn cw lc z nA R D sk ht pp gg rc cr vv gv gc oB oA oN oV oK oL bal ka kN kv kn lf ln σ σo fu) {Y : XF} {S9 : XS} (hX : (Y, S9) = xStepC (xIn cw lc z nA (7 - D)) cw lc z nA (rc D) (cr D) (vv D) (fun k => gv (8 * D + k)) (gc D) (mG sk ht pp gg D) (bal, σ, kn, lf, ln)) (hx : Y.2.2.2.2 = (how, told)) (hw : how ≠ 0) (hw2 : how ≠ -1) (hg : Y.2.2.2.1 = gas)
    (hE : mEndP D how told gas sk ht0 pp gg0 dp sk2 ht2 pp2 gg2 e2 r2 l2) (hh0 : ∀ j, j < D → ht0 j = ht j) (hg0 : ∀ j, j < D → gg0 j = gg j) (hgle : gas ≤ gg D)
    (hB : mSeg bal2 bal 0 24 (fun i => oB (24 * D + i))) (hA : mSeg ka2 ka 0 (oK D) (fun i => oA (500 * D + i))) (hN : mSeg kN2 kN 0 (oK D) (fun i => oN (500 * D + i))) (hV : mSeg kv2 kv 0 (oK D) (fun i => oV (500 * D + i))) :
    mNx cw lc z nA R D gg dp sk2 ht2 pp2 gg2 rc cr vv gv gc oB oA oN oV oK oL bal2 ka2 kN2 kv2 (oK D) lf (oL D) e2 r2 l2 := by
  obtain ⟨sfY, snY, pkY, gsY, enY, anY⟩ := Y
  dsimp only at hx hg
  cases hx
  subst hg
  have q := h.2.2.1.1 D (Nat.le_refl D)
  have z0 : ∀ {f g : Nat → Int32} {n : Nat} {f9 : Nat → Int32}, mSeg f f9 0 n g → ∀ i, i < n → f i = g i := fun s i hi => by have := s.1 i hi; rwa [Nat.zero_add] at this
  refine mIn_end (σ2 := σo D) hcd hnA h hX hw2 hE hh0 hg0 hgle ?_ (mst_congr q.2.2.2 (z0 hA) (z0 hN) (z0 hV)) (fun j hj => h.2.2.1.2.2 j D hj (Nat.le_refl D)) (Nat.le_trans q.2.2.1 h.1.2.2.2)
  unfold uEnd
  dsimp only
  rw [if_neg hw]
  exact ⟨fun i hi => z0 hB i (by omega), rfl, rfl, rfl, fun _ _ => rfl⟩
theorem xCall_ref {j ac k : Nat} {F : XF} {S : XS} (h : k = 0 ∨ F.1 (F.2.1 - 1 - 1 - 1) < 0 ∨ xCan nA ac S.1 (F.1 (F.2.1 - 1)) (F.1 (F.2.1 - 1 - 1)) = false) :
    xCall (xIn cw lc z nA k) j nA ac F S = ((upd (upd F.1 (F.2.1 - 1 - 1 - 1 - j) 0) (F.2.1 - 1 - 1 - 1 - j + 1) 0, F.2.1 - 1 - 1 - 1 - j + 1 + 1, F.2.2), S) := by
  cases k with
  | zero => rfl
  | succ k => exact xCall_no (h.elim (fun q => by cases q) id)
/-- a run within begins -/
theorem mIn_call {j t gs1 gi m : Nat} {v : Int32} (hcd : xCode cw lc z) (hnA : nA ≤ 24) (h : mIn cw lc z nA R D sk ht pp gg rc cr vv gv gc oB oA oN oV oK oL bal ka kN kv kn lf ln σ σo fu) (hX : X = xStepC (xIn cw lc z nA (7 - D)) cw lc z nA (rc D) (cr D) (vv D) (fun k => gv (8 * D + k)) (gc D) (mG sk ht pp gg D) (bal, σ, kn, lf, ln)) (hD7 : D < 7) (hc : xIsCall cw lc z (rc D) (mG sk ht pp gg D) (bal, σ, kn, lf, ln))
    (hj : j = (wN (cw (rc D * 160 + pp D))).toNatClampNeg) (hgs : gs1 = gg D - xPrice 27 (fun k => sk (32 * D + k)) (ht D) σ (rc D))
    (hno : ¬ (sk (32 * D + (ht D - 1 - 1 - 1)) < 0 ∨ xCan nA (rc D) bal (sk (32 * D + (ht D - 1))) (sk (32 * D + (ht D - 1 - 1))) = false))
    (het : t = (sk (32 * D + (ht D - 1))).toNatClampNeg) (hv : v = sk (32 * D + (ht D - 1 - 1))) (hgi : gi = xGiven (sk (32 * D + (ht D - 1 - 1 - 1))) gs1) (hm : m = ht D - 1 - 1 - 1 - j) (hj8 : j ≤ 8) (hj3 : 3 + j ≤ ht D)
    (a1 : ∀ i, i < D → ht2 i = ht i) (a2 : ht2 D = m) (a3 : ht2 (D + 1) = 0) (b1 : ∀ i, i ≤ D → pp2 i = pp i) (b2 : pp2 (D + 1) = 0) (c1 : ∀ i, i < D → gg2 i = gg i) (c2 : gg2 D = gs1 - gi) (c3 : gg2 (D + 1) = gi)
    (d1 : ∀ i, i ≤ D → rc2 i = rc i) (d2 : rc2 (D + 1) = t) (e1 : ∀ i, i ≤ D → cr2 i = cr i) (e2 : cr2 (D + 1) = nI (rc D)) (f1 : ∀ i, i ≤ D → vv2 i = vv i) (g2 : vv2 (D + 1) = v) (i1 : ∀ i, i ≤ D → gc2 i = gc i) (i2 : gc2 (D + 1) = j)
    (k1 : ∀ i, i < 8 * (D + 1) → gv2 i = gv i) (k2 : ∀ k, k < j → gv2 (8 * (D + 1) + k) = sk (32 * D + (ht D - 1 - 1 - 1 - 1 - k)))
    (oB1 : mSeg oB2 oB (24 * (D + 1)) 24 bal) (oA1 : mSeg oA2 oA (500 * (D + 1)) kn ka) (oN1 : mSeg oN2 oN (500 * (D + 1)) kn kN) (oV1 : mSeg oV2 oV (500 * (D + 1)) kn kv)
    (oK1 : ∀ i, i ≤ D → oK2 i = oK i) (oK3 : oK2 (D + 1) = kn) (oL1 : ∀ i, i ≤ D → oL2 i = oL i) (oL3 : oL2 (D + 1) = ln) :
    mNx cw lc z nA R D gg (nI (D + 1)) sk ht2 pp2 gg2 rc2 cr2 vv2 gv2 gc2 oB2 oA2 oN2 oV2 oK2 oL2 (xMove bal (rc D) t v) ka kN kv kn lf ln f2 f3 f4 := by
  have hh := h
  obtain ⟨⟨h1, h2, h3, h4⟩, h5, ⟨h6, h7, h8⟩, ⟨h9, h10⟩, h11⟩ := h
  obtain ⟨n, hn⟩ : ∃ n, fu D = n + 1 := ⟨fu D - 1, by have := h10 D (Nat.le_refl D); omega⟩
  obtain ⟨e, he⟩ : ∃ e, 7 - D = e + 1 := ⟨6 - D, by omega⟩
  have hpr := xPrice_le (op := 27) (sf := fun k => sk (32 * D + k)) (sn := ht D) (σ := σ) (ac := rc D) (by decide)
  have hpg : ¬ gg D < xPrice 27 (fun k => sk (32 * D + k)) (ht D) σ (rc D) := hc.2.2.1
  have hgle : gi ≤ gs1 := by rw [hgi]; exact xGiven_le
  have hpc : pp D < lc (rc D) := by
    have q := hc.1
    unfold xLen at q
    split at q
    · exact q
    · exact absurd q (Nat.not_lt_zero _)
  have hht : xHas nA (sk (32 * D + (ht D - 1))) = true := by
    rcases Bool.eq_false_or_eq_true (xHas nA (sk (32 * D + (ht D - 1)))) with g | g
    · exact g
    · exact absurd (Or.inr (by unfold xCan; rw [g]; rfl)) hno
  have htn : t < nA := by rw [het]; exact (xHas_ix hht (by omega)).2
  -- what the run within comes to
  have hr0 : REq nA (uRun cw lc z nA (D + 1) (gi + 2) (mK rc2 cr2 vv2 gv2 gc2 (D + 1)) (mG sk ht2 pp2 gg2 (D + 1)) (xMove bal (rc D) t v, σ, kn, lf, ln) (mS oB2 (va_up σo (D + 1) σ) oK2 lf oL2 (D + 1)))
      (xGo cw lc z nA e (rc D) t v gi (fun i => sk (32 * D + (ht D - 1 - 1 - 1 - 1 - i))) j (bal, σ, kn, lf, ln)) := by
    have q : xGo cw lc z nA e (rc D) t v gi (fun i => sk (32 * D + (ht D - 1 - 1 - 1 - 1 - i))) j (bal, σ, kn, lf, ln) = uRun cw lc z nA (D + 1) (gi + 2) (t, nI (rc D), v, (fun i => sk (32 * D + (ht D - 1 - 1 - 1 - 1 - i))), j) (fun _ => 0, 0, 0, gi, -1, 0) (xMove bal (rc D) t v, σ, kn, lf, ln) (bal, σ, kn, lf, ln) := by
      rw [xGo_uEnd]
      unfold uRun
      rw [show 7 - (D + 1) = e from by omega]
    rw [q]
    refine uRun_congr hcd hnA (by show rc2 (D + 1) < nA; rw [d2]; exact htn) (by show gc2 (D + 1) ≤ 8; rw [i2]; exact hj8) ⟨d2, e2, g2, i2, fun i hi => k2 i (by rw [← i2]; exact hi)⟩ ?_ SEq.rf ⟨fun i hi => oB1.1 i (by omega), va_up_at, oK3, oL3, fun _ _ => rfl⟩
    unfold mG
    rw [a3, b2, c3]
    exact ⟨rfl, fun i hi => absurd hi (Nat.not_lt_zero i)⟩
  have hXv : X = ((upd (upd (fun k => sk (32 * D + k)) m (xGo cw lc z nA e (rc D) t v gi (fun i => sk (32 * D + (ht D - 1 - 1 - 1 - 1 - i))) j (bal, σ, kn, lf, ln)).2.1) (m + 1) (if (xGo cw lc z nA e (rc D) t v gi (fun i => sk (32 * D + (ht D - 1 - 1 - 1 - 1 - i))) j (bal, σ, kn, lf, ln)).1 = 0 then 1 else 0), m + 1 + 1, pp D + 1, gs1 - gi + (xGo cw lc z nA e (rc D) t v gi (fun i => sk (32 * D + (ht D - 1 - 1 - 1 - 1 - i))) j (bal, σ, kn, lf, ln)).2.2.1, -1, 0), (xGo cw lc z nA e (rc D) t v gi (fun i => sk (32 * D + (ht D - 1 - 1 - 1 - 1 - i))) j (bal, σ, kn, lf, ln)).2.2.2) := by
    rw [hX, xStepC_call hc, he]
    subst hm hgi hgs het hv hj
    unfold xCall xIn
    exact if_neg hno
  have hT : ∀ i, i ≤ D → mT gg2 i (D + 1 + 1) + xPrice 27 (fun k => sk (32 * D + k)) (ht D) σ (rc D) ≤ mT gg i (D + 1) := fun i hi => by
    rw [mT_s (show i ≤ D + 1 by omega), mT_s hi, mT_s hi, mT_congr D c1, c2, c3]
    omega
  refine ⟨D + 1 + 1, rfl, ⟨σ, va_up σo (D + 1) σ, va_up (va_up fu D n) (D + 1) (gi + 2), ⟨by omega, by rw [a3]; omega, by rw [b2]; omega, h4⟩, h5, ⟨fun i hi => ?_, fun i hi => ?_, fun i k hi hk => ?_⟩, ⟨?_, fun i hi => ?_⟩, ?_⟩, ?_⟩
  · by_cases c : i = D + 1
    · subst c
      rw [d2, i2, oL3, oK3, va_up_at]
      exact ⟨htn, hj8, Nat.le_refl _, mst_congr h5 oA1.1 oN1.1 oV1.1⟩
    · obtain ⟨x1, x2, x3, x4⟩ := h6 i (by omega)
      rw [d1 i (by omega), i1 i (by omega), oL1 i (by omega), oK1 i (by omega), m_upne c]
      exact ⟨x1, x2, x3, mst_congr x4 (fun k hk => oA1.2 _ (by have := x4.1; omega)) (fun k hk => oN1.2 _ (by have := x4.1; omega)) (fun k hk => oV1.2 _ (by have := x4.1; omega))⟩
  · rw [d1 i (by omega), b1 i (by omega)]
    by_cases c : i = D
    · subst c; rw [a2]; exact ⟨by omega, hpc⟩
    · rw [a1 i (by omega)]; exact h7 i (by omega)
  · rw [oL1 i (by omega)]
    by_cases c : k = D + 1
    · subst c; rw [oL3]; exact (h6 i (by omega)).2.2.1
    · rw [oL1 k (by omega)]; exact h8 i k hi (by omega)
  · have := hT 0 (Nat.zero_le D); omega
  · by_cases c : i = D + 1
    · subst c
      rw [va_up_at, mT_s (Nat.le_refl _), mT_self, c3]; omega
    · have := hT i (by omega)
      have := h10 i (by omega)
      rw [m_upne c]
      by_cases c2 : i = D
      · subst c2; rw [va_up_at]; omega
      · rw [m_upne c2]; omega
  · refine mTo_call hcd hnA h11 hn rfl hX rfl ?_ ?_ (by rw [m_upne (by omega), va_up_at]) (fun i hi => ?_) (fun i hi => ⟨?_, ?_⟩) (fun i hi => ?_) (fun i hi => ?_)
    · rw [va_up_at]
      refine FEq.tr (uRes_congr FEq.rf hr0) ?_
      rw [hXv]
      unfold uRes mG
      rw [a2, b1 D (Nat.le_refl D), c2]
      exact FEq.rf
    · rw [va_up_at, hXv]; exact hr0.2.2.2
    · show rc2 i < nA ∧ gc2 i ≤ 8
      rw [d1 i hi, i1 i hi]; exact ⟨(h6 i hi).1, (h6 i hi).2.1⟩
    · rw [m_upne (by omega), m_upne (by omega)]
    · exact mG_eq (a1 i hi) (b1 i (by omega)) (c1 i hi) (fun _ _ => rfl)
    · exact ⟨d1 i hi, e1 i hi, f1 i hi, i1 i hi, fun k hk => k1 _ (by have : k < gc2 i := hk; have := (h6 i hi).2.1; rw [i1 i hi] at *; omega)⟩
    · exact ⟨fun k hk => oB1.2 _ (by omega), m_upne (by omega), oK1 i hi, oL1 i hi, fun _ _ => rfl⟩
  · have := hT 0 (Nat.zero_le D); omega
/-- the first run begins -/
theorem mIn_start {fr ac : Nat} {v : Int32} {g an : Nat} {rf : Nat → Int32} (hrf : ∀ i, i < an → gv i = rf i) (hcd : xCode cw lc z) (hnA : nA ≤ 24) (hac : ac < nA) (han : an ≤ 8) (hg : g ≤ 10000) (hln : ln ≤ 300) (hms : MST ka kN kv kn σ)
    (a3 : ht2 0 = 0) (b2 : pp2 0 = 0) (c3 : gg2 0 = g) (d2 : rc2 0 = ac) (e2 : cr2 0 = nI fr) (g2 : vv2 0 = v) (i2 : gc2 0 = an)
    (oB1 : mSeg oB2 oB (24 * 0) 24 bal) (oA1 : mSeg oA2 oA (500 * 0) kn ka) (oN1 : mSeg oN2 oN (500 * 0) kn kN) (oV1 : mSeg oV2 oV (500 * 0) kn kv) (oK3 : oK2 0 = kn) (oL3 : oL2 0 = ln) :
    mOK cw lc z nA (xGo cw lc z nA 7 fr ac v g rf an (bal, σ, kn, lf, ln)) 1 sk ht2 pp2 gg2 rc2 cr2 vv2 gv gc2 oB2 oA2 oN2 oV2 oK2 oL2 (xMove bal fr ac v) ka kN kv kn lf ln f2 f3 f4 := by
  refine ⟨σ, fun _ => σ, fun _ => g + 2, ⟨by decide, by rw [a3]; decide, by rw [b2]; exact Nat.zero_le _, hln⟩, hms, ⟨fun i hi => ?_, fun i hi => absurd hi (Nat.not_lt_zero i), fun i k hi hk => absurd (Nat.lt_of_lt_of_le hi hk) (Nat.not_lt_zero i)⟩, ⟨?_, fun i hi => ?_⟩, ?_⟩
  · have c : i = 0 := Nat.eq_zero_of_le_zero hi
    subst c
    rw [d2, i2, oL3, oK3]
    exact ⟨hac, han, Nat.le_refl _, mst_congr hms oA1.1 oN1.1 oV1.1⟩
  · rw [mT_s (Nat.le_refl 0), c3]; show 0 + g ≤ 10000; omega
  · have c : i = 0 := Nat.eq_zero_of_le_zero hi
    subst c
    rw [mT_s (Nat.le_refl 0), c3]; show 0 + g + 2 ≤ g + 2; omega
  · have q : xGo cw lc z nA 7 fr ac v g rf an (bal, σ, kn, lf, ln) = uRun cw lc z nA 0 (g + 2) (ac, nI fr, v, rf, an) (fun _ => 0, 0, 0, g, -1, 0) (xMove bal fr ac v, σ, kn, lf, ln) (bal, σ, kn, lf, ln) := by
      rw [xGo_uEnd]; rfl
    rw [q]
    unfold mTo
    refine uRun_congr hcd hnA (by show rc2 0 < nA; rw [d2]; exact hac) (by show gc2 0 ≤ 8; rw [i2]; exact han) ⟨d2, e2, g2, i2, fun i hi => by show gv (8 * 0 + i) = rf i; rw [Nat.mul_zero, Nat.zero_add]; exact hrf i (by rw [← i2]; exact hi)⟩ ?_ SEq.rf ⟨fun i hi => oB1.1 i (by omega), rfl, oK3, oL3, fun _ _ => rfl⟩
    unfold mG
    rw [a3, b2, c3]
    exact ⟨rfl, fun i hi => absurd hi (Nat.not_lt_zero i)⟩
end Arr

