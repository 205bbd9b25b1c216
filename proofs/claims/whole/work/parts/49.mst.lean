/-! THE REFERENCE STORES KEYS AS THEY COME: the map that they are -/
theorem xSlot_bits (a k : Int32) (i : Nat) (hi : i < 64) : (xSlot a k).toBitVec.getLsbD i = if i < 32 then k.toBitVec.getLsbD i else a.toBitVec.getLsbD (i - 32) := by
  have e : (Int32.toInt64 32 &&& 63) = 32 := by decide
  unfold xSlot
  rw [e]
  rw [Int64.toBitVec_or, Int64.toBitVec_and, Int64.toBitVec_shiftLeft]
  have e2 : (32 : Int64).toBitVec.smod 64 = 32#64 := by decide
  have e3 : (4294967295 : Int64).toBitVec = BitVec.ofNat 64 (2 ^ 32 - 1) := by decide
  rw [e2, e3]
  have e4 : (32#64).toNat = 32 := by decide
  simp only [BitVec.getLsbD_or, BitVec.getLsbD_and, BitVec.shiftLeft_eq', e4, BitVec.getLsbD_shiftLeft, Int32.toBitVec_toInt64, BitVec.getLsbD_signExtend, BitVec.getLsbD_ofNat, Nat.testBit_two_pow_sub_one]
  by_cases h : i < 32
  · simp [h, hi]
  · simp [h, hi, show i - 32 < 32 from by omega]
    omega
theorem xSlot_inj {a k b j : Int32} (h : xSlot a k = xSlot b j) : a = b ∧ k = j := by
  have hb : ∀ i, i < 64 → (if i < 32 then k.toBitVec.getLsbD i else a.toBitVec.getLsbD (i - 32)) = if i < 32 then j.toBitVec.getLsbD i else b.toBitVec.getLsbD (i - 32) := fun i hi => by
    rw [← xSlot_bits a k i hi, ← xSlot_bits b j i hi, h]
  refine ⟨Int32.toBitVec_inj.mp (BitVec.eq_of_getLsbD_eq fun i hi => ?_), Int32.toBitVec_inj.mp (BitVec.eq_of_getLsbD_eq fun i hi => ?_)⟩
  · have h1 := hb (i + 32) (by omega)
    rw [if_neg (by omega), if_neg (by omega), Nat.add_sub_cancel] at h1
    exact h1
  · have h1 := hb i (by omega)
    rw [if_pos hi, if_pos hi] at h1
    exact h1
def mAt (ka kN : Nat → Int32) (a k : Int32) (i : Nat) : Prop := ka i = a ∧ kN i = k
def MST (ka kN kv : Nat → Int32) (n : Nat) (σ : Int64 → Int32) : Prop :=
  n ≤ 500 ∧ (∀ i, i < n → kv i ≠ 0 ∧ σ (xSlot (ka i) (kN i)) = kv i) ∧ (∀ i j, i < j → j < n → ¬ mAt ka kN (ka j) (kN j) i) ∧ ∀ a k, (∀ i, i < n → ¬ mAt ka kN a k i) → σ (xSlot a k) = 0
theorem mst_find (ka kN : Nat → Int32) (a k : Int32) : ∀ n, (∀ i, i < n → ¬ mAt ka kN a k i) ∨ ∃ i, i < n ∧ mAt ka kN a k i ∧ ∀ j, j < i → ¬ mAt ka kN a k j := by
  intro n
  induction n with
  | zero => exact Or.inl (fun i hi => absurd hi (Nat.not_lt_zero i))
  | succ n ih =>
    rcases ih with h | ⟨i, hi, h1, h2⟩
    · by_cases c : mAt ka kN a k n
      · exact Or.inr ⟨n, Nat.lt_succ_self n, c, fun j hj => h j hj⟩
      · refine Or.inl (fun i hi => ?_)
        by_cases e : i = n
        · subst e; exact c
        · exact h i (by omega)
    · exact Or.inr ⟨i, by omega, h1, h2⟩
theorem mst_some {ka kN kv : Nat → Int32} {n i : Nat} {σ : Int64 → Int32} {a k : Int32} (h : MST ka kN kv n σ) (hi : i < n) (he : mAt ka kN a k i) : σ (xSlot a k) = kv i ∧ kv i ≠ 0 := by
  obtain ⟨h1, h2⟩ := h.2.1 i hi
  rw [he.1, he.2] at h2
  exact ⟨h2, h1⟩
theorem mst_none {ka kN kv : Nat → Int32} {n : Nat} {σ : Int64 → Int32} {a k : Int32} (h : MST ka kN kv n σ) (hn : ∀ i, i < n → ¬ mAt ka kN a k i) : σ (xSlot a k) = 0 := h.2.2.2 a k hn
theorem mst_ne {ka kN kv : Nat → Int32} {n i j : Nat} {σ : Int64 → Int32} (h : MST ka kN kv n σ) (hi : i < n) (hj : j < n) (hne : i ≠ j) : xSlot (ka i) (kN i) ≠ xSlot (ka j) (kN j) := by
  intro e
  obtain ⟨e1, e2⟩ := xSlot_inj e
  rcases Nat.lt_or_gt_of_ne hne with g | g
  · exact h.2.2.1 i j g hj ⟨e1, e2⟩
  · exact h.2.2.1 j i g hi ⟨e1.symm, e2.symm⟩
theorem mst_set {ka kN kv : Nat → Int32} {n i : Nat} {σ : Int64 → Int32} {a k v : Int32} (h : MST ka kN kv n σ) (hi : i < n) (he : mAt ka kN a k i) (hv : v ≠ 0) : MST ka kN (upd kv i v) n (mU σ (xSlot a k) v) := by
  refine ⟨h.1, fun j hj => ?_, h.2.2.1, fun b q hn => ?_⟩
  · by_cases c : j = i
    · subst c; rw [pk_us, he.1, he.2, mU_at]; exact ⟨hv, rfl⟩
    · rw [pk_un c, mU_ne (by rw [← he.1, ← he.2]; exact mst_ne h hj hi c)]; exact h.2.1 j hj
  · rw [mU_ne (fun e => hn i hi (by obtain ⟨e1, e2⟩ := xSlot_inj e; exact ⟨he.1.trans e1.symm, he.2.trans e2.symm⟩))]
    exact h.2.2.2 b q hn
theorem mst_add {ka kN kv : Nat → Int32} {n : Nat} {σ : Int64 → Int32} {a k v : Int32} (h : MST ka kN kv n σ) (hno : ∀ i, i < n → ¬ mAt ka kN a k i) (hv : v ≠ 0) (hn : n < 500) : MST (upd ka n a) (upd kN n k) (upd kv n v) (n + 1) (mU σ (xSlot a k) v) := by
  have old : ∀ i, i < n → upd ka n a i = ka i ∧ upd kN n k i = kN i ∧ upd kv n v i = kv i := fun i hi => ⟨pk_un (by omega), pk_un (by omega), pk_un (by omega)⟩
  refine ⟨by omega, fun j hj => ?_, fun i j hij hj => ?_, fun b q hq => ?_⟩
  · by_cases c : j = n
    · subst c; rw [pk_us, pk_us, pk_us, mU_at]; exact ⟨hv, rfl⟩
    · obtain ⟨o1, o2, o3⟩ := old j (by omega)
      rw [o1, o2, o3, mU_ne (fun e => hno j (by omega) (xSlot_inj e))]
      exact h.2.1 j (by omega)
  · obtain ⟨o1, o2, -⟩ := old i (by omega)
    unfold mAt
    rw [o1, o2]
    by_cases c : j = n
    · subst c; rw [pk_us, pk_us]; exact hno i (by omega)
    · obtain ⟨p1, p2, -⟩ := old j (by omega)
      rw [p1, p2]; exact h.2.2.1 i j hij (by omega)
  · rw [mU_ne (fun e => hq n (by omega) (by obtain ⟨e1, e2⟩ := xSlot_inj e; exact ⟨by rw [pk_us, e1], by rw [pk_us, e2]⟩))]
    refine h.2.2.2 b q (fun i hi hm => hq i (by omega) ?_)
    obtain ⟨o1, o2, -⟩ := old i hi
    exact ⟨o1.trans hm.1, o2.trans hm.2⟩
theorem mst_del {ka kN kv : Nat → Int32} {n i : Nat} {σ : Int64 → Int32} {a k : Int32} (h : MST ka kN kv n σ) (hi : i < n) (he : mAt ka kN a k i) :
    MST (upd ka i (ka (n - 1))) (upd kN i (kN (n - 1))) (upd kv i (kv (n - 1))) (n - 1) (mU σ (xSlot a k) 0) := by
  -- the place where what stands at j stood before
  have src : ∀ j, j < n - 1 → ∃ q, q < n ∧ q ≠ i ∧ upd ka i (ka (n - 1)) j = ka q ∧ upd kN i (kN (n - 1)) j = kN q ∧ upd kv i (kv (n - 1)) j = kv q ∧ (q = if j = i then n - 1 else j) := by
    intro j hj
    by_cases c : j = i
    · subst c
      exact ⟨n - 1, by omega, by omega, pk_us, pk_us, pk_us, by rw [if_pos rfl]⟩
    · exact ⟨j, by omega, c, pk_un c, pk_un c, pk_un c, by rw [if_neg c]⟩
  have hsl : xSlot a k = xSlot (ka i) (kN i) := by rw [he.1, he.2]
  have hle := h.1
  refine ⟨by omega, fun j hj => ?_, fun j1 j2 hij hj => ?_, fun b q hq => ?_⟩
  · obtain ⟨q, hq, hqi, e1, e2, e3, -⟩ := src j hj
    rw [e1, e2, e3, mU_ne (by rw [hsl]; exact mst_ne h hq hi hqi)]
    exact h.2.1 q hq
  · obtain ⟨q1, hq1, hqi1, e1, e2, -, w1⟩ := src j1 (by omega)
    obtain ⟨q2, hq2, hqi2, f1, f2, -, w2⟩ := src j2 hj
    unfold mAt
    rw [e1, e2, f1, f2]
    intro hm
    refine mst_ne h hq1 hq2 ?_ (by rw [hm.1, hm.2])
    rw [w1, w2]
    split <;> split <;> omega
  · by_cases c : xSlot b q = xSlot a k
    · rw [c, mU_at]
    · rw [mU_ne c]
      refine h.2.2.2 b q (fun j hj hm => ?_)
      have hji : j ≠ i := fun e => c (by rw [hsl, ← e, hm.1, hm.2])
      by_cases c2 : j = n - 1
      · refine hq i (by omega) ⟨?_, ?_⟩
        · rw [pk_us, ← c2]; exact hm.1
        · rw [pk_us, ← c2]; exact hm.2
      · refine hq j (by omega) ⟨?_, ?_⟩
        · rw [pk_un hji]; exact hm.1
        · rw [pk_un hji]; exact hm.2
theorem mst_congr {ka kN kv ka2 kN2 kv2 : Nat → Int32} {n : Nat} {σ : Int64 → Int32} (h : MST ka kN kv n σ) (e1 : ∀ i, i < n → ka2 i = ka i) (e2 : ∀ i, i < n → kN2 i = kN i) (e3 : ∀ i, i < n → kv2 i = kv i) : MST ka2 kN2 kv2 n σ := by
  refine ⟨h.1, fun i hi => ?_, fun i j hij hj hm => ?_, fun a k hn => ?_⟩
  · rw [e1 i hi, e2 i hi, e3 i hi]; exact h.2.1 i hi
  · refine h.2.2.1 i j hij hj ?_
    rw [e1 j hj, e2 j hj] at hm
    exact ⟨(e1 i (by omega)).symm.trans hm.1, (e2 i (by omega)).symm.trans hm.2⟩
  · exact h.2.2.2 a k (fun i hi hm => hn i hi ⟨(e1 i hi).trans hm.1, (e2 i hi).trans hm.2⟩)
/-- f2 is f with g's first n numbers at off; below off it is f -/
def mSeg (f2 f : Nat → Int32) (off n : Nat) (g : Nat → Int32) : Prop := (∀ i, i < n → f2 (off + i) = g i) ∧ ∀ j, j < off → f2 j = f j
theorem mSeg.z {f g : Nat → Int32} {off : Nat} : mSeg f f off 0 g := ⟨fun i hi => absurd hi (Nat.not_lt_zero i), fun _ _ => rfl⟩
theorem mSeg.s {f2 f g : Nat → Int32} {off n : Nat} {y : Int32} (h : mSeg f2 f off n g) (hy : y = g n) : mSeg (upd f2 (off + n) y) f off (n + 1) g := by
  refine ⟨fun i hi => ?_, fun j hj => ?_⟩
  · by_cases c : i = n
    · subst c; rw [pk_us]; exact hy
    · rw [pk_un (by omega)]; exact h.1 i (by omega)
  · rw [pk_un (by omega)]; exact h.2 j hj
theorem mSeg.s0 {f2 f g : Nat → Int32} {n : Nat} {y : Int32} (h : mSeg f2 f 0 n g) (hy : y = g n) : mSeg (upd f2 n y) f 0 (n + 1) g := by
  have := mSeg.s h hy
  rwa [Nat.zero_add] at this
theorem x_160m {a k : Nat} : 160 * nI a + nI k = nI (a * 160 + k) := by
  show nI 160 * nI a + nI k = _
  rw [pk_mul, nI_add, Nat.mul_comm]
theorem x_mul24 {a : Nat} : 24 * nI a = nI (24 * a) := by show nI 24 * nI a = _; rw [pk_mul]
theorem x_mul500 {a : Nat} : 500 * nI a = nI (500 * a) := by show nI 500 * nI a = _; rw [pk_mul]
theorem x_mul32 {a : Nat} : 32 * nI a = nI (32 * a) := by show nI 32 * nI a = _; rw [pk_mul]
theorem x_mul8 {a : Nat} : 8 * nI a = nI (8 * a) := by show nI 8 * nI a = _; rw [pk_mul]
theorem x_mul160 {a : Nat} : 160 * nI a = nI (160 * a) := by show nI 160 * nI a = _; rw [pk_mul]
theorem va_up_at {α : Type} {f : Nat → α} {k : Nat} {v : α} : va_up f k v k = v := by simp [va_up]
