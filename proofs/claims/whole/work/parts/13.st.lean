/-! THE STORE'S ROWS AS A MAP: pure rows -/
def mU (σ : Int64 → Int32) (z : Int64) (x : Int32) : Int64 → Int32 := fun w => if w = z then x else σ w
/-- how many keys there are behind a change of a key that had a to x -/
def mN (n : Nat) (a x : Int32) : Nat := if a = 0 then (if x = 0 then n else n + 1) else (if x = 0 then n - 1 else n)
def x_up (sl : Nat → Int64) (n : Nat) : Prop := ∀ i j, i < j → j < n → sl i < sl j
/-- n slots in rising order, their numbers not 0, and the map that they are -/
def ST (sl : Nat → Int64) (nu : Nat → Int32) (n : Nat) (σ : Int64 → Int32) : Prop :=
  n ≤ 500 ∧ x_up sl n ∧ (∀ i, i < n → nu i ≠ 0 ∧ σ (sl i) = nu i) ∧ ∀ z, (∀ i, i < n → sl i ≠ z) → σ z = 0
/-- q slots are below z -/
def PL (sl : Nat → Int64) (n : Nat) (z : Int64) (q : Nat) : Prop := q ≤ n ∧ (∀ i, i < q → sl i < z) ∧ ∀ i, q ≤ i → i < n → z ≤ sl i
def x_pw : Nat → Nat
  | 0 => 0
  | k + 1 => 2 ^ k
theorem x_pw_le {k : Nat} (h : k ≤ 9) : x_pw k ≤ 256 := by
  have : ∀ k : Fin 10, x_pw k.val ≤ 256 := by decide
  exact this ⟨k, by omega⟩
theorem x_pw_pos (k : Nat) : 1 ≤ x_pw (k + 1) := Nat.one_le_two_pow
theorem x_pw_half (k : Nat) : x_pw (k + 1) / 2 = x_pw k := by
  cases k with
  | zero => rfl
  | succ k => show 2 ^ (k + 1) / 2 = 2 ^ k; rw [Nat.pow_succ]; exact Nat.mul_div_cancel _ (by decide)
theorem x_pw_dbl (k : Nat) : 2 * x_pw k - 1 = x_pw (k + 1) - 1 := by
  cases k with
  | zero => rfl
  | succ k => show 2 * 2 ^ k - 1 = 2 ^ (k + 1) - 1; rw [Nat.pow_succ, Nat.mul_comm]
theorem x_pw_shr {k : Nat} (h : k + 1 ≤ 9) : nI (x_pw (k + 1)) >>> ((1 : Int32) &&& 31) = nI (x_pw k) := by
  have hle := x_pw_le h
  rw [pk_shrN (n := x_pw (k + 1)) (by omega) ((1 : Int32) &&& 31) 1 (by decide)]
  show nI (x_pw (k + 1) / 2) = _
  rw [x_pw_half]
theorem x_lt_of_nle {a b : Int64} (h : ¬ a ≤ b) : b < a := Int64.not_le.mp h
theorem x_pl_lo {sl : Nat → Int64} {n q t : Nat} {z : Int64} (hs : x_up sl n) (hle : q + t ≤ n) (ht : 1 ≤ t) (h : sl (q + t - 1) < z) : ∀ i, i < q + t → sl i < z := by
  intro i hi
  by_cases e : i = q + t - 1
  · rw [e]; exact h
  · exact Int64.lt_trans (hs i (q + t - 1) (by omega) (by omega)) h
theorem x_pl_hi {sl : Nat → Int64} {n q t : Nat} {z : Int64} (hs : x_up sl n) (h : z ≤ sl (q + t - 1)) : ∀ i, q + (t - 1) ≤ i → i < n → 1 ≤ t → z ≤ sl i := by
  intro i hi hn ht
  by_cases e : i = q + t - 1
  · rw [e]; exact h
  · exact Int64.le_trans h (Int64.le_of_lt (hs (q + t - 1) i (by omega) hn))
theorem x_ne_of_lt {a b : Int64} (h : a < b) : a ≠ b := fun e => absurd (e ▸ h) (Int64.lt_irrefl)
/-- reading -/
theorem ST_none {sl : Nat → Int64} {nu : Nat → Int32} {n q : Nat} {σ : Int64 → Int32} {z : Int64} (h : ST sl nu n σ) (hq : PL sl n z q) (hn : q < n → sl q ≠ z) : ∀ i, i < n → sl i ≠ z := by
  intro i hi e
  obtain ⟨h1, h2, h3⟩ := hq
  by_cases c : i < q
  · exact x_ne_of_lt (h2 i c) e
  · by_cases c2 : i = q
    · subst c2; exact hn hi e
    · have a1 := h3 q (Nat.le_refl _) (by omega)
      have a2 := h.2.1 q i (by omega) hi
      rw [e] at a2
      exact absurd a1 (Int64.not_le.mpr a2)
theorem ST_get0 {sl : Nat → Int64} {nu : Nat → Int32} {n q : Nat} {σ : Int64 → Int32} {z : Int64} (h : ST sl nu n σ) (hq : PL sl n z q) (hn : q < n → sl q ≠ z) : σ z = 0 := h.2.2.2 z (ST_none h hq hn)
theorem ST_get1 {sl : Nat → Int64} {nu : Nat → Int32} {n q : Nat} {σ : Int64 → Int32} {z : Int64} (h : ST sl nu n σ) (hn : q < n) (he : sl q = z) : σ z = nu q ∧ nu q ≠ 0 := by
  obtain ⟨a, b⟩ := h.2.2.1 q hn
  rw [← he]; exact ⟨b, a⟩
theorem mU_self {σ : Int64 → Int32} {z : Int64} {x : Int32} (h : σ z = x) : mU σ z x = σ := by
  funext w
  by_cases c : w = z
  · subst c; simp [mU, h]
  · simp [mU, c]
theorem mU_at (σ : Int64 → Int32) (z : Int64) (x : Int32) : mU σ z x z = x := by simp [mU]
theorem mU_ne {σ : Int64 → Int32} {z w : Int64} {x : Int32} (h : w ≠ z) : mU σ z x w = σ w := by simp [mU, h]
/-- a key's number changes -/
theorem ST_set {sl : Nat → Int64} {nu : Nat → Int32} {n q : Nat} {σ : Int64 → Int32} {z : Int64} {x : Int32} (h : ST sl nu n σ) (hn : q < n) (he : sl q = z) (hx : x ≠ 0) : ST sl (upd nu q x) n (mU σ z x) := by
  obtain ⟨h1, h2, h3, h4⟩ := h
  refine ⟨h1, h2, fun i hi => ?_, fun w hw => ?_⟩
  · by_cases c : i = q
    · subst c; rw [he, mU_at, pk_us]; exact ⟨hx, rfl⟩
    · have hne : sl i ≠ z := by
        rw [← he]
        rcases Nat.lt_or_gt_of_ne c with g | g
        · exact x_ne_of_lt (h2 i q g hn)
        · exact (x_ne_of_lt (h2 q i g hi)).symm
      rw [mU_ne hne, pk_un c]; exact h3 i hi
  · rw [mU_ne (fun e => hw q hn (he.trans e.symm))]; exact h4 w hw
/-- a key goes -/
theorem ST_del {sl : Nat → Int64} {nu : Nat → Int32} {n q : Nat} {σ : Int64 → Int32} {z : Int64} (h : ST sl nu n σ) (hn : q < n) (he : sl q = z) : ST (va_cpy sl sl (q + 1) q (n - 1 - q)) (va_cpy nu nu (q + 1) q (n - 1 - q)) (n - 1) (mU σ z 0) := by
  obtain ⟨h1, h2, h3, h4⟩ := h
  have key : ∀ {α : Type} (f : Nat → α) (i : Nat), i < n - 1 → va_cpy f f (q + 1) q (n - 1 - q) i = if i < q then f i else f (i + 1) := by
    intro α f i hi
    by_cases c : i < q
    · rw [pk_cpy_out (Or.inl c), if_pos c]
    · rw [pk_cpy_in (by omega) (by omega), if_neg c]
      congr 1; omega
  refine ⟨by omega, fun i j hij hj => ?_, fun i hi => ?_, fun w hw => ?_⟩
  · rw [key sl i (by omega), key sl j hj]
    split <;> split <;> exact h2 _ _ (by omega) (by omega)
  · rw [key sl i hi, key nu i hi]
    by_cases c : i < q
    · rw [if_pos c, if_pos c, mU_ne (by rw [← he]; exact x_ne_of_lt (h2 i q c hn))]; exact h3 i (by omega)
    · rw [if_neg c, if_neg c, mU_ne (by rw [← he]; exact (x_ne_of_lt (h2 q (i + 1) (by omega) (by omega))).symm)]; exact h3 (i + 1) (by omega)
  · by_cases c : w = z
    · rw [c, mU_at]
    · rw [mU_ne c]
      refine h4 w (fun i hi e => ?_)
      by_cases c2 : i < q
      · exact hw i (by omega) (by rw [key sl i (by omega), if_pos c2]; exact e)
      · by_cases c3 : i = q
        · rw [c3, he] at e; exact c e.symm
        · refine hw (i - 1) (by omega) ?_
          rw [key sl (i - 1) (by omega), if_neg (by omega)]
          rw [show i - 1 + 1 = i from by omega]; exact e
/-- a key comes -/
theorem ST_ins {sl : Nat → Int64} {nu : Nat → Int32} {n q : Nat} {σ : Int64 → Int32} {z : Int64} {x : Int32} (h : ST sl nu n σ) (hq : PL sl n z q) (hnz : q < n → sl q ≠ z) (hx : x ≠ 0) (hful : n < 500) :
    ST (vp_updL (va_cpy sl sl q (q + 1) (n - q)) q z) (upd (va_cpy nu nu q (q + 1) (n - q)) q x) (n + 1) (mU σ z x) := by
  have hno := ST_none h hq hnz
  obtain ⟨h1, h2, h3, h4⟩ := h
  obtain ⟨g1, g2, g3⟩ := hq
  have keyL : ∀ i, i < n + 1 → vp_updL (va_cpy sl sl q (q + 1) (n - q)) q z i = if i < q then sl i else if i = q then z else sl (i - 1) := by
    intro i hi
    by_cases c : i < q
    · rw [pk_uLn (by omega), pk_cpy_out (Or.inl (by omega)), if_pos c]
    · by_cases c2 : i = q
      · subst c2; rw [pk_uLs, if_neg c, if_pos rfl]
      · rw [pk_uLn c2, pk_cpy_in (by omega) (by omega), if_neg c, if_neg c2]; congr 1; omega
  have keyI : ∀ i, i < n + 1 → upd (va_cpy nu nu q (q + 1) (n - q)) q x i = if i < q then nu i else if i = q then x else nu (i - 1) := by
    intro i hi
    by_cases c : i < q
    · rw [pk_un (by omega), pk_cpy_out (Or.inl (by omega)), if_pos c]
    · by_cases c2 : i = q
      · subst c2; rw [pk_us, if_neg c, if_pos rfl]
      · rw [pk_un c2, pk_cpy_in (by omega) (by omega), if_neg c, if_neg c2]; congr 1; omega
  have above : ∀ i, q ≤ i → i < n → z < sl i := fun i a b => by
    rcases Int64.lt_or_eq_of_le (g3 i a b) with c | c
    · exact c
    · exact absurd c.symm (hno i b)
  refine ⟨by omega, fun i j hij hj => ?_, fun i hi => ?_, fun w hw => ?_⟩
  · rw [keyL i (by omega), keyL j hj]
    by_cases c : i < q
    · rw [if_pos c]
      by_cases c2 : j < q
      · rw [if_pos c2]; exact h2 i j hij (by omega)
      · rw [if_neg c2]
        by_cases c3 : j = q
        · rw [if_pos c3]; exact g2 i c
        · rw [if_neg c3]; exact h2 i (j - 1) (by omega) (by omega)
    · rw [if_neg c, if_neg (by omega : ¬ j < q), if_neg (by omega : ¬ j = q)]
      by_cases c2 : i = q
      · rw [if_pos c2]; exact above (j - 1) (by omega) (by omega)
      · rw [if_neg c2]; exact h2 (i - 1) (j - 1) (by omega) (by omega)
  · rw [keyL i hi, keyI i hi]
    by_cases c : i < q
    · rw [if_pos c, if_pos c, mU_ne (hno i (by omega))]; exact h3 i (by omega)
    · rw [if_neg c, if_neg c]
      by_cases c2 : i = q
      · rw [if_pos c2, if_pos c2, mU_at]; exact ⟨hx, rfl⟩
      · rw [if_neg c2, if_neg c2, mU_ne (hno (i - 1) (by omega))]; exact h3 (i - 1) (by omega)
  · have hwz : w ≠ z := fun e => hw q (by omega) (by rw [keyL q (by omega), if_neg (by omega), if_pos rfl]; exact e.symm)
    rw [mU_ne hwz]
    refine h4 w (fun i hi e => ?_)
    by_cases c : i < q
    · exact hw i (by omega) (by rw [keyL i (by omega), if_pos c]; exact e)
    · refine hw (i + 1) (by omega) ?_
      rw [keyL (i + 1) (by omega), if_neg (by omega), if_neg (by omega)]
      exact e
/-- an account's key as one long -/
def xSlot (a k : Int32) : Int64 := (a.toInt64 <<< (Int32.toInt64 32 &&& 63)) ||| (k.toInt64 &&& 4294967295)
theorem mN_same {n : Nat} {a x : Int32} (h : a = x) : mN n a x = n := by
  subst h
  unfold mN
  split <;> rfl
theorem x_sub1_neg {c : Nat} (hc : c < 2 ^ 30) (h : nI c - 1 < 0) : c = 0 := by
  rcases Nat.eq_zero_or_pos c with g | g
  · exact g
  · rw [x_pred g] at h
    exact absurd h (nI_pos (by omega))
theorem x_sub1_nneg {c : Nat} (h : ¬ nI c - 1 < 0) : 1 ≤ c := by
  rcases Nat.eq_zero_or_pos c with g | g
  · subst g; exact absurd (by decide) h
  · exact g
theorem x_dec {c : Nat} (h : 1 ≤ c) : nI c - 1 + Int32.ofInt (-1) = nI (c - 1) - 1 := by
  rw [x_pred h, show Int32.ofInt (-1) = -(1 : Int32) from by decide]; exact (Int32.sub_eq_add_neg (nI (c - 1)) 1).symm
