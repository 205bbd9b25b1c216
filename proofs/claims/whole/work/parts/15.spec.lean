/-! THE MACHINE AS A FUNCTION -/
/-- two numbers into one -/
def xComp (op : Nat) (a b : Int32) : Int32 := match op with
  | 5 => a + b
  | 6 => a - b
  | 7 => a * b
  | 8 => if b = 0 then 0 else a / b
  | 9 => if b = 0 then a else a - a / b * b
  | 10 => if a < b then 1 else 0
  | 11 => if a = b then 1 else 0
  | 13 => a &&& b
  | 14 => a ||| b
  | 15 => a ^^^ b
  | _ => 0
def xPush (op : Nat) : Bool := op == 1 || op == 3 || op == 21 || op == 22 || op == 23 || op == 28
/-- a run's own: stack, its height, place, gas, how it ended (-1: it goes on), its answer -/
abbrev XF : Type := (Nat → Int32) × Nat × Nat × Nat × Int32 × Int32
/-- what the runs share: balances, storage, how many keys, log, its length -/
abbrev XS : Type := (Nat → Int32) × (Int64 → Int32) × Nat × (Nat → Int32) × Nat
/-- an instruction but CALL is done (paid, the stack looked at, the place gone on) -/
def xPerf (op : Nat) (x : Int32) (nA ac : Nat) (cl vl : Int32) (rf : Nat → Int32) (rn : Nat) (F : XF) (S : XS) : XF × XS :=
  let sf := F.1
  let sn := F.2.1
  let pk := F.2.2.1
  let gs := F.2.2.2.1
  let en := F.2.2.2.2.1
  let an := F.2.2.2.2.2
  let push (y : Int32) : XF × XS := ((upd sf sn y, sn + 1, pk, gs, en, an), S)
  let put1 (y : Int32) : XF × XS := ((upd sf (sn - 1) y, sn - 1 + 1, pk, gs, en, an), S)
  let t0 := sf (sn - 1)
  let t1 := sf (sn - 1 - 1)
  match op with
  | 0 => ((sf, sn, pk, gs, 0, 0), S)
  | 1 => push x
  | 2 => ((sf, sn - 1, pk, gs, en, an), S)
  | 3 => push (sf (sn - 1 - x.toNatClampNeg))
  | 4 => ((upd (upd sf (sn - 1) (sf (sn - 1 - x.toNatClampNeg))) (sn - 1 - x.toNatClampNeg) t0, sn, pk, gs, en, an), S)
  | 12 => put1 (if t0 = 0 then 1 else 0)
  | 16 => ((sf, sn, x.toNatClampNeg, gs, en, an), S)
  | 17 => ((sf, sn - 1, if t0 = 0 then pk else x.toNatClampNeg, gs, en, an), S)
  | 18 => put1 (S.2.1 (xSlot (nI ac) t0))
  | 19 => if t0 ≠ 0 ∧ ¬ S.2.2.1 < 500 ∧ S.2.1 (xSlot (nI ac) t1) = 0 then ((sf, sn - 1 - 1, pk, 0, 6, 0), S)
      else ((sf, sn - 1 - 1, pk, gs, en, an), (S.1, mU S.2.1 (xSlot (nI ac) t1) t0, mN S.2.2.1 (S.2.1 (xSlot (nI ac) t1)) t0, S.2.2.2))
  | 20 => put1 (if xHas rn t0 = true then rf t0.toNatClampNeg else 0)
  | 21 => push cl
  | 22 => push vl
  | 23 => push (nI ac)
  | 24 => put1 (if xHas nA t0 = true then S.1 t0.toNatClampNeg else -1)
  | 25 => ((sf, sn - 1, pk, gs, en, an), if S.2.2.2.2 < 300 then (S.1, S.2.1, S.2.2.1, upd S.2.2.2.1 S.2.2.2.2 t0, S.2.2.2.2 + 1) else S)
  | 26 => ((sf, sn - 1, pk, gs, 0, t0), S)
  | 28 => push (nI gs)
  | 29 => ((sf, sn - 1, pk, gs, 1, t0), S)
  | _ => ((upd sf (sn - 1 - 1) (xComp op t1 t0), sn - 1 - 1 + 1, pk, gs, en, an), S)
/-- what the store's own list of changes tells: nothing changed, or one change more -/
def xLog (σ : Int64 → Int32) (kn : Nat) (cs : Nat → Int64) (nb : Nat → Int32) (ch : Nat) (σ2 : Int64 → Int32) (kn2 : Nat) (cs2 : Nat → Int64) (nb2 : Nat → Int32) (ch2 : Nat) : Prop :=
  (σ2 = σ ∧ kn2 = kn ∧ cs2 = cs ∧ nb2 = nb ∧ ch2 = ch) ∨ (ch < 500 ∧ ch2 = ch + 1 ∧ ∃ (z : Int64) (v : Int32), σ z ≠ v ∧ σ2 = mU σ z v ∧ kn2 = mN kn (σ z) v ∧ cs2 = vp_updL cs ch z ∧ nb2 = upd nb ch (σ z))
theorem xLog_of {σ : Int64 → Int32} {kn : Nat} {cs : Nat → Int64} {nb : Nat → Int32} {ch : Nat} {z : Int64} {v : Int32} (hch : σ z ≠ v → ch < 500) :
    xLog σ kn cs nb ch (mU σ z v) (mN kn (σ z) v) (if σ z = v then cs else vp_updL cs ch z) (if σ z = v then nb else upd nb ch (σ z)) (if σ z = v then ch else ch + 1) := by
  by_cases h : σ z = v
  · rw [if_pos h, if_pos h, if_pos h]
    exact Or.inl ⟨mU_self h, mN_same h, rfl, rfl, rfl⟩
  · rw [if_neg h, if_neg h, if_neg h]
    exact Or.inr ⟨hch h, rfl, z, v, h, rfl, rfl, rfl, rfl⟩
/-- a table's place with another one's surroundings -/
def stT (t : Nat) (f : Nat → Int32) (A : Nat → Prop) (U : State) : Prop := stX A U ∧ va_T .int t 30 (fun j => .int (f j)) A U U.heap
theorem stT_ok (t : Nat) (f : Nat → Int32) : x_ok (stT t f) := by
  intro A B U V h hAB hk hW
  exact ⟨stX_ok A B U V h.1 hAB hk hW, ((h.2.kept hk).narrow hAB).moved hW.alike⟩
