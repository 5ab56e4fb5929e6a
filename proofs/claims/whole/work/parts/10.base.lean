/-! ===== small words for numbers ===== -/
def bI (b : Bool) : Int32 := if b then 1 else 0
theorem bI_nar (b : Bool) : narrow .boolean (.int (bI b)) = .int (bI b) := by cases b <;> rfl
theorem bI_0 {b : Bool} : bI b = 0 ↔ b = false := by cases b <;> simp [bI]
theorem bI_1 {b : Bool} : ¬ bI b = 0 ↔ b = true := by cases b <;> simp [bI]
theorem bI_t : bI true = 1 := rfl
theorem bI_f : bI false = 0 := rfl
theorem nn_lt {a b : Nat} (ha : a < 2 ^ 31) (hb : b < 2 ^ 31) (c : nI a < nI b) : a < b := (nI_ltI ha hb).mp c
theorem nn_nlt {a b : Nat} (ha : a < 2 ^ 31) (hb : b < 2 ^ 31) (c : ¬ nI a < nI b) : b ≤ a := Nat.le_of_not_lt fun q => c ((nI_ltI ha hb).mpr q)
theorem nn_le {a b : Nat} (ha : a < 2 ^ 31) (hb : b < 2 ^ 31) (c : nI a ≤ nI b) : a ≤ b := (nI_leI ha hb).mp c
theorem nn_nle {a b : Nat} (ha : a < 2 ^ 31) (hb : b < 2 ^ 31) (c : ¬ nI a ≤ nI b) : b < a := Nat.lt_of_not_le fun q => c ((nI_leI ha hb).mpr q)
theorem nn_eq {a b : Nat} (ha : a < 2 ^ 31) (hb : b < 2 ^ 31) (c : nI a = nI b) : a = b := (nI_eq ha hb).mp c
theorem nn_neq {a b : Nat} (ha : a < 2 ^ 31) (hb : b < 2 ^ 31) (c : ¬ nI a = nI b) : ¬ a = b := fun q => c (by rw [q])
theorem i_lt (a b : Int32) : a < b ↔ a.toInt < b.toInt := Int32.lt_iff_toInt_lt
theorem i_le (a b : Int32) : a ≤ b ↔ a.toInt ≤ b.toInt := Int32.le_iff_toInt_le
theorem i_nlt {a b : Int32} : ¬ a < b ↔ b ≤ a := by rw [i_lt, i_le]; omega
theorem i_nle {a b : Int32} : ¬ a ≤ b ↔ b < a := by rw [i_lt, i_le]; omega
theorem i_eq {a b : Int32} : a = b ↔ a.toInt = b.toInt := Int32.toInt_inj.symm
noncomputable def pB (q : Prop) : Bool := @decide q (Classical.propDecidable q)
theorem pB_t {q : Prop} (h : q) : pB q = true := @decide_eq_true q (Classical.propDecidable q) h
theorem pB_f {q : Prop} (h : ¬ q) : pB q = false := @decide_eq_false q (Classical.propDecidable q) h
theorem pB_iff {q : Prop} : pB q = true ↔ q := @decide_eq_true_iff q (Classical.propDecidable q)
theorem pB_not {q : Prop} : pB q = false ↔ ¬ q := @decide_eq_false_iff_not q (Classical.propDecidable q)
theorem pB_congr {q r : Prop} (h : q ↔ r) : pB q = pB r := by rw [show q = r from propext h]
theorem b1 {q : Prop} (h : q) : (some (.int 1) : Option Value) = some (.int (bI (pB q))) := by rw [pB_t h]; rfl
theorem b0 {q : Prop} (h : ¬ q) : (some (.int 0) : Option Value) = some (.int (bI (pB q))) := by rw [pB_f h]; rfl
def sh (g : Nat → Int32) (o : Nat) : Nat → Int32 := fun j => g (o + j)
/-- a ring: its corners' places, and how many -/
abbrev rg_R : Type := (Nat → Int32) × (Nat → Int32) × Nat
/-- how far a point is to the left of the line through the corners a and b -/
def rg_left (xs ys : Nat → Int32) (a b : Nat) (x y : Int32) : Int32 := (xs b - xs a) * (y - ys a) - (ys b - ys a) * (x - xs a)
def rg_side (R : rg_R) (i : Nat) (x y : Int32) : Int32 := rg_left R.1 R.2.1 i ((i + 1) % R.2.2) x y
def rg_ok (R : rg_R) : Prop := 3 ≤ R.2.2 ∧ ∀ i, i < R.2.2 → ∀ k, k < R.2.2 → k ≠ i → k ≠ (i + 1) % R.2.2 → 0 < rg_side R i (R.1 k) (R.2.1 k)
def rg_parts (R O : rg_R) : Prop := ∃ i, i < R.2.2 ∧ ∀ k, k < O.2.2 → rg_side R i (O.1 k) (O.2.1 k) ≤ 0
def rg_sum (g : Nat → Int32) : Nat → Int32
  | 0 => 0
  | k + 1 => rg_sum g k + g k
def rg_area (R : rg_R) : Int32 := rg_sum (fun i => rg_side R i 0 0) R.2.2
/-- whether a point is within a distance of a side -/
def rc_reach (x y ax ay bx y2 : Int32) (most : Int64) (less : Bool) : Prop :=
  let ux := (bx - ax).toInt64; let uy := (y2 - ay).toInt64; let wx := (x - ax).toInt64; let wy := (y - ay).toInt64
  let along := ux * wx + uy * wy; let whole := ux * ux + uy * uy
  if 0 < along then
    if along < whole then (if less then (ux * wy - uy * wx) * (ux * wy - uy * wx) < most * most * whole else (ux * wy - uy * wx) * (ux * wy - uy * wx) ≤ most * most * whole)
    else (if less then (x - bx).toInt64 * (x - bx).toInt64 + (y - y2).toInt64 * (y - y2).toInt64 < most * most * 1 else (x - bx).toInt64 * (x - bx).toInt64 + (y - y2).toInt64 * (y - y2).toInt64 ≤ most * most * 1)
  else (if less then wx * wx + wy * wy < most * most * 1 else wx * wx + wy * wy ≤ most * most * 1)
def rg_reach (R : rg_R) (i : Nat) (x y : Int32) (most : Int64) (less : Bool) : Prop := rc_reach x y (R.1 i) (R.2.1 i) (R.1 ((i + 1) % R.2.2)) (R.2.1 ((i + 1) % R.2.2)) most less
def rg_cor (R O : rg_R) (d : Int64) : Prop := ∃ k, k < R.2.2 ∧ ∃ i, i < O.2.2 ∧ rg_reach O i (R.1 k) (R.2.1 k) d false
def rg_near (R O : rg_R) (d : Int64) : Prop := rg_cor R O d ∨ rg_cor O R d
theorem l_nlt {a b : Int64} : ¬ a < b ↔ b ≤ a := by rw [Int64.lt_iff_toInt_lt, Int64.le_iff_toInt_le]; omega
theorem l_nle {a b : Int64} : ¬ a ≤ b ↔ b < a := by rw [Int64.lt_iff_toInt_lt, Int64.le_iff_toInt_le]; omega
theorem md_nat {q : Int32} {k : Nat} (hk : k < 2 ^ 31) (h : 0 ≤ q ∧ q ≤ nI k - 1) : ∃ r : Nat, r < k ∧ q = nI r := by
  by_cases h0 : k = 0
  · subst h0
    have h2 : q ≤ -1 := h.2
    have := (i_le _ _).mp h.1
    have := (i_le _ _).mp h2
    have e1 : (0 : Int32).toInt = 0 := rfl
    have e2 : (-1 : Int32).toInt = -1 := rfl
    omega
  · have e : nI k - 1 = nI (k - 1) := pk_sub (a := k) (b := 1) (by omega)
    rw [e] at h
    obtain ⟨r, hr, e2⟩ := nI_of2 (x := q) (M := nI (k - 1)) (n := k - 1) (nI_toInt (by omega)) (i_nlt.mpr h.1) h.2
    exact ⟨r, by omega, e2⟩
theorem nI_m1 {k : Nat} {x : Int32} (h : nI (k + 1) = x) : nI k = x - 1 := by rw [← h, nI_succ]; simp
section MPC2
variable {p : Program} {l : Launch} {e : Env} {R : Room} {s : State} {m : MethodId} {args : Array Value} {below : List Frame} {meth : Method} {c : Code} {H : Heap} {locs : List Loc} {cells slots : Nat} {Q : State → Prop} {A : Nat → Prop} {D : va_G} {M0 : mp_M} {pc mc ms : Nat} {ls : Array Slot} {rest st0 : List Value} {a : Array Value}
theorem mp_calli {r : Int32} (hr : va_Run p l e R s m args below meth c H locs cells slots mc ms (F0 m pc ls st0) rest (mp_Q D A (fun v M1 => v = some (.int r) ∧ M1 = M0) a) A) (hS : va_S A s.heap H locs)
    (kk : ∀ (H1 : Heap) (locs1 : List Loc), mp_P D A M0 H1 → va_S A s.heap H1 locs1 → W p l e R s m args below meth c H1 locs1 (cells + mc) (slots + ms) Q (F0 m (pc + 3) ls (.int r :: rest))) : W p l e R s m args below meth c H locs cells slots Q (F0 m pc ls st0) := mp_callD hr hS kk
theorem mp_calll {r : Int64} (hr : va_Run p l e R s m args below meth c H locs cells slots mc ms (F0 m pc ls st0) rest (mp_Q D A (fun v M1 => v = some (.long r) ∧ M1 = M0) a) A) (hS : va_S A s.heap H locs)
    (kk : ∀ (H1 : Heap) (locs1 : List Loc), mp_P D A M0 H1 → va_S A s.heap H1 locs1 → W p l e R s m args below meth c H1 locs1 (cells + mc) (slots + ms) Q (F0 m (pc + 3) ls (.long r :: rest))) : W p l e R s m args below meth c H locs cells slots Q (F0 m pc ls st0) := mp_callD hr hS kk
theorem mp_callv (hr : va_Run p l e R s m args below meth c H locs cells slots mc ms (F0 m pc ls st0) rest (mp_Q D A (fun v M1 => v = none ∧ M1 = M0) a) A) (hS : va_S A s.heap H locs)
    (kk : ∀ (H1 : Heap) (locs1 : List Loc), mp_P D A M0 H1 → va_S A s.heap H1 locs1 → W p l e R s m args below meth c H1 locs1 (cells + mc) (slots + ms) Q (F0 m (pc + 3) ls rest)) : W p l e R s m args below meth c H locs cells slots Q (F0 m pc ls st0) := mp_callD hr hS kk
end MPC2
