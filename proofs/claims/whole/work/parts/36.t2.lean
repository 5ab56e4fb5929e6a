/-! ===== plane geometry in whole numbers ===== -/
theorem g_sq (x : Int) : 0 ≤ x * x := by
  rcases Int.le_total 0 x with h | h
  · exact Int.mul_nonneg h h
  · have k := Int.mul_nonneg (show 0 ≤ -x by omega) (show 0 ≤ -x by omega)
    rwa [Int.neg_mul_neg] at k
theorem g_sq0 {x : Int} (h : x * x ≤ 0) : x = 0 := by
  have h2 : x * x = 0 := Int.le_antisymm h (g_sq x)
  rcases Int.mul_eq_zero.mp h2 with z | z <;> exact z
theorem g_sqlt {x y : Int} (h0 : 0 ≤ x) (h : x < y) : x * x < y * y := by
  have a1 := Int.mul_le_mul_of_nonneg_left (Int.le_of_lt h) h0
  have a2 := Int.mul_lt_mul_of_pos_right h (show 0 < y by omega)
  omega
theorem g_sqle {x y : Int} (h0 : 0 ≤ x) (h : x ≤ y) : x * x ≤ y * y := by
  rcases Int.lt_or_eq_of_le h with z | z
  · exact Int.le_of_lt (g_sqlt h0 z)
  · rw [z]; exact Int.le_refl _
theorem g_or (a b : Int) : a < b ∨ b ≤ a := by omega
theorem g_pos {a b : Int} (ha : 0 < a) (h : 0 < a * b) : 0 < b := by
  rcases g_or 0 b with z | z
  · exact z
  · have k := Int.mul_le_mul_of_nonneg_left z (Int.le_of_lt ha)
    rw [Int.mul_zero] at k
    omega
theorem g_lag (ux uy wx wy : Int) : (ux * wy - uy * wx) * (ux * wy - uy * wx) + (ux * wx + uy * wy) * (ux * wx + uy * wy) = (ux * ux + uy * uy) * (wx * wx + wy * wy) := by grind
theorem g_id (ux uy vx vy wx wy : Int) : (ux * ux + uy * uy) * (vx * wy - vy * wx) = (ux * vx + uy * vy) * (ux * wy - uy * wx) - (ux * vy - uy * vx) * (ux * wx + uy * wy) := by grind
theorem g_core0 {W V a b k c0 m0 : Int} (hW : 0 < W) (ha : 0 ≤ a) (hb : 0 ≤ b) (hm : 0 < m0) (e1 : W * b = c0 * a - m0) (e2 : k * k + c0 * c0 = W * V) (hmin : a * a * V ≤ b * b * W) : False := by
  have n1 : 0 ≤ W * b := Int.mul_nonneg (Int.le_of_lt hW) hb
  have h1 : W * b < c0 * a := by omega
  have h2 := g_sqlt n1 h1
  have h3 : a * a * V * W ≤ b * b * W * W := Int.mul_le_mul_of_nonneg_right hmin (Int.le_of_lt hW)
  have h4 : b * b * W * W = (W * b) * (W * b) := by grind
  have h5 := g_sq (k * a)
  have h6 : (c0 * a) * (c0 * a) + (k * a) * (k * a) = (k * k + c0 * c0) * (a * a) := by grind
  have h7 : W * V * (a * a) = a * a * V * W := by grind
  rw [e2, h7] at h6
  omega
theorem g_core {ux uy vx vy wx wy : Int} (hW : 0 < ux * ux + uy * uy) (ha : 0 ≤ ux * wy - uy * wx) (hb : 0 ≤ vx * wy - vy * wx) (hm : 0 < (ux * vy - uy * vx) * (ux * wx + uy * wy)) (hmin : (ux * wy - uy * wx) * (ux * wy - uy * wx) * (vx * vx + vy * vy) ≤ (vx * wy - vy * wx) * (vx * wy - vy * wx) * (ux * ux + uy * uy)) : False :=
  g_core0 hW ha hb hm (g_id ux uy vx vy wx wy) (g_lag ux uy vx vy) hmin
theorem g_min (a w : Nat → Int) : ∀ n, 0 < n → (∀ k, k < n → 0 < w k) → ∃ i, i < n ∧ ∀ k, k < n → a i * w k ≤ a k * w i
  | 0, h, _ => absurd h (Nat.lt_irrefl 0)
  | 1, _, _ => ⟨0, by omega, fun k hk => by rw [show k = 0 by omega]; exact Int.le_refl _⟩
  | n + 2, _, hw => by
    obtain ⟨i, hi, h⟩ := g_min a w (n + 1) (by omega) (fun k hk => hw k (by omega))
    by_cases q : a i * w (n + 1) ≤ a (n + 1) * w i
    · refine ⟨i, by omega, fun k hk => ?_⟩
      by_cases e : k = n + 1
      · rw [e]; exact q
      · exact h k (by omega)
    · refine ⟨n + 1, by omega, fun k hk => ?_⟩
      by_cases e : k = n + 1
      · rw [e]; exact Int.le_refl _
      · have hk' := h k (by omega)
        have wi := hw i (by omega)
        have wk := hw k (by omega)
        have wn := hw (n + 1) (by omega)
        have b1 := Int.mul_le_mul_of_nonneg_right (show a (n + 1) * w i ≤ a i * w (n + 1) by omega) (Int.le_of_lt wk)
        have b2 := Int.mul_le_mul_of_nonneg_right hk' (Int.le_of_lt wn)
        have b3 : a i * w (n + 1) * w k = a i * w k * w (n + 1) := by grind
        have b4 : a (n + 1) * w i * w k = a (n + 1) * w k * w i := by grind
        have b5 : a k * w i * w (n + 1) = a k * w (n + 1) * w i := by grind
        exact Int.le_of_mul_le_mul_right (show a (n + 1) * w k * w i ≤ a k * w (n + 1) * w i by omega) wi
/-- whether a point is nearer than e to a side -/
def rz (x y ax ay bx y2 e : Int) : Prop :=
  if 0 < (bx - ax) * (x - ax) + (y2 - ay) * (y - ay) then
    (if (bx - ax) * (x - ax) + (y2 - ay) * (y - ay) < (bx - ax) * (bx - ax) + (y2 - ay) * (y2 - ay) then ((bx - ax) * (y - ay) - (y2 - ay) * (x - ax)) * ((bx - ax) * (y - ay) - (y2 - ay) * (x - ax)) < e * e * ((bx - ax) * (bx - ax) + (y2 - ay) * (y2 - ay)) else (x - bx) * (x - bx) + (y - y2) * (y - y2) < e * e)
  else (x - ax) * (x - ax) + (y - ay) * (y - ay) < e * e
def lz (X Y : Nat → Int) (i j : Nat) (x y : Int) : Int := (X j - X i) * (y - Y i) - (Y j - Y i) * (x - X i)
def wz (X Y : Nat → Int) (i j : Nat) : Int := (X j - X i) * (X j - X i) + (Y j - Y i) * (Y j - Y i)
def sc (n i : Nat) : Nat := if i + 1 < n then i + 1 else 0
def pz (n i : Nat) : Nat := if 0 < i then i - 1 else n - 1
theorem sc_lt {n i : Nat} (h : i < n) : sc n i < n := by unfold sc; split <;> omega
theorem pz_lt {n i : Nat} (h : i < n) : pz n i < n := by unfold pz; split <;> omega
theorem sc_pz {n i : Nat} (h : i < n) : sc n (pz n i) = i := by
  unfold sc pz
  by_cases a : 0 < i
  · rw [if_pos a, if_pos (by omega)]; omega
  · rw [if_neg a, if_neg (by omega)]; omega
theorem sc_2 {n i : Nat} (h : i < n) (hn : 3 ≤ n) : sc n (sc n i) ≠ i ∧ sc n (sc n i) ≠ sc n i ∧ sc n i ≠ i := by
  unfold sc
  by_cases a : i + 1 < n
  · rw [if_pos a]
    by_cases b : i + 1 + 1 < n
    · rw [if_pos b]; omega
    · rw [if_neg b]; omega
  · rw [if_neg a, if_pos (by omega)]; omega
theorem sc_mod {n i : Nat} (h : i < n) : (i + 1) % n = sc n i := by
  unfold sc
  by_cases a : i + 1 < n
  · rw [if_pos a, aft_lt a]
  · rw [if_neg a, aft_ge h (by omega)]
section GEO
variable {X Y : Nat → Int} {n : Nat} (hn : 3 ≤ n) (hok : ∀ i, i < n → ∀ k, k < n → k ≠ i → k ≠ sc n i → 0 < lz X Y i (sc n i) (X k) (Y k))
theorem g_w (hn : 3 ≤ n) (hok : ∀ i, i < n → ∀ k, k < n → k ≠ i → k ≠ sc n i → 0 < lz X Y i (sc n i) (X k) (Y k)) {i : Nat} (hi : i < n) : 0 < wz X Y i (sc n i) := by
  have h2 := sc_2 hi hn
  have h := hok i hi (sc n (sc n i)) (sc_lt (sc_lt hi)) h2.1 h2.2.1
  rcases g_or 0 (wz X Y i (sc n i)) with z | z
  · exact z
  · unfold wz at z
    have a1 := g_sq (X (sc n i) - X i)
    have a2 := g_sq (Y (sc n i) - Y i)
    have b1 := g_sq0 (x := X (sc n i) - X i) (by omega)
    have b2 := g_sq0 (x := Y (sc n i) - Y i) (by omega)
    unfold lz at h
    rw [b1, b2] at h
    simp at h
/-- a point inside whose distance to some side's line is under e is nearer than e to a side -/
theorem g_near (hn : 3 ≤ n) (hok : ∀ i, i < n → ∀ k, k < n → k ≠ i → k ≠ sc n i → 0 < lz X Y i (sc n i) (X k) (Y k)) {x y e : Int} (hin : ∀ i, i < n → 0 ≤ lz X Y i (sc n i) x y) {j : Nat} (hj : j < n) (hd : lz X Y j (sc n j) x y * lz X Y j (sc n j) x y < e * e * wz X Y j (sc n j)) : ∃ i, i < n ∧ rz x y (X i) (Y i) (X (sc n i)) (Y (sc n i)) e := by
  obtain ⟨i, hi, hm⟩ := g_min (fun k => lz X Y k (sc n k) x y * lz X Y k (sc n k) x y) (fun k => wz X Y k (sc n k)) n (by omega) (fun k hk => g_w hn hok hk)
  have hw := g_w hn hok hi
  have hwj := g_w hn hok hj
  have hmj := hm j hj
  have hdi : lz X Y i (sc n i) x y * lz X Y i (sc n i) x y < e * e * wz X Y i (sc n i) := by
    have b1 := Int.mul_lt_mul_of_pos_right hd hw
    have b2 : e * e * wz X Y j (sc n j) * wz X Y i (sc n i) = e * e * wz X Y i (sc n i) * wz X Y j (sc n j) := by grind
    exact Int.lt_of_mul_lt_mul_right (show lz X Y i (sc n i) x y * lz X Y i (sc n i) x y * wz X Y j (sc n j) < e * e * wz X Y i (sc n i) * wz X Y j (sc n j) by omega) (Int.le_of_lt hwj)
  refine ⟨i, hi, ?_⟩
  have h2 := sc_2 hi hn
  have hli := hin i hi
  unfold rz
  by_cases c1 : 0 < (X (sc n i) - X i) * (x - X i) + (Y (sc n i) - Y i) * (y - Y i)
  · rw [if_pos c1]
    by_cases k2_ : (X (sc n i) - X i) * (x - X i) + (Y (sc n i) - Y i) * (y - Y i) < (X (sc n i) - X i) * (X (sc n i) - X i) + (Y (sc n i) - Y i) * (Y (sc n i) - Y i)
    · rw [if_pos k2_]
      exact hdi
    · rw [if_neg k2_]
      have f1 : lz X Y i (sc n i) x y = (X (sc n i) - X i) * (y - Y (sc n i)) - (Y (sc n i) - Y i) * (x - X (sc n i)) := by unfold lz; grind
      have f2 : (X (sc n i) - X i) * (x - X (sc n i)) + (Y (sc n i) - Y i) * (y - Y (sc n i)) = (X (sc n i) - X i) * (x - X i) + (Y (sc n i) - Y i) * (y - Y i) - ((X (sc n i) - X i) * (X (sc n i) - X i) + (Y (sc n i) - Y i) * (Y (sc n i) - Y i)) := by grind
      have lg := g_lag (X (sc n i) - X i) (Y (sc n i) - Y i) (x - X (sc n i)) (y - Y (sc n i))
      rcases g_or 0 ((X (sc n i) - X i) * (x - X (sc n i)) + (Y (sc n i) - Y i) * (y - Y (sc n i))) with z | z
      · exfalso
        have hb := hin (sc n i) (sc_lt hi)
        have hk := hok i hi (sc n (sc n i)) (sc_lt (sc_lt hi)) h2.1 h2.2.1
        have f3 : lz X Y i (sc n i) (X (sc n (sc n i))) (Y (sc n (sc n i))) = (X (sc n i) - X i) * (Y (sc n (sc n i)) - Y (sc n i)) - (Y (sc n i) - Y i) * (X (sc n (sc n i)) - X (sc n i)) := by unfold lz; grind
        have hmk := hm (sc n i) (sc_lt hi)
        rw [f1] at hmk hli
        rw [f3] at hk
        exact g_core hw hli hb (Int.mul_pos hk z) hmk
      · have z0 : (X (sc n i) - X i) * (x - X (sc n i)) + (Y (sc n i) - Y i) * (y - Y (sc n i)) = 0 := by omega
        rw [z0, ← f1] at lg
        rw [show (0 : Int) * 0 = 0 from rfl, Int.add_zero] at lg
        have hd2 := hdi
        rw [lg] at hd2
        have e9 : e * e * wz X Y i (sc n i) = wz X Y i (sc n i) * (e * e) := Int.mul_comm _ _
        rw [e9] at hd2
        exact Int.lt_of_mul_lt_mul_left hd2 (Int.le_of_lt hw)
  · rw [if_neg c1]
    have lg := g_lag (X (sc n i) - X i) (Y (sc n i) - Y i) (x - X i) (y - Y i)
    rcases g_or ((X (sc n i) - X i) * (x - X i) + (Y (sc n i) - Y i) * (y - Y i)) 0 with z | z
    · exfalso
      have hp := pz_lt hi
      have hsp := sc_pz hi
      have hb := hin (pz n i) hp
      rw [hsp] at hb
      have g1 : sc n i ≠ pz n i := fun q => by
        have := (sc_2 hp hn).1
        rw [hsp] at this
        exact this q
      have hk := hok (pz n i) hp (sc n i) (sc_lt hi) g1 (by rw [hsp]; exact h2.2.2)
      rw [hsp] at hk
      have f3 : lz X Y (pz n i) i (X (sc n i)) (Y (sc n i)) = (X i - X (pz n i)) * (Y (sc n i) - Y i) - (Y i - Y (pz n i)) * (X (sc n i) - X i) := by unfold lz; grind
      have f4 : lz X Y (pz n i) i x y = (X i - X (pz n i)) * (y - Y i) - (Y i - Y (pz n i)) * (x - X i) := by unfold lz; grind
      have hmk := hm (pz n i) hp
      simp only [hsp] at hmk
      rw [f4] at hmk hb
      rw [f3] at hk
      refine g_core hw hli hb ?_ hmk
      have q1 := Int.mul_pos hk (show 0 < -((X (sc n i) - X i) * (x - X i) + (Y (sc n i) - Y i) * (y - Y i)) by omega)
      have q2 : ((X (sc n i) - X i) * (Y i - Y (pz n i)) - (Y (sc n i) - Y i) * (X i - X (pz n i))) * ((X (sc n i) - X i) * (x - X i) + (Y (sc n i) - Y i) * (y - Y i)) = ((X i - X (pz n i)) * (Y (sc n i) - Y i) - (Y i - Y (pz n i)) * (X (sc n i) - X i)) * -((X (sc n i) - X i) * (x - X i) + (Y (sc n i) - Y i) * (y - Y i)) := by grind
      rw [q2]
      exact q1
    · have z0 : (X (sc n i) - X i) * (x - X i) + (Y (sc n i) - Y i) * (y - Y i) = 0 := by omega
      rw [z0, show (0 : Int) * 0 = 0 from rfl, Int.add_zero] at lg
      have hd2 : lz X Y i (sc n i) x y * lz X Y i (sc n i) x y < e * e * wz X Y i (sc n i) := hdi
      unfold lz at hd2
      rw [lg] at hd2
      have e9 : e * e * wz X Y i (sc n i) = wz X Y i (sc n i) * (e * e) := Int.mul_comm _ _
      rw [e9] at hd2
      exact Int.lt_of_mul_lt_mul_left hd2 (Int.le_of_lt hw)
end GEO
/-- from the line's side: a point Q whose square distance from the line's point is under e * e, and a point with less distance to the line -/
theorem g_ln {ux uy wx wy lc e W : Int} (hW : 0 < W) (eW : W = ux * ux + uy * uy) (h0 : 0 ≤ lc) (h1 : lc ≤ ux * wy - uy * wx) (hd : wx * wx + wy * wy < e * e) : lc * lc < e * e * W := by
  have a1 := g_sqle h0 h1
  have lg := g_lag ux uy wx wy
  have a2 := g_sq (ux * wx + uy * wy)
  have a3 := Int.mul_lt_mul_of_pos_left hd hW
  rw [eW] at a3
  rw [eW, Int.mul_comm (e * e)]
  omega
/-- a vertex (vx, vy) nearer than e to the stretch from (x0, y0) to (x1, y0) of a horizontal side: an end of it is under e from the line through the vertex -/
theorem g_hor {vx vy x0 x1 y0 e ux uy : Int} (hx : x0 < x1) (hW : 0 < ux * ux + uy * uy) (h0 : 0 ≤ ux * (y0 - vy) - uy * (x0 - vx)) (h1 : 0 ≤ ux * (y0 - vy) - uy * (x1 - vx)) (hr : rz vx vy x0 y0 x1 y0 e) :
    (ux * (y0 - vy) - uy * (x0 - vx)) * (ux * (y0 - vy) - uy * (x0 - vx)) < e * e * (ux * ux + uy * uy) ∨ (ux * (y0 - vy) - uy * (x1 - vx)) * (ux * (y0 - vy) - uy * (x1 - vx)) < e * e * (ux * ux + uy * uy) := by
  unfold rz at hr
  rw [Int.sub_self, Int.zero_mul, Int.zero_mul, Int.add_zero, Int.add_zero, Int.zero_mul, Int.sub_zero] at hr
  by_cases c1 : 0 < (x1 - x0) * (vx - x0)
  · rw [if_pos c1] at hr
    have p1 : 0 < vx - x0 := g_pos (a := x1 - x0) (by omega) c1
    by_cases k2_ : (x1 - x0) * (vx - x0) < (x1 - x0) * (x1 - x0)
    · rw [if_pos k2_] at hr
      have p2 : vx - x0 < x1 - x0 := Int.lt_of_mul_lt_mul_left k2_ (by omega)
      have hq : (vy - y0) * (vy - y0) < e * e := by
        have b1 : (x1 - x0) * (vy - y0) * ((x1 - x0) * (vy - y0)) = (x1 - x0) * (x1 - x0) * ((vy - y0) * (vy - y0)) := by grind
        rw [b1, Int.mul_comm (e * e)] at hr
        exact Int.lt_of_mul_lt_mul_left hr (g_sq _)
      have hq2 : 0 * 0 + (y0 - vy) * (y0 - vy) < e * e := by
        have b2 : (y0 - vy) * (y0 - vy) = (vy - y0) * (vy - y0) := by grind
        rw [b2]
        omega
      rcases Int.le_total uy 0 with u | u
      · left
        refine g_ln (wx := 0) (wy := y0 - vy) hW rfl h0 ?_ hq2
        have b3 := Int.mul_nonneg (show 0 ≤ -uy by omega) (show 0 ≤ vx - x0 by omega)
        have b4 : -uy * (vx - x0) = uy * (x0 - vx) := by grind
        rw [Int.mul_zero]
        omega
      · right
        refine g_ln (wx := 0) (wy := y0 - vy) hW rfl h1 ?_ hq2
        have b3 := Int.mul_nonneg u (show 0 ≤ x1 - vx by omega)
        rw [Int.mul_zero]
        omega
    · rw [if_neg k2_] at hr
      right
      refine g_ln (wx := x1 - vx) (wy := y0 - vy) hW rfl h1 (Int.le_refl _) ?_
      have b5 : (x1 - vx) * (x1 - vx) + (y0 - vy) * (y0 - vy) = (vx - x1) * (vx - x1) + (vy - y0) * (vy - y0) := by grind
      rw [b5]
      exact hr
  · rw [if_neg c1] at hr
    left
    refine g_ln (wx := x0 - vx) (wy := y0 - vy) hW rfl h0 (Int.le_refl _) ?_
    have b5 : (x0 - vx) * (x0 - vx) + (y0 - vy) * (y0 - vy) = (vx - x0) * (vx - x0) + (vy - y0) * (vy - y0) := by grind
    rw [b5]
    exact hr
theorem g_ver {vx vy x0 y0 y1 e ux uy : Int} (hy : y0 < y1) (hW : 0 < ux * ux + uy * uy) (h0 : 0 ≤ ux * (y0 - vy) - uy * (x0 - vx)) (h1 : 0 ≤ ux * (y1 - vy) - uy * (x0 - vx)) (hr : rz vx vy x0 y0 x0 y1 e) :
    (ux * (y0 - vy) - uy * (x0 - vx)) * (ux * (y0 - vy) - uy * (x0 - vx)) < e * e * (ux * ux + uy * uy) ∨ (ux * (y1 - vy) - uy * (x0 - vx)) * (ux * (y1 - vy) - uy * (x0 - vx)) < e * e * (ux * ux + uy * uy) := by
  unfold rz at hr
  rw [Int.sub_self, Int.zero_mul, Int.zero_mul, Int.zero_add, Int.zero_add, Int.zero_mul, Int.zero_sub] at hr
  by_cases c1 : 0 < (y1 - y0) * (vy - y0)
  · rw [if_pos c1] at hr
    have p1 : 0 < vy - y0 := g_pos (a := y1 - y0) (by omega) c1
    by_cases k2_ : (y1 - y0) * (vy - y0) < (y1 - y0) * (y1 - y0)
    · rw [if_pos k2_] at hr
      have p2 : vy - y0 < y1 - y0 := Int.lt_of_mul_lt_mul_left k2_ (by omega)
      have hq : (vx - x0) * (vx - x0) < e * e := by
        have b1 : -((y1 - y0) * (vx - x0)) * -((y1 - y0) * (vx - x0)) = (y1 - y0) * (y1 - y0) * ((vx - x0) * (vx - x0)) := by grind
        rw [b1, Int.mul_comm (e * e)] at hr
        exact Int.lt_of_mul_lt_mul_left hr (g_sq _)
      have hq2 : (x0 - vx) * (x0 - vx) + 0 * 0 < e * e := by
        have b2 : (x0 - vx) * (x0 - vx) = (vx - x0) * (vx - x0) := by grind
        rw [b2]
        omega
      rcases Int.le_total 0 ux with u | u
      · left
        refine g_ln (wx := x0 - vx) (wy := 0) hW rfl h0 ?_ hq2
        have b3 := Int.mul_nonneg u (show 0 ≤ vy - y0 by omega)
        have b4 : ux * (vy - y0) = -(ux * (y0 - vy)) := by grind
        rw [Int.mul_zero]
        omega
      · right
        refine g_ln (wx := x0 - vx) (wy := 0) hW rfl h1 ?_ hq2
        have b3 := Int.mul_nonneg (show 0 ≤ -ux by omega) (show 0 ≤ y1 - vy by omega)
        have b4 : -ux * (y1 - vy) = -(ux * (y1 - vy)) := by grind
        rw [Int.mul_zero]
        omega
    · rw [if_neg k2_] at hr
      right
      refine g_ln (wx := x0 - vx) (wy := y1 - vy) hW rfl h1 (Int.le_refl _) ?_
      have b5 : (x0 - vx) * (x0 - vx) + (y1 - vy) * (y1 - vy) = (vx - x0) * (vx - x0) + (vy - y1) * (vy - y1) := by grind
      rw [b5]
      exact hr
  · rw [if_neg c1] at hr
    left
    refine g_ln (wx := x0 - vx) (wy := y0 - vy) hW rfl h0 (Int.le_refl _) ?_
    have b5 : (x0 - vx) * (x0 - vx) + (y0 - vy) * (y0 - vy) = (vx - x0) * (vx - x0) + (vy - y0) * (vy - y0) := by grind
    rw [b5]
    exact hr
