/-! ===== rings: small numbers as whole numbers ===== -/
theorem in63 {v : Int32} (h : md_in v 0 63) : 0 ≤ v.toInt ∧ v.toInt ≤ 63 := ⟨(i_le _ _).mp h.1, (i_le _ _).mp h.2⟩
theorem g_abs {v w A B : Int} (h1 : -A ≤ v ∧ v ≤ A) (h2 : -B ≤ w ∧ w ≤ B) : -(A * B) ≤ v * w ∧ v * w ≤ A * B := by
  have a1 := Int.mul_nonneg (show 0 ≤ A - v by omega) (show 0 ≤ B + w by omega)
  have a2 := Int.mul_nonneg (show 0 ≤ A + v by omega) (show 0 ≤ B - w by omega)
  have a3 := Int.mul_nonneg (show 0 ≤ A - v by omega) (show 0 ≤ B - w by omega)
  have a4 := Int.mul_nonneg (show 0 ≤ A + v by omega) (show 0 ≤ B + w by omega)
  have e1 : (A - v) * (B + w) + (A + v) * (B - w) = 2 * (A * B) - 2 * (v * w) := by grind
  have e2 : (A - v) * (B - w) + (A + v) * (B + w) = 2 * (A * B) + 2 * (v * w) := by grind
  omega
/-- the long x is the whole number v, which lies between -A and A -/
def bd (x : Int64) (v A : Int) : Prop := x.toInt = v ∧ -A ≤ v ∧ v ≤ A
def bs (x : Int32) (v A : Int) : Prop := x.toInt = v ∧ -A ≤ v ∧ v ≤ A
theorem bm64 {v : Int} (h : -9223372036854775808 ≤ v ∧ v < 9223372036854775808) : v.bmod (2 ^ 64) = v := by
  rw [Int.bmod_def]
  omega
theorem bm32 {v : Int} (h : -2147483648 ≤ v ∧ v < 2147483648) : v.bmod (2 ^ 32) = v := by
  rw [Int.bmod_def]
  omega
theorem bd_add {x y : Int64} {v w A B : Int} (h1 : bd x v A) (h2 : bd y w B) (h : A + B < 9223372036854775808) : bd (x + y) (v + w) (A + B) := by
  obtain ⟨a1, a2, a3⟩ := h1
  obtain ⟨b1, k2_, b3⟩ := h2
  exact ⟨by rw [Int64.toInt_add, a1, b1, bm64 (by omega)], by omega, by omega⟩
theorem bd_sub {x y : Int64} {v w A B : Int} (h1 : bd x v A) (h2 : bd y w B) (h : A + B < 9223372036854775808) : bd (x - y) (v - w) (A + B) := by
  obtain ⟨a1, a2, a3⟩ := h1
  obtain ⟨b1, k2_, b3⟩ := h2
  exact ⟨by rw [Int64.toInt_sub, a1, b1, bm64 (by omega)], by omega, by omega⟩
theorem bd_mul {x y : Int64} {v w A B : Int} (h1 : bd x v A) (h2 : bd y w B) (h : A * B < 9223372036854775808) : bd (x * y) (v * w) (A * B) := by
  have k := g_abs h1.2 h2.2
  exact ⟨by rw [Int64.toInt_mul, h1.1, h2.1, bm64 (by omega)], k.1, k.2⟩
theorem bs_add {x y : Int32} {v w A B : Int} (h1 : bs x v A) (h2 : bs y w B) (h : A + B < 2147483648) : bs (x + y) (v + w) (A + B) := by
  obtain ⟨a1, a2, a3⟩ := h1
  obtain ⟨b1, k2_, b3⟩ := h2
  exact ⟨by rw [Int32.toInt_add, a1, b1, bm32 (by omega)], by omega, by omega⟩
theorem bs_sub {x y : Int32} {v w A B : Int} (h1 : bs x v A) (h2 : bs y w B) (h : A + B < 2147483648) : bs (x - y) (v - w) (A + B) := by
  obtain ⟨a1, a2, a3⟩ := h1
  obtain ⟨b1, k2_, b3⟩ := h2
  exact ⟨by rw [Int32.toInt_sub, a1, b1, bm32 (by omega)], by omega, by omega⟩
theorem bs_mul {x y : Int32} {v w A B : Int} (h1 : bs x v A) (h2 : bs y w B) (h : A * B < 2147483648) : bs (x * y) (v * w) (A * B) := by
  have k := g_abs h1.2 h2.2
  exact ⟨by rw [Int32.toInt_mul, h1.1, h2.1, bm32 (by omega)], k.1, k.2⟩
theorem bs_w {x : Int32} {v A B : Int} (h : bs x v A) (hb : A ≤ B) : bs x v B := ⟨h.1, by have := h.2.1; omega, by have := h.2.2; omega⟩
theorem bs_64 {x : Int32} {v A : Int} (h : bs x v A) : bd x.toInt64 v A := ⟨by rw [Int32.toInt_toInt64]; exact h.1, h.2⟩
theorem bd_lt {x y : Int64} {v w A B : Int} (h1 : bd x v A) (h2 : bd y w B) : x < y ↔ v < w := by rw [Int64.lt_iff_toInt_lt, h1.1, h2.1]
theorem bd_le {x y : Int64} {v w A B : Int} (h1 : bd x v A) (h2 : bd y w B) : x ≤ y ↔ v ≤ w := by rw [Int64.le_iff_toInt_le, h1.1, h2.1]
theorem bs_lt {x y : Int32} {v w A B : Int} (h1 : bs x v A) (h2 : bs y w B) : x < y ↔ v < w := by rw [i_lt, h1.1, h2.1]
theorem bs_le {x y : Int32} {v w A B : Int} (h1 : bs x v A) (h2 : bs y w B) : x ≤ y ↔ v ≤ w := by rw [i_le, h1.1, h2.1]
theorem bd_0 : bd 0 0 0 := ⟨rfl, by omega, by omega⟩
theorem bs_0 : bs 0 0 0 := ⟨rfl, by omega, by omega⟩
theorem bs_d {a b : Int32} (ha : md_in a 0 63) (hb : md_in b 0 63) : bs (a - b) (a.toInt - b.toInt) 63 := by
  have h1 := in63 ha
  have h2 := in63 hb
  exact ⟨by rw [Int32.toInt_sub, bm32 (by omega)], by omega, by omega⟩
theorem bs_n {a : Int32} {A : Int} (h : 0 ≤ a.toInt ∧ a.toInt ≤ A) : bs a a.toInt A := ⟨rfl, by omega, h.2⟩
theorem d64 {x a b : Int32} (hx : md_in x 0 63) (ha : md_in a 0 63) (hb : md_in b 0 63) : (x - b).toInt64 = (x - a).toInt64 - (b - a).toInt64 := by
  have k := bd_sub (bs_64 (bs_d hx ha)) (bs_64 (bs_d hb ha)) (by omega)
  rw [← Int64.toInt_inj, (bs_64 (bs_d hx hb)).1, k.1]
  omega
theorem cmpI_le {a b : Int64} : cmpI a b ≤ 0 ↔ a ≤ b := by
  unfold cmpI
  by_cases c1 : a < b
  · rw [if_pos c1]
    exact ⟨fun _ => Int64.le_of_lt c1, fun _ => by decide⟩
  · rw [if_neg c1]
    by_cases c3 : a = b
    · rw [if_pos c3]
      exact ⟨fun _ => by rw [c3]; exact Int64.le_refl _, fun _ => by decide⟩
    · rw [if_neg c3]
      refine ⟨fun z => absurd z (by decide), fun z => ?_⟩
      have z1 := Int64.le_iff_toInt_le.mp z
      have z2 : ¬ a.toInt < b.toInt := fun y => c1 (Int64.lt_iff_toInt_lt.mpr y)
      exact absurd (Int64.toInt_inj.mp (by omega)) c3
theorem cmpI_lt {a b : Int64} : cmpI a b < 0 ↔ a < b := by
  unfold cmpI
  by_cases c1 : a < b
  · rw [if_pos c1]
    exact ⟨fun _ => c1, fun _ => by decide⟩
  · rw [if_neg c1]
    by_cases c3 : a = b
    · rw [if_pos c3]
      exact ⟨fun z => absurd z (by decide), fun z => absurd z c1⟩
    · rw [if_neg c3]
      exact ⟨fun z => absurd z (by decide), fun z => absurd z c1⟩
/-- the corners lie where corners may lie -/
def RgB (R : rg_R) : Prop := ∀ j, j < R.2.2 → md_in (R.1 j) 0 63 ∧ md_in (R.2.1 j) 0 63
theorem cd_le {R : rg_R} {i : Nat} {x y d : Int32} (hR : RgB R) (hi : i < R.2.2) (hx : md_in x 0 63) (hy : md_in y 0 63) : cd_f R i x y d ≤ 0 ↔ rg_reach R i x y d.toInt64 false := by
  have hm : (i + 1) % R.2.2 < R.2.2 := Nat.mod_lt _ (by omega)
  have e1 := d64 hx (hR i hi).1 (hR _ hm).1
  have e2 := d64 hy (hR i hi).2 (hR _ hm).2
  unfold cd_f rg_reach rc_reach
  simp only [e1, e2, Int64.mul_one, Bool.false_eq_true, if_false]
  rw [Int64.mul_comm (x - R.1 i).toInt64 (R.1 ((i + 1) % R.2.2) - R.1 i).toInt64, Int64.mul_comm (y - R.2.1 i).toInt64 (R.2.1 ((i + 1) % R.2.2) - R.2.1 i).toInt64]
  split
  · split
    · exact cmpI_le
    · exact cmpI_le
  · exact cmpI_le
theorem cd_lt {R : rg_R} {i : Nat} {x y d : Int32} (hR : RgB R) (hi : i < R.2.2) (hx : md_in x 0 63) (hy : md_in y 0 63) : cd_f R i x y d < 0 ↔ rg_reach R i x y d.toInt64 true := by
  have hm : (i + 1) % R.2.2 < R.2.2 := Nat.mod_lt _ (by omega)
  have e1 := d64 hx (hR i hi).1 (hR _ hm).1
  have e2 := d64 hy (hR i hi).2 (hR _ hm).2
  unfold cd_f rg_reach rc_reach
  simp only [e1, e2, Int64.mul_one, if_true]
  rw [Int64.mul_comm (x - R.1 i).toInt64 (R.1 ((i + 1) % R.2.2) - R.1 i).toInt64, Int64.mul_comm (y - R.2.1 i).toInt64 (R.2.1 ((i + 1) % R.2.2) - R.2.1 i).toInt64]
  split
  · split
    · exact cmpI_lt
    · exact cmpI_lt
  · exact cmpI_lt
theorem rc_rz {x y ax ay bx y2 d : Int32} (hx : md_in x 0 63) (hy : md_in y 0 63) (hax : md_in ax 0 63) (hay : md_in ay 0 63) (hbx : md_in bx 0 63) (hby : md_in y2 0 63) (hd : md_in d 0 999) : rc_reach x y ax ay bx y2 d.toInt64 true ↔ rz x.toInt y.toInt ax.toInt ay.toInt bx.toInt y2.toInt d.toInt := by
  have bux := bs_64 (bs_d hbx hax)
  have buy := bs_64 (bs_d hby hay)
  have bwx := bs_64 (bs_d hx hax)
  have bwy := bs_64 (bs_d hy hay)
  have bvx := bs_64 (bs_d hx hbx)
  have bvy := bs_64 (bs_d hy hby)
  have bdd : bd d.toInt64 d.toInt 999 := bs_64 (bs_n ⟨(i_le _ _).mp hd.1, (i_le _ _).mp hd.2⟩)
  have bal := bd_add (bd_mul bux bwx (by omega)) (bd_mul buy bwy (by omega)) (by omega)
  have bwh := bd_add (bd_mul bux bux (by omega)) (bd_mul buy buy (by omega)) (by omega)
  have bcr := bd_sub (bd_mul bux bwy (by omega)) (bd_mul buy bwx (by omega)) (by omega)
  have bcc := bd_mul bcr bcr (by omega)
  have bee := bd_mul bdd bdd (by omega)
  have bew := bd_mul bee bwh (by omega)
  have bvv := bd_add (bd_mul bvx bvx (by omega)) (bd_mul bvy bvy (by omega)) (by omega)
  have bww := bd_add (bd_mul bwx bwx (by omega)) (bd_mul bwy bwy (by omega)) (by omega)
  unfold rc_reach rz
  simp only [Int64.mul_one, if_true]
  by_cases c1 : 0 < (bx.toInt - ax.toInt) * (x.toInt - ax.toInt) + (y2.toInt - ay.toInt) * (y.toInt - ay.toInt)
  · rw [if_pos ((bd_lt bd_0 bal).mpr c1), if_pos c1]
    by_cases k2_ : (bx.toInt - ax.toInt) * (x.toInt - ax.toInt) + (y2.toInt - ay.toInt) * (y.toInt - ay.toInt) < (bx.toInt - ax.toInt) * (bx.toInt - ax.toInt) + (y2.toInt - ay.toInt) * (y2.toInt - ay.toInt)
    · rw [if_pos ((bd_lt bal bwh).mpr k2_), if_pos k2_]
      exact bd_lt bcc bew
    · rw [if_neg (fun z => k2_ ((bd_lt bal bwh).mp z)), if_neg k2_]
      exact bd_lt bvv bee
  · rw [if_neg (fun z => c1 ((bd_lt bd_0 bal).mp z)), if_neg c1]
    exact bd_lt bww bee
theorem side_z {R : rg_R} {i : Nat} {x y : Int32} (hR : RgB R) (hi : i < R.2.2) (hx : md_in x 0 63) (hy : md_in y 0 63) : bs (rg_side R i x y) (lz (fun j => (R.1 j).toInt) (fun j => (R.2.1 j).toInt) i (sc R.2.2 i) x.toInt y.toInt) 7938 := by
  have hm := sc_lt hi
  unfold rg_side rg_left lz
  rw [sc_mod hi]
  exact bs_sub (bs_mul (bs_d (hR _ hm).1 (hR i hi).1) (bs_d hy (hR i hi).2) (by omega)) (bs_mul (bs_d (hR _ hm).2 (hR i hi).2) (bs_d hx (hR i hi).1) (by omega)) (by omega)
theorem ok_z {R : rg_R} (hR : RgB R) (hok : rg_ok R) : ∀ i, i < R.2.2 → ∀ k, k < R.2.2 → k ≠ i → k ≠ sc R.2.2 i → 0 < lz (fun j => (R.1 j).toInt) (fun j => (R.2.1 j).toInt) i (sc R.2.2 i) (R.1 k).toInt (R.2.1 k).toInt := fun i hi k hk h1 h2 => by
  have z := hok.2 i hi k hk h1 (by rw [sc_mod hi]; exact h2)
  exact (bs_lt bs_0 (side_z hR hi (hR k hk).1 (hR k hk).2)).mp z
theorem ins_z {R : rg_R} {x y : Int32} (hR : RgB R) (hx : md_in x 0 63) (hy : md_in y 0 63) (h : rg_ins R x y) : ∀ i, i < R.2.2 → 0 ≤ lz (fun j => (R.1 j).toInt) (fun j => (R.2.1 j).toInt) i (sc R.2.2 i) x.toInt y.toInt := fun i hi => by
  have z := h i hi
  rw [bs_lt (side_z hR hi hx hy) bs_0] at z
  omega
/-- a corner under e from a side's line: the class finds it -/
theorem cor_z {R : rg_R} {x y t : Int32} (hR : RgB R) (hok : rg_ok R) (hx : md_in x 0 63) (hy : md_in y 0 63) (ht : md_in t 0 999) (hin : rg_ins R x y) {j : Nat} (hj : j < R.2.2) (hd : lz (fun j => (R.1 j).toInt) (fun j => (R.2.1 j).toInt) j (sc R.2.2 j) x.toInt y.toInt * lz (fun j => (R.1 j).toInt) (fun j => (R.2.1 j).toInt) j (sc R.2.2 j) x.toInt y.toInt < t.toInt * t.toInt * wz (fun j => (R.1 j).toInt) (fun j => (R.2.1 j).toInt) j (sc R.2.2 j)) : cdN R x y t := by
  obtain ⟨i, hi, hz⟩ := g_near hok.1 (ok_z hR hok) (ins_z hR hx hy hin) hj hd
  refine ⟨i, hi, (cd_lt hR hi hx hy).mpr ?_⟩
  unfold rg_reach
  rw [sc_mod hi]
  exact (rc_rz hx hy (hR i hi).1 (hR i hi).2 (hR _ (sc_lt hi)).1 (hR _ (sc_lt hi)).2 ht).mpr hz
theorem tight_cg {R : rg_R} {D : ds_D} {t : Int32} (hR : RgB R) (hok : rg_ok R) (h0 : md_in D.2.1 0 63) (h1 : md_in D.2.2.2.1 0 63) (h2 : md_in D.2.2.1 0 63) (h3 : md_in D.2.2.2.2.1 0 63) (hx : D.2.1 < D.2.2.2.1) (hy : D.2.2.1 < D.2.2.2.2.1) (ht : md_in t 0 999) (hin : cs_in R D) : md_tight R D.2.1 D.2.2.1 D.2.2.2.1 D.2.2.2.2.1 t.toInt64 ↔ cs_tig R D t := by
  have hx' := (i_lt _ _).mp hx
  have hy' := (i_lt _ _).mp hy
  constructor
  · rintro ⟨i, hi, h⟩
    have hw : 0 < wz (fun j => (R.1 j).toInt) (fun j => (R.2.1 j).toInt) i (sc R.2.2 i) := g_w hok.1 (ok_z hR hok) hi
    have k00 := ins_z hR h0 h2 hin.1 i hi
    have k10 := ins_z hR h1 h2 hin.2.1 i hi
    have k11 := ins_z hR h1 h3 hin.2.2.1 i hi
    have k01 := ins_z hR h0 h3 hin.2.2.2 i hi
    rcases h with h | h | h | h | h | h | h | h
    · exact Or.inl ⟨i, hi, (cd_lt hR hi h0 h2).mpr h⟩
    · exact Or.inr (Or.inl ⟨i, hi, (cd_lt hR hi h1 h2).mpr h⟩)
    · exact Or.inr (Or.inr (Or.inr ⟨i, hi, (cd_lt hR hi h0 h3).mpr h⟩))
    · exact Or.inr (Or.inr (Or.inl ⟨i, hi, (cd_lt hR hi h1 h3).mpr h⟩))
    · rcases g_hor hx' hw k00 k10 ((rc_rz (hR i hi).1 (hR i hi).2 h0 h2 h1 h2 ht).mp h) with z | z
      · exact Or.inl (cor_z hR hok h0 h2 ht hin.1 hi z)
      · exact Or.inr (Or.inl (cor_z hR hok h1 h2 ht hin.2.1 hi z))
    · rcases g_ver hy' hw k10 k11 ((rc_rz (hR i hi).1 (hR i hi).2 h1 h2 h1 h3 ht).mp h) with z | z
      · exact Or.inr (Or.inl (cor_z hR hok h1 h2 ht hin.2.1 hi z))
      · exact Or.inr (Or.inr (Or.inl (cor_z hR hok h1 h3 ht hin.2.2.1 hi z)))
    · rcases g_hor hx' hw k01 k11 ((rc_rz (hR i hi).1 (hR i hi).2 h0 h3 h1 h3 ht).mp h) with z | z
      · exact Or.inr (Or.inr (Or.inr (cor_z hR hok h0 h3 ht hin.2.2.2 hi z)))
      · exact Or.inr (Or.inr (Or.inl (cor_z hR hok h1 h3 ht hin.2.2.1 hi z)))
    · rcases g_ver hy' hw k00 k01 ((rc_rz (hR i hi).1 (hR i hi).2 h0 h2 h0 h3 ht).mp h) with z | z
      · exact Or.inl (cor_z hR hok h0 h2 ht hin.1 hi z)
      · exact Or.inr (Or.inr (Or.inr (cor_z hR hok h0 h3 ht hin.2.2.2 hi z)))
  · rintro (⟨i, hi, h⟩ | ⟨i, hi, h⟩ | ⟨i, hi, h⟩ | ⟨i, hi, h⟩)
    · exact ⟨i, hi, Or.inl ((cd_lt hR hi h0 h2).mp h)⟩
    · exact ⟨i, hi, Or.inr (Or.inl ((cd_lt hR hi h1 h2).mp h))⟩
    · exact ⟨i, hi, Or.inr (Or.inr (Or.inr (Or.inl ((cd_lt hR hi h1 h3).mp h))))⟩
    · exact ⟨i, hi, Or.inr (Or.inr (Or.inl ((cd_lt hR hi h0 h3).mp h)))⟩
/-! ===== rings that agree ===== -/
def RgE (R R' : rg_R) : Prop := R.2.2 = R'.2.2 ∧ ∀ j, j < R.2.2 → R.1 j = R'.1 j ∧ R.2.1 j = R'.2.1 j
theorem RgE.symm {R R' : rg_R} (h : RgE R R') : RgE R' R := ⟨h.1.symm, fun j hj => ⟨(h.2 j (by rw [h.1]; exact hj)).1.symm, (h.2 j (by rw [h.1]; exact hj)).2.symm⟩⟩
theorem rgE_side {R R' : rg_R} (h : RgE R R') {i : Nat} (hi : i < R.2.2) (x y : Int32) : rg_side R i x y = rg_side R' i x y := by
  have hm : (i + 1) % R.2.2 < R.2.2 := Nat.mod_lt _ (by omega)
  unfold rg_side rg_left
  rw [← h.1, (h.2 i hi).1, (h.2 i hi).2, (h.2 _ hm).1, (h.2 _ hm).2]
theorem rgE_reach {R R' : rg_R} (h : RgE R R') {i : Nat} (hi : i < R.2.2) (x y : Int32) (e : Int64) (b : Bool) : rg_reach R i x y e b = rg_reach R' i x y e b := by
  have hm : (i + 1) % R.2.2 < R.2.2 := Nat.mod_lt _ (by omega)
  unfold rg_reach
  rw [← h.1, (h.2 i hi).1, (h.2 i hi).2, (h.2 _ hm).1, (h.2 _ hm).2]
theorem rgE_ok1 {R R' : rg_R} (h : RgE R R') (k : rg_ok R) : rg_ok R' := by
  refine ⟨by rw [← h.1]; exact k.1, fun i hi j hj h1 h2 => ?_⟩
  rw [← h.1] at hi hj h2
  rw [← rgE_side h hi, ← (h.2 j hj).1, ← (h.2 j hj).2]
  exact k.2 i hi j hj h1 h2
theorem rgE_ok {R R' : rg_R} (h : RgE R R') : rg_ok R ↔ rg_ok R' := ⟨rgE_ok1 h, rgE_ok1 h.symm⟩
theorem rgE_parts1 {R R' O O' : rg_R} (h : RgE R R') (g : RgE O O') (k : rg_parts R O) : rg_parts R' O' := by
  obtain ⟨i, hi, z⟩ := k
  refine ⟨i, by rw [← h.1]; exact hi, fun j hj => ?_⟩
  rw [← g.1] at hj
  rw [← rgE_side h hi, ← (g.2 j hj).1, ← (g.2 j hj).2]
  exact z j hj
theorem rgE_parts {R R' O O' : rg_R} (h : RgE R R') (g : RgE O O') : rg_parts R O ↔ rg_parts R' O' := ⟨rgE_parts1 h g, rgE_parts1 h.symm g.symm⟩
theorem rgE_cor1 {R R' O O' : rg_R} (h : RgE R R') (g : RgE O O') {d : Int64} (k : rg_cor R O d) : rg_cor R' O' d := by
  obtain ⟨j, hj, i, hi, z⟩ := k
  refine ⟨j, by rw [← h.1]; exact hj, i, by rw [← g.1]; exact hi, ?_⟩
  rw [← rgE_reach g hi, ← (h.2 j hj).1, ← (h.2 j hj).2]
  exact z
theorem rgE_near {R R' O O' : rg_R} (h : RgE R R') (g : RgE O O') {d : Int64} : rg_near R O d ↔ rg_near R' O' d :=
  ⟨fun z => z.elim (fun y => Or.inl (rgE_cor1 h g y)) (fun y => Or.inr (rgE_cor1 g h y)), fun z => z.elim (fun y => Or.inl (rgE_cor1 h.symm g.symm y)) (fun y => Or.inr (rgE_cor1 g.symm h.symm y))⟩
theorem rgE_tight1 {R R' : rg_R} (h : RgE R R') {x0 y0 x1 y1 : Int32} {e : Int64} (k : md_tight R x0 y0 x1 y1 e) : md_tight R' x0 y0 x1 y1 e := by
  obtain ⟨i, hi, z⟩ := k
  refine ⟨i, by rw [← h.1]; exact hi, ?_⟩
  rw [← rgE_reach h hi, ← rgE_reach h hi, ← rgE_reach h hi, ← rgE_reach h hi, ← (h.2 i hi).1, ← (h.2 i hi).2]
  exact z
theorem rgE_tight {R R' : rg_R} (h : RgE R R') {x0 y0 x1 y1 : Int32} {e : Int64} : md_tight R x0 y0 x1 y1 e ↔ md_tight R' x0 y0 x1 y1 e := ⟨rgE_tight1 h, rgE_tight1 h.symm⟩
theorem sum_cg {g g' : Nat → Int32} : ∀ n, (∀ i, i < n → g i = g' i) → rg_sum g n = rg_sum g' n
  | 0, _ => rfl
  | n + 1, h => by rw [rg_sum, rg_sum, sum_cg n (fun i hi => h i (by omega)), h n (by omega)]
theorem ar2_side (R : rg_R) (i : Nat) : rg_side R i 0 0 = rg_ar2 R i := by
  unfold rg_side rg_left rg_ar2
  grind
theorem rgE_area {R R' : rg_R} (h : RgE R R') : rg_sum (rg_ar2 R) R.2.2 = rg_area R' := by
  rw [rg_area, ← h.1]
  exact sum_cg _ (fun i hi => by rw [← rgE_side h hi, ar2_side])
theorem out_in {R R' : rg_R} (h : RgE R R') (D : ds_D) : (∃ i, i < R'.2.2 ∧ md_out R' i D.2.1 D.2.2.1 D.2.2.2.1 D.2.2.2.2.1) ↔ ¬ cs_in R D := by
  constructor
  · rintro ⟨i, hi, z⟩ y
    rw [← h.1] at hi
    unfold md_out at z
    rw [← rgE_side h hi, ← rgE_side h hi, ← rgE_side h hi, ← rgE_side h hi] at z
    rcases z with z | z | z | z
    · exact y.1 i hi z
    · exact y.2.1 i hi z
    · exact y.2.2.2 i hi z
    · exact y.2.2.1 i hi z
  · intro y
    refine Classical.byContradiction (fun n0 => y ⟨fun i hi z => n0 ⟨i, by rw [← h.1]; exact hi, ?_⟩, fun i hi z => n0 ⟨i, by rw [← h.1]; exact hi, ?_⟩, fun i hi z => n0 ⟨i, by rw [← h.1]; exact hi, ?_⟩, fun i hi z => n0 ⟨i, by rw [← h.1]; exact hi, ?_⟩⟩)
    · exact Or.inl (by rw [← rgE_side h hi]; exact z)
    · exact Or.inr (Or.inl (by rw [← rgE_side h hi]; exact z))
    · exact Or.inr (Or.inr (Or.inr (by rw [← rgE_side h hi]; exact z)))
    · exact Or.inr (Or.inr (Or.inl (by rw [← rgE_side h hi]; exact z)))
theorem cdW_cor {R O : rg_R} {d : Int32} (hR : RgB R) (hO : RgB O) : cdW R O d ↔ rg_cor O R d.toInt64 :=
  ⟨fun ⟨k, hk, i, hi, z⟩ => ⟨k, hk, i, hi, (cd_le hR hi (hO k hk).1 (hO k hk).2).mp z⟩, fun ⟨k, hk, i, hi, z⟩ => ⟨k, hk, i, hi, (cd_le hR hi (hO k hk).1 (hO k hk).2).mpr z⟩⟩
theorem near_cg {R R' O O' : rg_R} {d : Int32} (h : RgE R R') (g : RgE O O') (hR : RgB R) (hO : RgB O) : (cdW R O d ∨ cdW O R d) ↔ rg_near R' O' d.toInt64 := by
  rw [cdW_cor hR hO, cdW_cor hO hR, ← rgE_near h g, rg_near]
  exact Or.comm
