/-! ===== words and signs of a text, as the class and as the reference read them ===== -/
def dN (lt : Nat → Nat) : Nat → Nat
  | 0 => 0
  | k + 1 => 256 * dN lt k + lt k
theorem dN_inj : ∀ (k k2_ : Nat) (lt lt2 : Nat → Nat), (∀ j, j < k → 0 < lt j ∧ lt j < 256) → (∀ j, j < k2_ → 0 < lt2 j ∧ lt2 j < 256) → dN lt k = dN lt2 k2_ → k = k2_ ∧ ∀ j, j < k → lt j = lt2 j
  | 0, 0, _, _, _, _, _ => ⟨rfl, fun j hj => absurd hj (Nat.not_lt_zero _)⟩
  | 0, k2_ + 1, lt, lt2, _, h2, h => by
    have := h2 k2_ (by omega)
    simp only [dN] at h
    omega
  | k + 1, 0, lt, lt2, h1, _, h => by
    have := h1 k (by omega)
    simp only [dN] at h
    omega
  | k + 1, k2_ + 1, lt, lt2, h1, h2, h => by
    have a := h1 k (by omega)
    have b := h2 k2_ (by omega)
    simp only [dN] at h
    obtain ⟨e, q⟩ := dN_inj k k2_ lt lt2 (fun j hj => h1 j (by omega)) (fun j hj => h2 j (by omega)) (by omega)
    subst e
    refine ⟨rfl, fun j hj => ?_⟩
    by_cases z : j = k
    · subst z; omega
    · exact q j (by omega)
theorem dN_lt {lt : Nat → Nat} : ∀ k, (∀ j, j < k → lt j < 256) → dN lt k < 256 ^ k
  | 0, _ => by show 0 < 256 ^ 0; decide
  | k + 1, h => by
    have a := dN_lt k (fun j hj => h j (by omega))
    have b := h k (by omega)
    simp only [dN]
    rw [Nat.pow_succ]
    omega
theorem dN_eq {lt lt2 : Nat → Nat} : ∀ k, (∀ j, j < k → lt j = lt2 j) → dN lt k = dN lt2 k
  | 0, _ => rfl
  | k + 1, h => by
    simp only [dN]
    rw [dN_eq k (fun j hj => h j (by omega)), h k (by omega)]
theorem dg_step {x : Int64} {n r : Nat} (hx : x.toBitVec.toNat = n) (hn : n < 2 ^ 48) (hr : r < 128) : (x <<< ((8 : Int32).toInt64 &&& 63) ||| (nI r).toInt64).toBitVec.toNat = 256 * n + r := by
  have e8 : ((8 : Int32).toInt64 &&& 63) = 8 := by decide
  have er : (nI r).toInt64.toBitVec.toNat = r := by
    have e : (nI r).toInt64 = Int64.ofNat r := by
      apply Int64.toInt_inj.mp
      rw [Int32.toInt_toInt64]
      have h1 : (nI r).toInt = (r : Int) := by
        show (Int32.ofNat r).toInt = _
        rw [Int32.toInt_ofNat_of_lt (by omega)]
      rw [h1, Int64.toInt_ofNat_of_lt (by omega)]
    rw [e]
    show (BitVec.ofNat 64 r).toNat = r
    rw [BitVec.toNat_ofNat]
    omega
  rw [e8, Int64.toBitVec_or, BitVec.toNat_or, er, Int64.toBitVec_shiftLeft]
  have es : ((8 : Int64).toBitVec.smod 64) = 8#64 := by decide
  rw [es, BitVec.shiftLeft_eq', BitVec.toNat_shiftLeft, hx]
  have e9 : (8#64).toNat = 8 := by decide
  rw [e9, Nat.shiftLeft_eq]
  rw [Nat.mod_eq_of_lt (by omega)]
  rw [show n * 2 ^ 8 = n <<< 8 from (Nat.shiftLeft_eq n 8).symm, ← Nat.shiftLeft_add_eq_or_of_lt (show r < 2 ^ 8 by omega), Nat.shiftLeft_eq]
  omega
theorem dg_n {t : Nat → Int32} {a : Nat} {lt : Nat → Nat} : ∀ k, k ≤ 7 → (∀ j, j < k → t (a + j) = nI (lt j) ∧ lt j < 128) → (dg t a k).toBitVec.toNat = dN lt k
  | 0, _, _ => by show (0 : Int64).toBitVec.toNat = 0; decide
  | k + 1, hk, h => by
    have ih := dg_n k (by omega) (fun j hj => h j (by omega))
    have b := dN_lt (lt := lt) k (fun j hj => by have := (h j (by omega)).2; omega)
    have hp : 256 ^ k ≤ 2 ^ 48 := by
      rw [show (256 : Nat) = 2 ^ 8 by decide, ← Nat.pow_mul]
      exact Nat.pow_le_pow_right (by decide) (by omega)
    rw [dg, if_pos (by omega), (h k (by omega)).1]
    exact dg_step ih (by omega) (h k (by omega)).2
theorem l_nat {v : Int32} (h : md_in v 97 122) : ∃ r : Nat, v = nI r ∧ 97 ≤ r ∧ r ≤ 122 := by
  obtain ⟨r, hr, e⟩ := md_nat (q := v) (k := 123) (by decide) ⟨(i_le _ _).mpr (Int.le_trans (by decide) ((i_le _ _).mp h.1)), h.2⟩
  refine ⟨r, e, ?_, by omega⟩
  have := h.1
  rw [e] at this
  exact nn_le (a := 97) (b := r) (by decide) (by omega) this
def sN (k j : Nat) : Nat := (sB k j).toNatClampNeg
def sW (k : Nat) : Bool := k == 0 || k == 3 || k == 4 || k == 5 || k == 6 || k == 7 || k == 8
theorem sN_ok : ∀ k, k < 10 → sW k = true → 0 < sL k ∧ ∀ j, j < sL k → sB k j = nI (sN k j) ∧ 97 ≤ sN k j ∧ sN k j ≤ 122 := by decide
theorem hereW {t : Nat → Int32} {sz i k : Nat} {cw : Int64} (hi : i ≤ sz) (hk : k < 10) (hw : sW k = true) (hcw : cw.toBitVec.toNat = dN (sN k) (sL k)) (hc0 : cw ≠ 0) : (hereP t (tb t sz i) (te t sz i) k ↔ wd t sz i = cw) ∧ (wd t sz i = cw → te t sz i = we t sz i) := by
  obtain ⟨s0, s1⟩ := sN_ok k hk hw
  have s6 := sL_le k hk
  have hin := we_in (t := t) hi
  have hte := te_in (t := t) hi
  have hL := sk_spec (P := isL t) (sz - tb t sz i + 1) (tb t sz i) (by omega) (tb_in hi).2
  have back : wd t sz i = cw → te t sz i = we t sz i ∧ hereP t (tb t sz i) (te t sz i) k := by
    intro h
    have h7 : we t sz i - tb t sz i ≤ 7 := Classical.byContradiction (fun z => hc0 (by rw [← h, wd, if_neg z]))
    rw [wd, if_pos h7] at h
    have hlt : ∀ j : Nat, ∃ r : Nat, j < we t sz i - tb t sz i → t (tb t sz i + j) = nI r ∧ 97 ≤ r ∧ r ≤ 122 := by
      intro j
      by_cases hj : j < we t sz i - tb t sz i
      · obtain ⟨r, e⟩ := l_nat (hL.2.2.1 (tb t sz i + j) (by omega) (show tb t sz i + j < we t sz i by omega))
        exact ⟨r, fun _ => e⟩
      · exact ⟨0, fun z => absurd z hj⟩
    obtain ⟨lt, hlt⟩ := Classical.axiomOfChoice hlt
    have hn := dg_n (t := t) (a := tb t sz i) (lt := lt) (we t sz i - tb t sz i) h7 (fun j hj => ⟨(hlt j hj).1, by have := (hlt j hj).2; omega⟩)
    rw [h, hcw] at hn
    obtain ⟨e1, e2⟩ := dN_inj _ _ _ _ (fun j hj => by have := (s1 j hj).2; omega) (fun j hj => by have := (hlt j hj).2; omega) hn
    have e3 : te t sz i = we t sz i := te_w (by omega)
    refine ⟨e3, by rw [e3]; omega, fun j hj => ?_⟩
    rw [(hlt j (by omega)).1, (s1 j hj).1, e2 j hj]
  refine ⟨⟨fun h => ?_, fun h => (back h).2⟩, fun h => (back h).1⟩
  have h0 := h.2 0 s0
  rw [(s1 0 s0).1, Nat.add_zero] at h0
  have hl : isL t (tb t sz i) := by
    show md_in (t (tb t sz i)) 97 122
    rw [h0]
    exact ⟨nI_le (s1 0 s0).2.1 (by have := (s1 0 s0).2.2; omega), nI_le (s1 0 s0).2.2 (by decide)⟩
  have hgo : tb t sz i < we t sz i := sk_go (by have := h.1; omega) hl
  have e3 : te t sz i = we t sz i := te_w (by omega)
  have hlen := h.1
  rw [e3] at hlen
  rw [wd, hlen, if_pos (by omega)]
  apply Int64.toBitVec_inj.mp
  apply BitVec.eq_of_toNat_eq
  rw [hcw, dg_n (lt := sN k) (sL k) (by omega) (fun j hj => ⟨by rw [h.2 j hj]; exact (s1 j hj).1, by have := (s1 j hj).2; omega⟩)]
theorem hereS {t : Nat → Int32} {sz i k : Nat} {q : Int32} (hi : i ≤ sz) (hk : sL k = 1) (hq : sB k 0 = q) (hl : ¬ md_in q 97 122) (hd : ¬ md_in q 48 57) : (hereP t (tb t sz i) (te t sz i) k ↔ tkP t sz i q) ∧ (tkP t sz i q → te t sz i = tkN t sz i q) := by
  have hte := te_in (t := t) hi
  have back : tkP t sz i q → te t sz i = tb t sz i + 1 := fun h => te_1 (sk_no (fun z => hl (by have := z.2; rw [← h.2]; exact this))) (sk_no (fun z => hd (by have := z.2; rw [← h.2]; exact this))) h.1
  refine ⟨⟨fun h => ?_, fun h => ?_⟩, fun h => by rw [back h, tkN, pB_t h]; rfl⟩
  · have a := h.1
    have b := h.2 0 (by omega)
    exact ⟨by omega, by rw [← hq]; exact b⟩
  · have a := back h
    refine ⟨by omega, fun j hj => ?_⟩
    have : j = 0 := by omega
    subst this
    rw [hq]
    exact h.2
theorem hereZ {t : Nat → Int32} {sz i : Nat} (hi : i ≤ sz) : (hereP t (tb t sz i) (te t sz i) 0 ↔ wd t sz i = 2054123109) ∧ (wd t sz i = 2054123109 → te t sz i = we t sz i) := hereW hi (by decide) rfl (by decide) (by decide)
theorem itH_c {t : Nat → Int32} {sz i : Nat} (hi : i ≤ sz) : (itH t (tb t sz i) (te t sz i) = -1 ∧ itK (wd t sz i) = 6) ∨ (te t sz i = we t sz i ∧ ((itH t (tb t sz i) (te t sz i) = 0 ∧ itK (wd t sz i) = 5) ∨ (itH t (tb t sz i) (te t sz i) = 1 ∧ itK (wd t sz i) = 4) ∨ (itH t (tb t sz i) (te t sz i) = 2 ∧ itK (wd t sz i) = 0) ∨ (itH t (tb t sz i) (te t sz i) = 3 ∧ itK (wd t sz i) = 1) ∨ (itH t (tb t sz i) (te t sz i) = 4 ∧ itK (wd t sz i) = 2) ∨ (itH t (tb t sz i) (te t sz i) = 5 ∧ itK (wd t sz i) = 3))) := by
  have w3 := hereW (t := t) (k := 3) (cw := 482855580787) hi (by decide) rfl (by decide) (by decide)
  have w4 := hereW (t := t) (k := 4) (cw := 7697253) hi (by decide) rfl (by decide) (by decide)
  have w5 := hereW (t := t) (k := 5) (cw := 114784769370228) hi (by decide) rfl (by decide) (by decide)
  have w6 := hereW (t := t) (k := 6) (cw := 427071792498) hi (by decide) rfl (by decide) (by decide)
  have w7 := hereW (t := t) (k := 7) (cw := 1701078885) hi (by decide) rfl (by decide) (by decide)
  have w8 := hereW (t := t) (k := 8) (cw := 495672452197) hi (by decide) rfl (by decide) (by decide)
  unfold itH itK
  rw [pB_congr w3.1, pB_congr w4.1, pB_congr w5.1, pB_congr w6.1, pB_congr w7.1, pB_congr w8.1]
  have wa := w3.2; have wb := w4.2; have wc := w5.2; have we_ := w6.2; have wf := w7.2; have wg := w8.2
  generalize wd t sz i = w at *
  by_cases c3 : w = 482855580787
  · refine Or.inr ⟨wa c3, Or.inl ⟨by rw [pB_t c3]; rfl, by rw [c3]; decide⟩⟩
  by_cases c4 : w = 7697253
  · refine Or.inr ⟨wb c4, Or.inr (Or.inl ⟨by rw [pB_f c3, pB_t c4]; rfl, by rw [c4]; decide⟩)⟩
  by_cases c5 : w = 114784769370228
  · refine Or.inr ⟨wc c5, Or.inr (Or.inr (Or.inl ⟨by rw [pB_f c3, pB_f c4, pB_t c5]; rfl, by rw [c5]; decide⟩))⟩
  by_cases c6 : w = 427071792498
  · refine Or.inr ⟨we_ c6, Or.inr (Or.inr (Or.inr (Or.inl ⟨by rw [pB_f c3, pB_f c4, pB_f c5, pB_t c6]; rfl, by rw [c6]; decide⟩)))⟩
  by_cases c7 : w = 1701078885
  · refine Or.inr ⟨wf c7, Or.inr (Or.inr (Or.inr (Or.inr (Or.inl ⟨by rw [pB_f c3, pB_f c4, pB_f c5, pB_f c6, pB_t c7]; rfl, by rw [c7]; decide⟩))))⟩
  by_cases c8 : w = 495672452197
  · refine Or.inr ⟨wg c8, Or.inr (Or.inr (Or.inr (Or.inr (Or.inr ⟨by rw [pB_f c3, pB_f c4, pB_f c5, pB_f c6, pB_f c7, pB_t c8]; rfl, by rw [c8]; decide⟩))))⟩
  · refine Or.inl ⟨by rw [pB_f c3, pB_f c4, pB_f c5, pB_f c6, pB_f c7, pB_f c8]; rfl, by rw [if_neg c5, if_neg c6, if_neg c7, if_neg c8, if_neg c3, if_neg c4]⟩
theorem sg59 : ¬ md_in 59 97 122 ∧ ¬ md_in 59 48 57 := by unfold md_in; decide
theorem sg123 : ¬ md_in 123 97 122 ∧ ¬ md_in 123 48 57 := by unfold md_in; decide
theorem sg125 : ¬ md_in 125 97 122 ∧ ¬ md_in 125 48 57 := by unfold md_in; decide
def zrv (r : zr) : Nat → Int32
  | 0 => r.1
  | 1 => r.2.1
  | k + 2 => r.2.2 k
theorem cm_id {M : mp_M} {kn kz : mp_N} {x y : Nat × va_E} (h1 : M kn = some x) (h2 : M kz = some y) : mp_set (mp_set M kn x) kz y = M := by rw [mp_set_same h1, mp_set_same h2]
theorem c_takeY (l : Launch) (X : mp_X) (G : mp_G) (A : Nat → Prop) (M : mp_M) (rq tp sz : Nat) (t : Nat → Int32) (kn kt : mp_N) (hT : M kt = some (tp, .inl (G.2.1, 600, .inl t))) (hkt : kt ≠ kn) (hsz : sz ≤ 600) (i : Nat) (hi : i ≤ sz) (hO : M kn = some (rq, .inr (5, [.ref tp, .int (nI sz), .int (nI (tb t sz i)), .int (nI (te t sz i))]))) (k : Nat) (hk0 : k < 10) (q : Int32) (hk1 : sL k = 1) (hq : sB k 0 = q) (hl : ¬ md_in q 97 122) (hd : ¬ md_in q 48 57) (hh : tkP t sz i q) : mp_Met l X G A yX4_take wsX4_take rmX4_take ([.ref rq, .ref (X.2.2.1 k)] : List Value) M (fun r M1 => r = some (.int 1) ∧ M1 = mp_set M kn (rq, .inr (5, [.ref tp, .int (nI sz), .int (nI (tb t sz (tkN t sz i q))), .int (nI (te t sz (tkN t sz i q)))]))) 0 0 := by
  have hte := te_in (t := t) hi
  have h := c_X4_take l X G A M rq tp sz t kn kt hT hkt hsz _ _ hte.2.1 hte.2.2 hO k hk0
  have e := hereS (t := t) (k := k) hi hk1 hq hl hd
  rw [pB_t (e.1.mpr hh), e.2 hh] at h
  exact h
theorem c_takeN (l : Launch) (X : mp_X) (G : mp_G) (A : Nat → Prop) (M : mp_M) (rq tp sz : Nat) (t : Nat → Int32) (kn kt : mp_N) (hT : M kt = some (tp, .inl (G.2.1, 600, .inl t))) (hkt : kt ≠ kn) (hsz : sz ≤ 600) (i : Nat) (hi : i ≤ sz) (hO : M kn = some (rq, .inr (5, [.ref tp, .int (nI sz), .int (nI (tb t sz i)), .int (nI (te t sz i))]))) (k : Nat) (hk0 : k < 10) (q : Int32) (hk1 : sL k = 1) (hq : sB k 0 = q) (hl : ¬ md_in q 97 122) (hd : ¬ md_in q 48 57) (hh : ¬ tkP t sz i q) : mp_Met l X G A yX4_take wsX4_take rmX4_take ([.ref rq, .ref (X.2.2.1 k)] : List Value) M (fun r M1 => r = some (.int 0) ∧ M1 = M) 0 0 := by
  have hte := te_in (t := t) hi
  have h := c_X4_take l X G A M rq tp sz t kn kt hT hkt hsz _ _ hte.2.1 hte.2.2 hO k hk0
  have e := hereS (t := t) (k := k) hi hk1 hq hl hd
  rw [pB_f (fun z => hh (e.1.mp z))] at h
  exact h
theorem c_takeZ (l : Launch) (X : mp_X) (G : mp_G) (A : Nat → Prop) (M : mp_M) (rq tp sz : Nat) (t : Nat → Int32) (kn kt : mp_N) (hT : M kt = some (tp, .inl (G.2.1, 600, .inl t))) (hkt : kt ≠ kn) (hsz : sz ≤ 600) (i : Nat) (hi : i ≤ sz) (hO : M kn = some (rq, .inr (5, [.ref tp, .int (nI sz), .int (nI (tb t sz i)), .int (nI (te t sz i))]))) (hh : wd t sz i = 2054123109) : mp_Met l X G A yX4_take wsX4_take rmX4_take ([.ref rq, .ref (X.2.2.1 0)] : List Value) M (fun r M1 => r = some (.int 1) ∧ M1 = mp_set M kn (rq, .inr (5, [.ref tp, .int (nI sz), .int (nI (tb t sz (we t sz i))), .int (nI (te t sz (we t sz i)))]))) 0 0 := by
  have hte := te_in (t := t) hi
  have h := c_X4_take l X G A M rq tp sz t kn kt hT hkt hsz _ _ hte.2.1 hte.2.2 hO 0 (by decide)
  have e := hereZ (t := t) hi
  rw [pB_t (e.1.mpr hh), e.2 hh] at h
  exact h
theorem c_takeZn (l : Launch) (X : mp_X) (G : mp_G) (A : Nat → Prop) (M : mp_M) (rq tp sz : Nat) (t : Nat → Int32) (kn kt : mp_N) (hT : M kt = some (tp, .inl (G.2.1, 600, .inl t))) (hkt : kt ≠ kn) (hsz : sz ≤ 600) (i : Nat) (hi : i ≤ sz) (hO : M kn = some (rq, .inr (5, [.ref tp, .int (nI sz), .int (nI (tb t sz i)), .int (nI (te t sz i))]))) (hh : ¬ wd t sz i = 2054123109) : mp_Met l X G A yX4_take wsX4_take rmX4_take ([.ref rq, .ref (X.2.2.1 0)] : List Value) M (fun r M1 => r = some (.int 0) ∧ M1 = M) 0 0 := by
  have hte := te_in (t := t) hi
  have h := c_X4_take l X G A M rq tp sz t kn kt hT hkt hsz _ _ hte.2.1 hte.2.2 hO 0 (by decide)
  have e := hereZ (t := t) hi
  rw [pB_f (fun z => hh (e.1.mp z))] at h
  exact h
theorem c_hereY (l : Launch) (X : mp_X) (G : mp_G) (A : Nat → Prop) (M : mp_M) (rq tp sz : Nat) (t : Nat → Int32) (kn kt : mp_N) (hT : M kt = some (tp, .inl (G.2.1, 600, .inl t))) (hkt : kt ≠ kn) (hsz : sz ≤ 600) (i : Nat) (hi : i ≤ sz) (hO : M kn = some (rq, .inr (5, [.ref tp, .int (nI sz), .int (nI (tb t sz i)), .int (nI (te t sz i))]))) (k : Nat) (hk0 : k < 10) (q : Int32) (hk1 : sL k = 1) (hq : sB k 0 = q) (hl : ¬ md_in q 97 122) (hd : ¬ md_in q 48 57) : mp_Met l X G A yX4_isHere wsX4_isHere rmX4_isHere ([.ref rq, .ref (X.2.2.1 k)] : List Value) M (fun r M1 => r = some (.int (bI (pB (tkP t sz i q)))) ∧ M1 = M) 0 0 := by
  have hte := te_in (t := t) hi
  have h := c_X4_isHere l X G A M rq tp sz t kn kt hT hkt hsz _ _ hte.2.1 hte.2.2 hO k hk0
  have e := hereS (t := t) (k := k) hi hk1 hq hl hd
  rw [pB_congr e.1] at h
  exact h
abbrev rmX4_readItem : Room := { frames := 6, cells := 0, slots := 0, locals := 128 }
set_option maxHeartbeats 4000000 in
set_option maxRecDepth 100000 in
theorem c_X4_readItem (l : Launch) (X : mp_X) (G : mp_G) (A : Nat → Prop) (M : mp_M) (rq tp sz : Nat) (t : Nat → Int32) (kn kt : mp_N) (hT : M kt = some (tp, .inl (G.2.1, 600, .inl t))) (hkt : kt ≠ kn) (hsz : sz ≤ 600) (i : Nat) (hi : i ≤ sz) (hO : M kn = some (rq, .inr (5, [.ref tp, .int (nI sz), .int (nI (tb t sz i)), .int (nI (te t sz i))]))) (zq : Nat) (kz : mp_N) (r0 : zr) (hZ : M kz = some (zq, .inr (7, zn_fs (zrv r0)))) (hkz : kz ≠ kn) (hkzt : kz ≠ kt)  : mp_Met l X G A yX4_readItem wsX4_readItem rmX4_readItem ([.ref rq, .ref zq] : List Value) M (fun r M1 => r = some (.int (bI (itemS t sz i r0).1)) ∧ M1 = mp_set (mp_set M kn (rq, .inr (5, [.ref tp, .int (nI sz), .int (nI (tb t sz ((itemS t sz i r0).2.1))), .int (nI (te t sz ((itemS t sz i r0).2.1)))]))) kz (zq, .inr (7, zn_fs (zrv (if (itemS t sz i r0).1 = true then (itemS t sz i r0).2.2 else r0))))) 0 0 := by
  refine mp_ofW (cc := cX4_readItem) (maxL := 4) (ret := (some .boolean)) (by decide) rfl (Nat.le_of_ble_eq_true rfl) ?_
  intro p e s m below meth c ls hx hb hr hts hown hlocks hnm hml hC hM hS hl
  have hl : lv_has ls 4 [(0, .ref rq), (1, .ref zq)] := hl
  have hown : s.vm.findClass RX4 = some m.cls := hown
  have hte := te_in (t := t) hi
  have hwi := we_in (t := t) hi
  have hsi := stp_in (t := t) 601 (we t sz i) 0 hwi.2.2
  have hni := tn_in (t := t) hwi.2.2
  refine lv_aload_n hx hb dX4_readItem_0 rfl (lv_at hl 0 rfl) ?_
  refine mp_calli (va_runV (As := []) (rest := []) ⟨hx, hb, hml, hown, hts⟩ (c_X4_itemHere l X G A (M) rq tp sz t kn kt hT hkt hsz (tb t sz i) (te t sz i) (by omega) (by omega) hO) (cwV 0 hts gX4_readItem_X4_itemHere rfl rfl rfl (by decide +kernel) ⟨Nat.le_of_ble_eq_true rfl, Nat.le_of_ble_eq_true rfl⟩) (mp_preV hC hS hM (mp_recv hC.1 hM hO (r := (RX4, TX4, 4)) rfl)) rfl rfl hl.1 rfl (lv_room (Nat.le_of_ble_eq_true rfl)) dX4_readItem_1 ⟨Nat.le_of_ble_eq_true rfl, Nat.le_of_ble_eq_true rfl⟩) hS (fun H locs hM hS => ?_)
  rcases itH_c (t := t) hi with ⟨h1, hK⟩ | ⟨hW, ⟨h1, hK⟩ | ⟨h1, hK⟩ | ⟨h1, hK⟩ | ⟨h1, hK⟩ | ⟨h1, hK⟩ | ⟨h1, hK⟩⟩
  · refine mp_top (-1) h1 ?_
    refine lv_istore_n (lv' := [(2, .int (-1 : Int32)), (0, .ref rq), (1, .ref zq)]) hx hb dX4_readItem_4 rfl hl (by decide) rfl (fun ls hl => ?_)
    refine lv_iload_n hx hb dX4_readItem_5 rfl (lv_at hl 0 rfl) ?_
    refine lv_iconst (v := (-1 : Int32)) hx hb dX4_readItem_6 (by decide) ?_
    refine lv_icmp_ne (tgt := 12) hx hb dX4_readItem_7 (by decide) (fun c_1 => ?_) (fun c_1 => ?_)
    · have c_1 := c_1
      exact absurd c_1 (by decide)
    · have c_1 := c_1
      refine lv_iconst (v := (0 : Int32)) hx hb dX4_readItem_10 (by decide) ?_
      have hI : itemS t sz i r0 = (false, tb t sz i, r0) := by rw [itemS, if_pos hK]
      exact mp_zret hx hb hr hlocks (Nat.le_of_ble_eq_true rfl) (Nat.le_of_ble_eq_true rfl) hM hS dX4_readItem_11 (by first | rfl | exact bI_nar _) (⟨by rw [hI]; rfl, by rw [hI]; simp only [tb_tb hi, te_tb hi]; exact (cm_id hO hZ).symm⟩)
  · refine mp_top (0) h1 ?_
    refine lv_istore_n (lv' := [(2, .int (0 : Int32)), (0, .ref rq), (1, .ref zq)]) hx hb dX4_readItem_4 rfl hl (by decide) rfl (fun ls hl => ?_)
    refine lv_iload_n hx hb dX4_readItem_5 rfl (lv_at hl 0 rfl) ?_
    refine lv_iconst (v := (-1 : Int32)) hx hb dX4_readItem_6 (by decide) ?_
    refine lv_icmp_ne (tgt := 12) hx hb dX4_readItem_7 (by decide) (fun c_2 => ?_) (fun c_2 => ?_)
    · have c_2 := c_2
      refine lv_aload_n hx hb dX4_readItem_12 rfl (lv_at hl 1 rfl) ?_
      refine mp_callv (va_runV (As := []) (rest := []) ⟨hx, hb, hml, hown, hts⟩ (c_X4_advance l X G A (M) rq tp sz t kn kt hT hkt hsz (tb t sz i) (te t sz i) (by omega) hO) (cwV 0 hts gX4_readItem_X4_advance rfl rfl rfl (by decide +kernel) ⟨Nat.le_of_ble_eq_true rfl, Nat.le_of_ble_eq_true rfl⟩) (mp_preV hC hS hM (mp_recv hC.1 hM hO (r := (RX4, TX4, 4)) rfl)) rfl rfl hl.1 rfl (lv_room (Nat.le_of_ble_eq_true rfl)) dX4_readItem_13 ⟨Nat.le_of_ble_eq_true rfl, Nat.le_of_ble_eq_true rfl⟩) hS (fun H locs hM hS => ?_)
      rw [hW] at hM
      refine lv_iload_n hx hb dX4_readItem_16 rfl (lv_at hl 0 rfl) ?_
      refine lv_if_eq (tgt := 25) hx hb dX4_readItem_17 (by decide) (fun c_3 => ?_) (fun c_3 => ?_)
      · have c_3 := c_3
        refine lv_aload_n hx hb dX4_readItem_25 rfl (lv_at hl 1 rfl) ?_
        refine mp_call (va_runV (As := []) (rest := []) ⟨hx, hb, hml, hown, hts⟩ (c_X4_readSet l X G A (mp_set M kn (rq, .inr (5, [.ref tp, .int (nI sz), .int (nI (tb t sz (we t sz i))), .int (nI (te t sz (we t sz i)))]))) rq tp sz t kn kt ((mp_set_n _ _ _ (by first | assumption | exact Ne.symm (by assumption) | simp)).trans hT) hkt hsz (we t sz i) (by omega) (mp_set_s _ _ _)) (cwV 0 hts gX4_readItem_X4_readSet rfl rfl rfl (by decide +kernel) ⟨Nat.le_of_ble_eq_true rfl, Nat.le_of_ble_eq_true rfl⟩) (mp_preV hC hS hM (mp_recv hC.1 hM (mp_set_s _ _ _) (r := (RX4, TX4, 4)) rfl)) rfl rfl hl.1 rfl (lv_room (Nat.le_of_ble_eq_true rfl)) dX4_readItem_26 ⟨Nat.le_of_ble_eq_true rfl, Nat.le_of_ble_eq_true rfl⟩) hS (fun v M1 H locs hp hM hS => ?_)
        obtain ⟨w9, rfl, rfl, hR⟩ := hp
        rw [mp_set_set] at hM
        refine lv_goto (tgt := 36) hx hb dX4_readItem_29 (by decide) ?_
        refine lv_istore_n (lv' := [(3, .int w9), (2, .int (0 : Int32)), (0, .ref rq), (1, .ref zq)]) hx hb dX4_readItem_36 rfl hl (by decide) rfl (fun ls hl => ?_)
        refine lv_iload_n hx hb dX4_readItem_37 rfl (lv_at hl 0 rfl) ?_
        refine lv_iconst (v := (-1 : Int32)) hx hb dX4_readItem_38 (by decide) ?_
        refine lv_icmp_eq (tgt := 51) hx hb dX4_readItem_39 (by decide) (fun c3 => ?_) (fun c3 => ?_)
        · have c3 := c3
          refine lv_iconst (v := (0 : Int32)) hx hb dX4_readItem_51 (by decide) ?_
          have hI : (itemS t sz i r0).1 = false ∧ tb t sz (itemS t sz i r0).2.1 = tb t sz (stp t sz 601 (we t sz i) 0).2.1 ∧ te t sz (itemS t sz i r0).2.1 = te t sz (stp t sz 601 (we t sz i) 0).2.1 := by
            have hz : (stp t sz 601 (we t sz i) 0).1 = false := hR.elim (fun z => absurd c3 z.2.2) (fun z => z.1)
            rw [itemS, if_neg (by omega), if_neg (by omega), hz, if_neg (by decide)]; exact ⟨rfl, rfl, rfl⟩
          exact mp_zret hx hb hr hlocks (Nat.le_of_ble_eq_true rfl) (Nat.le_of_ble_eq_true rfl) hM hS dX4_readItem_52 (by first | rfl | exact bI_nar _) (⟨by rw [hI.1]; rfl, by rw [hI.1, hI.2.1, hI.2.2]; exact (mp_set_same ((mp_set_n _ _ _ hkz).trans hZ)).symm⟩)
        · have c3 := c3
          refine lv_aload_n hx hb dX4_readItem_42 rfl (lv_at hl 2 rfl) ?_
          refine va_ldcS hx hb hown (hC.2.2.1.2.2.2.2.2.2.2.1 9 (79, ";") rfl) dX4_readItem_43 ?_
          by_cases hk9 : tkP t sz ((stp t sz 601 (we t sz i) 0).2.1) 59
          · skip
            refine mp_calli (va_runV (As := [.ref (X.2.2.1 9)]) (rest := []) ⟨hx, hb, hml, hown, hts⟩ (c_takeY l X G A (mp_set M kn (rq, .inr (5, [.ref tp, .int (nI sz), .int (nI (tb t sz ((stp t sz 601 (we t sz i) 0).2.1))), .int (nI (te t sz ((stp t sz 601 (we t sz i) 0).2.1)))]))) rq tp sz t kn kt ((mp_set_n _ _ _ (by first | assumption | exact Ne.symm (by assumption) | simp)).trans hT) hkt hsz ((stp t sz 601 (we t sz i) 0).2.1) (by omega) (mp_set_s _ _ _) 9 (by decide) 59 rfl rfl sg59.1 sg59.2 hk9) (cwV 1 hts gX4_readItem_X4_take rfl rfl rfl (by decide +kernel) ⟨Nat.le_of_ble_eq_true rfl, Nat.le_of_ble_eq_true rfl⟩) (mp_preV hC hS hM (mp_recv hC.1 hM (mp_set_s _ _ _) (r := (RX4, TX4, 4)) rfl)) rfl rfl hl.1 rfl (lv_room (Nat.le_of_ble_eq_true rfl)) dX4_readItem_45 ⟨Nat.le_of_ble_eq_true rfl, Nat.le_of_ble_eq_true rfl⟩) hS (fun H locs hM hS => ?_)
            rw [mp_set_set] at hM
            refine lv_if_ne (tgt := 53) hx hb dX4_readItem_48 (by decide) (fun c_4 => ?_) (fun c_4 => ?_)
            · have c_4 := c_4
              refine lv_aload_n hx hb dX4_readItem_53 rfl (lv_at hl 3 rfl) ?_
              refine lv_iload_n hx hb dX4_readItem_54 rfl (lv_at hl 1 rfl) ?_
              refine lv_iload_n hx hb dX4_readItem_55 rfl (lv_at hl 0 rfl) ?_
              refine mp_callv (va_runV (As := [.int (0 : Int32), .int w9]) (rest := []) ⟨hx, hb, hml, hown, hts⟩ (c_X6_put l X G A (mp_set M kn (rq, .inr (5, [.ref tp, .int (nI sz), .int (nI (tb t sz (tkN t sz ((stp t sz 601 (we t sz i) 0).2.1) 59))), .int (nI (te t sz (tkN t sz ((stp t sz 601 (we t sz i) 0).2.1) 59)))]))) zq (zrv r0) kz ((mp_set_n _ _ _ (by first | assumption | exact Ne.symm (by assumption) | simp)).trans hZ) (0 : Int32) w9) (cwV 2 hts gX4_readItem_X6_put rfl rfl rfl (by decide +kernel) ⟨Nat.le_of_ble_eq_true rfl, Nat.le_of_ble_eq_true rfl⟩) (mp_preV hC hS hM (mp_recv hC.1 hM ((mp_set_n _ _ _ (by first | assumption | exact Ne.symm (by assumption) | simp)).trans hZ) (r := (RX6, TX6, 6)) rfl)) rfl rfl hl.1 rfl (lv_room (Nat.le_of_ble_eq_true rfl)) dX4_readItem_56 ⟨Nat.le_of_ble_eq_true rfl, Nat.le_of_ble_eq_true rfl⟩) hS (fun H locs hM hS => ?_)
              refine lv_iconst (v := (1 : Int32)) hx hb dX4_readItem_59 (by decide) ?_
              have hR2 := hR.resolve_right (fun z => z.2.elim c3 (fun y => y hk9))
              have hI : itemS t sz i r0 = (true, tkN t sz (stp t sz 601 (we t sz i) 0).2.1 59, ((stp t sz 601 (we t sz i) 0).2.2, r0.2.1, r0.2.2)) := by rw [itemS, if_neg (by omega), if_neg (by omega), if_pos hR2.1, pB_t hk9, if_neg (by omega)]
              exact mp_zret hx hb hr hlocks (Nat.le_of_ble_eq_true rfl) (Nat.le_of_ble_eq_true rfl) hM hS dX4_readItem_60 (by first | rfl | exact bI_nar _) (⟨by rw [hI]; rfl, by rw [hI, hR2.2.1]; simp [zn_fs, znP, zrv, upd]⟩)
            · have c_4 := c_4
              exact absurd c_4 (by decide)
          · skip
            refine mp_calli (va_runV (As := [.ref (X.2.2.1 9)]) (rest := []) ⟨hx, hb, hml, hown, hts⟩ (c_takeN l X G A (mp_set M kn (rq, .inr (5, [.ref tp, .int (nI sz), .int (nI (tb t sz ((stp t sz 601 (we t sz i) 0).2.1))), .int (nI (te t sz ((stp t sz 601 (we t sz i) 0).2.1)))]))) rq tp sz t kn kt ((mp_set_n _ _ _ (by first | assumption | exact Ne.symm (by assumption) | simp)).trans hT) hkt hsz ((stp t sz 601 (we t sz i) 0).2.1) (by omega) (mp_set_s _ _ _) 9 (by decide) 59 rfl rfl sg59.1 sg59.2 hk9) (cwV 1 hts gX4_readItem_X4_take rfl rfl rfl (by decide +kernel) ⟨Nat.le_of_ble_eq_true rfl, Nat.le_of_ble_eq_true rfl⟩) (mp_preV hC hS hM (mp_recv hC.1 hM (mp_set_s _ _ _) (r := (RX4, TX4, 4)) rfl)) rfl rfl hl.1 rfl (lv_room (Nat.le_of_ble_eq_true rfl)) dX4_readItem_45 ⟨Nat.le_of_ble_eq_true rfl, Nat.le_of_ble_eq_true rfl⟩) hS (fun H locs hM hS => ?_)
            refine lv_if_ne (tgt := 53) hx hb dX4_readItem_48 (by decide) (fun c_5 => ?_) (fun c_5 => ?_)
            · have c_5 := c_5
              exact absurd c_5 (by decide)
            · have c_5 := c_5
              refine lv_iconst (v := (0 : Int32)) hx hb dX4_readItem_51 (by decide) ?_
              have hI : (itemS t sz i r0).1 = false ∧ tb t sz (itemS t sz i r0).2.1 = tb t sz (stp t sz 601 (we t sz i) 0).2.1 ∧ te t sz (itemS t sz i r0).2.1 = te t sz (stp t sz 601 (we t sz i) 0).2.1 := by
                rw [itemS, if_neg (by omega), if_neg (by omega)]
                cases hz : (stp t sz 601 (we t sz i) 0).1
                · rw [if_neg (by decide)]; exact ⟨rfl, rfl, rfl⟩
                · rw [if_pos rfl, pB_f hk9, tkN, pB_f hk9]; exact ⟨rfl, tb_tb hsi.2, te_tb hsi.2⟩
              exact mp_zret hx hb hr hlocks (Nat.le_of_ble_eq_true rfl) (Nat.le_of_ble_eq_true rfl) hM hS dX4_readItem_52 (by first | rfl | exact bI_nar _) (⟨by rw [hI.1]; rfl, by rw [hI.1, hI.2.1, hI.2.2]; exact (mp_set_same ((mp_set_n _ _ _ hkz).trans hZ)).symm⟩)
      · have c_3 := c_3
        exact absurd c_3 (by decide)
    · have c_2 := c_2
      exact absurd c_2 (by decide)
  · refine mp_top (1) h1 ?_
    refine lv_istore_n (lv' := [(2, .int (1 : Int32)), (0, .ref rq), (1, .ref zq)]) hx hb dX4_readItem_4 rfl hl (by decide) rfl (fun ls hl => ?_)
    refine lv_iload_n hx hb dX4_readItem_5 rfl (lv_at hl 0 rfl) ?_
    refine lv_iconst (v := (-1 : Int32)) hx hb dX4_readItem_6 (by decide) ?_
    refine lv_icmp_ne (tgt := 12) hx hb dX4_readItem_7 (by decide) (fun c_6 => ?_) (fun c_6 => ?_)
    · have c_6 := c_6
      refine lv_aload_n hx hb dX4_readItem_12 rfl (lv_at hl 1 rfl) ?_
      refine mp_callv (va_runV (As := []) (rest := []) ⟨hx, hb, hml, hown, hts⟩ (c_X4_advance l X G A (M) rq tp sz t kn kt hT hkt hsz (tb t sz i) (te t sz i) (by omega) hO) (cwV 0 hts gX4_readItem_X4_advance rfl rfl rfl (by decide +kernel) ⟨Nat.le_of_ble_eq_true rfl, Nat.le_of_ble_eq_true rfl⟩) (mp_preV hC hS hM (mp_recv hC.1 hM hO (r := (RX4, TX4, 4)) rfl)) rfl rfl hl.1 rfl (lv_room (Nat.le_of_ble_eq_true rfl)) dX4_readItem_13 ⟨Nat.le_of_ble_eq_true rfl, Nat.le_of_ble_eq_true rfl⟩) hS (fun H locs hM hS => ?_)
      rw [hW] at hM
      refine lv_iload_n hx hb dX4_readItem_16 rfl (lv_at hl 0 rfl) ?_
      refine lv_if_eq (tgt := 25) hx hb dX4_readItem_17 (by decide) (fun c_7 => ?_) (fun c_7 => ?_)
      · have c_7 := c_7
        exact absurd c_7 (by decide)
      · have c_7 := c_7
        refine lv_iload_n hx hb dX4_readItem_20 rfl (lv_at hl 0 rfl) ?_
        refine lv_iconst (v := (1 : Int32)) hx hb dX4_readItem_21 (by decide) ?_
        refine lv_icmp_ne (tgt := 32) hx hb dX4_readItem_22 (by decide) (fun c_8 => ?_) (fun c_8 => ?_)
        · have c_8 := c_8
          exact absurd c_8 (by decide)
        · have c_8 := c_8
          refine lv_aload_n hx hb dX4_readItem_25 rfl (lv_at hl 1 rfl) ?_
          refine mp_call (va_runV (As := []) (rest := []) ⟨hx, hb, hml, hown, hts⟩ (c_X4_readSet l X G A (mp_set M kn (rq, .inr (5, [.ref tp, .int (nI sz), .int (nI (tb t sz (we t sz i))), .int (nI (te t sz (we t sz i)))]))) rq tp sz t kn kt ((mp_set_n _ _ _ (by first | assumption | exact Ne.symm (by assumption) | simp)).trans hT) hkt hsz (we t sz i) (by omega) (mp_set_s _ _ _)) (cwV 0 hts gX4_readItem_X4_readSet rfl rfl rfl (by decide +kernel) ⟨Nat.le_of_ble_eq_true rfl, Nat.le_of_ble_eq_true rfl⟩) (mp_preV hC hS hM (mp_recv hC.1 hM (mp_set_s _ _ _) (r := (RX4, TX4, 4)) rfl)) rfl rfl hl.1 rfl (lv_room (Nat.le_of_ble_eq_true rfl)) dX4_readItem_26 ⟨Nat.le_of_ble_eq_true rfl, Nat.le_of_ble_eq_true rfl⟩) hS (fun v M1 H locs hp hM hS => ?_)
          obtain ⟨w9, rfl, rfl, hR⟩ := hp
          rw [mp_set_set] at hM
          refine lv_goto (tgt := 36) hx hb dX4_readItem_29 (by decide) ?_
          refine lv_istore_n (lv' := [(3, .int w9), (2, .int (1 : Int32)), (0, .ref rq), (1, .ref zq)]) hx hb dX4_readItem_36 rfl hl (by decide) rfl (fun ls hl => ?_)
          refine lv_iload_n hx hb dX4_readItem_37 rfl (lv_at hl 0 rfl) ?_
          refine lv_iconst (v := (-1 : Int32)) hx hb dX4_readItem_38 (by decide) ?_
          refine lv_icmp_eq (tgt := 51) hx hb dX4_readItem_39 (by decide) (fun c3 => ?_) (fun c3 => ?_)
          · have c3 := c3
            refine lv_iconst (v := (0 : Int32)) hx hb dX4_readItem_51 (by decide) ?_
            have hI : (itemS t sz i r0).1 = false ∧ tb t sz (itemS t sz i r0).2.1 = tb t sz (stp t sz 601 (we t sz i) 0).2.1 ∧ te t sz (itemS t sz i r0).2.1 = te t sz (stp t sz 601 (we t sz i) 0).2.1 := by
              have hz : (stp t sz 601 (we t sz i) 0).1 = false := hR.elim (fun z => absurd c3 z.2.2) (fun z => z.1)
              rw [itemS, if_neg (by omega), if_neg (by omega), hz, if_neg (by decide)]; exact ⟨rfl, rfl, rfl⟩
            exact mp_zret hx hb hr hlocks (Nat.le_of_ble_eq_true rfl) (Nat.le_of_ble_eq_true rfl) hM hS dX4_readItem_52 (by first | rfl | exact bI_nar _) (⟨by rw [hI.1]; rfl, by rw [hI.1, hI.2.1, hI.2.2]; exact (mp_set_same ((mp_set_n _ _ _ hkz).trans hZ)).symm⟩)
          · have c3 := c3
            refine lv_aload_n hx hb dX4_readItem_42 rfl (lv_at hl 2 rfl) ?_
            refine va_ldcS hx hb hown (hC.2.2.1.2.2.2.2.2.2.2.1 9 (79, ";") rfl) dX4_readItem_43 ?_
            by_cases hk9 : tkP t sz ((stp t sz 601 (we t sz i) 0).2.1) 59
            · skip
              refine mp_calli (va_runV (As := [.ref (X.2.2.1 9)]) (rest := []) ⟨hx, hb, hml, hown, hts⟩ (c_takeY l X G A (mp_set M kn (rq, .inr (5, [.ref tp, .int (nI sz), .int (nI (tb t sz ((stp t sz 601 (we t sz i) 0).2.1))), .int (nI (te t sz ((stp t sz 601 (we t sz i) 0).2.1)))]))) rq tp sz t kn kt ((mp_set_n _ _ _ (by first | assumption | exact Ne.symm (by assumption) | simp)).trans hT) hkt hsz ((stp t sz 601 (we t sz i) 0).2.1) (by omega) (mp_set_s _ _ _) 9 (by decide) 59 rfl rfl sg59.1 sg59.2 hk9) (cwV 1 hts gX4_readItem_X4_take rfl rfl rfl (by decide +kernel) ⟨Nat.le_of_ble_eq_true rfl, Nat.le_of_ble_eq_true rfl⟩) (mp_preV hC hS hM (mp_recv hC.1 hM (mp_set_s _ _ _) (r := (RX4, TX4, 4)) rfl)) rfl rfl hl.1 rfl (lv_room (Nat.le_of_ble_eq_true rfl)) dX4_readItem_45 ⟨Nat.le_of_ble_eq_true rfl, Nat.le_of_ble_eq_true rfl⟩) hS (fun H locs hM hS => ?_)
              rw [mp_set_set] at hM
              refine lv_if_ne (tgt := 53) hx hb dX4_readItem_48 (by decide) (fun c_9 => ?_) (fun c_9 => ?_)
              · have c_9 := c_9
                refine lv_aload_n hx hb dX4_readItem_53 rfl (lv_at hl 3 rfl) ?_
                refine lv_iload_n hx hb dX4_readItem_54 rfl (lv_at hl 1 rfl) ?_
                refine lv_iload_n hx hb dX4_readItem_55 rfl (lv_at hl 0 rfl) ?_
                refine mp_callv (va_runV (As := [.int (1 : Int32), .int w9]) (rest := []) ⟨hx, hb, hml, hown, hts⟩ (c_X6_put l X G A (mp_set M kn (rq, .inr (5, [.ref tp, .int (nI sz), .int (nI (tb t sz (tkN t sz ((stp t sz 601 (we t sz i) 0).2.1) 59))), .int (nI (te t sz (tkN t sz ((stp t sz 601 (we t sz i) 0).2.1) 59)))]))) zq (zrv r0) kz ((mp_set_n _ _ _ (by first | assumption | exact Ne.symm (by assumption) | simp)).trans hZ) (1 : Int32) w9) (cwV 2 hts gX4_readItem_X6_put rfl rfl rfl (by decide +kernel) ⟨Nat.le_of_ble_eq_true rfl, Nat.le_of_ble_eq_true rfl⟩) (mp_preV hC hS hM (mp_recv hC.1 hM ((mp_set_n _ _ _ (by first | assumption | exact Ne.symm (by assumption) | simp)).trans hZ) (r := (RX6, TX6, 6)) rfl)) rfl rfl hl.1 rfl (lv_room (Nat.le_of_ble_eq_true rfl)) dX4_readItem_56 ⟨Nat.le_of_ble_eq_true rfl, Nat.le_of_ble_eq_true rfl⟩) hS (fun H locs hM hS => ?_)
                refine lv_iconst (v := (1 : Int32)) hx hb dX4_readItem_59 (by decide) ?_
                have hR2 := hR.resolve_right (fun z => z.2.elim c3 (fun y => y hk9))
                have hI : itemS t sz i r0 = (true, tkN t sz (stp t sz 601 (we t sz i) 0).2.1 59, (r0.1, (stp t sz 601 (we t sz i) 0).2.2, r0.2.2)) := by rw [itemS, if_neg (by omega), if_neg (by omega), if_pos hR2.1, pB_t hk9, if_pos hK]
                exact mp_zret hx hb hr hlocks (Nat.le_of_ble_eq_true rfl) (Nat.le_of_ble_eq_true rfl) hM hS dX4_readItem_60 (by first | rfl | exact bI_nar _) (⟨by rw [hI]; rfl, by rw [hI, hR2.2.1]; simp [zn_fs, znP, zrv, upd]⟩)
              · have c_9 := c_9
                exact absurd c_9 (by decide)
            · skip
              refine mp_calli (va_runV (As := [.ref (X.2.2.1 9)]) (rest := []) ⟨hx, hb, hml, hown, hts⟩ (c_takeN l X G A (mp_set M kn (rq, .inr (5, [.ref tp, .int (nI sz), .int (nI (tb t sz ((stp t sz 601 (we t sz i) 0).2.1))), .int (nI (te t sz ((stp t sz 601 (we t sz i) 0).2.1)))]))) rq tp sz t kn kt ((mp_set_n _ _ _ (by first | assumption | exact Ne.symm (by assumption) | simp)).trans hT) hkt hsz ((stp t sz 601 (we t sz i) 0).2.1) (by omega) (mp_set_s _ _ _) 9 (by decide) 59 rfl rfl sg59.1 sg59.2 hk9) (cwV 1 hts gX4_readItem_X4_take rfl rfl rfl (by decide +kernel) ⟨Nat.le_of_ble_eq_true rfl, Nat.le_of_ble_eq_true rfl⟩) (mp_preV hC hS hM (mp_recv hC.1 hM (mp_set_s _ _ _) (r := (RX4, TX4, 4)) rfl)) rfl rfl hl.1 rfl (lv_room (Nat.le_of_ble_eq_true rfl)) dX4_readItem_45 ⟨Nat.le_of_ble_eq_true rfl, Nat.le_of_ble_eq_true rfl⟩) hS (fun H locs hM hS => ?_)
              refine lv_if_ne (tgt := 53) hx hb dX4_readItem_48 (by decide) (fun c_10 => ?_) (fun c_10 => ?_)
              · have c_10 := c_10
                exact absurd c_10 (by decide)
              · have c_10 := c_10
                refine lv_iconst (v := (0 : Int32)) hx hb dX4_readItem_51 (by decide) ?_
                have hI : (itemS t sz i r0).1 = false ∧ tb t sz (itemS t sz i r0).2.1 = tb t sz (stp t sz 601 (we t sz i) 0).2.1 ∧ te t sz (itemS t sz i r0).2.1 = te t sz (stp t sz 601 (we t sz i) 0).2.1 := by
                  rw [itemS, if_neg (by omega), if_neg (by omega)]
                  cases hz : (stp t sz 601 (we t sz i) 0).1
                  · rw [if_neg (by decide)]; exact ⟨rfl, rfl, rfl⟩
                  · rw [if_pos rfl, pB_f hk9, tkN, pB_f hk9]; exact ⟨rfl, tb_tb hsi.2, te_tb hsi.2⟩
                exact mp_zret hx hb hr hlocks (Nat.le_of_ble_eq_true rfl) (Nat.le_of_ble_eq_true rfl) hM hS dX4_readItem_52 (by first | rfl | exact bI_nar _) (⟨by rw [hI.1]; rfl, by rw [hI.1, hI.2.1, hI.2.2]; exact (mp_set_same ((mp_set_n _ _ _ hkz).trans hZ)).symm⟩)
    · have c_6 := c_6
      exact absurd c_6 (by decide)
  · refine mp_top (2) h1 ?_
    refine lv_istore_n (lv' := [(2, .int (2 : Int32)), (0, .ref rq), (1, .ref zq)]) hx hb dX4_readItem_4 rfl hl (by decide) rfl (fun ls hl => ?_)
    refine lv_iload_n hx hb dX4_readItem_5 rfl (lv_at hl 0 rfl) ?_
    refine lv_iconst (v := (-1 : Int32)) hx hb dX4_readItem_6 (by decide) ?_
    refine lv_icmp_ne (tgt := 12) hx hb dX4_readItem_7 (by decide) (fun c_11 => ?_) (fun c_11 => ?_)
    · have c_11 := c_11
      refine lv_aload_n hx hb dX4_readItem_12 rfl (lv_at hl 1 rfl) ?_
      refine mp_callv (va_runV (As := []) (rest := []) ⟨hx, hb, hml, hown, hts⟩ (c_X4_advance l X G A (M) rq tp sz t kn kt hT hkt hsz (tb t sz i) (te t sz i) (by omega) hO) (cwV 0 hts gX4_readItem_X4_advance rfl rfl rfl (by decide +kernel) ⟨Nat.le_of_ble_eq_true rfl, Nat.le_of_ble_eq_true rfl⟩) (mp_preV hC hS hM (mp_recv hC.1 hM hO (r := (RX4, TX4, 4)) rfl)) rfl rfl hl.1 rfl (lv_room (Nat.le_of_ble_eq_true rfl)) dX4_readItem_13 ⟨Nat.le_of_ble_eq_true rfl, Nat.le_of_ble_eq_true rfl⟩) hS (fun H locs hM hS => ?_)
      rw [hW] at hM
      refine lv_iload_n hx hb dX4_readItem_16 rfl (lv_at hl 0 rfl) ?_
      refine lv_if_eq (tgt := 25) hx hb dX4_readItem_17 (by decide) (fun c_12 => ?_) (fun c_12 => ?_)
      · have c_12 := c_12
        exact absurd c_12 (by decide)
      · have c_12 := c_12
        refine lv_iload_n hx hb dX4_readItem_20 rfl (lv_at hl 0 rfl) ?_
        refine lv_iconst (v := (1 : Int32)) hx hb dX4_readItem_21 (by decide) ?_
        refine lv_icmp_ne (tgt := 32) hx hb dX4_readItem_22 (by decide) (fun c_13 => ?_) (fun c_13 => ?_)
        · have c_13 := c_13
          refine lv_aload_n hx hb dX4_readItem_32 rfl (lv_at hl 1 rfl) ?_
          refine mp_calli (va_runV (As := []) (rest := []) ⟨hx, hb, hml, hown, hts⟩ (c_X4_readNumber l X G A (mp_set M kn (rq, .inr (5, [.ref tp, .int (nI sz), .int (nI (tb t sz (we t sz i))), .int (nI (te t sz (we t sz i)))]))) rq tp sz t kn kt ((mp_set_n _ _ _ (by first | assumption | exact Ne.symm (by assumption) | simp)).trans hT) hkt hsz (we t sz i) (by omega) (mp_set_s _ _ _)) (cwV 0 hts gX4_readItem_X4_readNumber rfl rfl rfl (by decide +kernel) ⟨Nat.le_of_ble_eq_true rfl, Nat.le_of_ble_eq_true rfl⟩) (mp_preV hC hS hM (mp_recv hC.1 hM (mp_set_s _ _ _) (r := (RX4, TX4, 4)) rfl)) rfl rfl hl.1 rfl (lv_room (Nat.le_of_ble_eq_true rfl)) dX4_readItem_33 ⟨Nat.le_of_ble_eq_true rfl, Nat.le_of_ble_eq_true rfl⟩) hS (fun H locs hM hS => ?_)
          rw [mp_set_set] at hM
          by_cases hp : tnP t sz (we t sz i)
          · refine mp_top (tnV t sz (we t sz i)) (by rw [pB_t hp]; rfl) ?_
            refine lv_istore_n (lv' := [(3, .int (tnV t sz (we t sz i))), (2, .int (2 : Int32)), (0, .ref rq), (1, .ref zq)]) hx hb dX4_readItem_36 rfl hl (by decide) rfl (fun ls hl => ?_)
            refine lv_iload_n hx hb dX4_readItem_37 rfl (lv_at hl 0 rfl) ?_
            refine lv_iconst (v := (-1 : Int32)) hx hb dX4_readItem_38 (by decide) ?_
            refine lv_icmp_eq (tgt := 51) hx hb dX4_readItem_39 (by decide) (fun c3 => ?_) (fun c3 => ?_)
            · have c3 := c3
              exact absurd c3 (tnV_ne hwi.2.2 hp)
            · have c3 := c3
              refine lv_aload_n hx hb dX4_readItem_42 rfl (lv_at hl 2 rfl) ?_
              refine va_ldcS hx hb hown (hC.2.2.1.2.2.2.2.2.2.2.1 9 (79, ";") rfl) dX4_readItem_43 ?_
              by_cases hk9 : tkP t sz (tnN t sz (we t sz i)) 59
              · skip
                refine mp_calli (va_runV (As := [.ref (X.2.2.1 9)]) (rest := []) ⟨hx, hb, hml, hown, hts⟩ (c_takeY l X G A (mp_set M kn (rq, .inr (5, [.ref tp, .int (nI sz), .int (nI (tb t sz (tnN t sz (we t sz i)))), .int (nI (te t sz (tnN t sz (we t sz i))))]))) rq tp sz t kn kt ((mp_set_n _ _ _ (by first | assumption | exact Ne.symm (by assumption) | simp)).trans hT) hkt hsz (tnN t sz (we t sz i)) (by omega) (mp_set_s _ _ _) 9 (by decide) 59 rfl rfl sg59.1 sg59.2 hk9) (cwV 1 hts gX4_readItem_X4_take rfl rfl rfl (by decide +kernel) ⟨Nat.le_of_ble_eq_true rfl, Nat.le_of_ble_eq_true rfl⟩) (mp_preV hC hS hM (mp_recv hC.1 hM (mp_set_s _ _ _) (r := (RX4, TX4, 4)) rfl)) rfl rfl hl.1 rfl (lv_room (Nat.le_of_ble_eq_true rfl)) dX4_readItem_45 ⟨Nat.le_of_ble_eq_true rfl, Nat.le_of_ble_eq_true rfl⟩) hS (fun H locs hM hS => ?_)
                rw [mp_set_set] at hM
                refine lv_if_ne (tgt := 53) hx hb dX4_readItem_48 (by decide) (fun c_14 => ?_) (fun c_14 => ?_)
                · have c_14 := c_14
                  refine lv_aload_n hx hb dX4_readItem_53 rfl (lv_at hl 3 rfl) ?_
                  refine lv_iload_n hx hb dX4_readItem_54 rfl (lv_at hl 1 rfl) ?_
                  refine lv_iload_n hx hb dX4_readItem_55 rfl (lv_at hl 0 rfl) ?_
                  refine mp_callv (va_runV (As := [.int (2 : Int32), .int (tnV t sz (we t sz i))]) (rest := []) ⟨hx, hb, hml, hown, hts⟩ (c_X6_put l X G A (mp_set M kn (rq, .inr (5, [.ref tp, .int (nI sz), .int (nI (tb t sz (tkN t sz (tnN t sz (we t sz i)) 59))), .int (nI (te t sz (tkN t sz (tnN t sz (we t sz i)) 59)))]))) zq (zrv r0) kz ((mp_set_n _ _ _ (by first | assumption | exact Ne.symm (by assumption) | simp)).trans hZ) (2 : Int32) (tnV t sz (we t sz i))) (cwV 2 hts gX4_readItem_X6_put rfl rfl rfl (by decide +kernel) ⟨Nat.le_of_ble_eq_true rfl, Nat.le_of_ble_eq_true rfl⟩) (mp_preV hC hS hM (mp_recv hC.1 hM ((mp_set_n _ _ _ (by first | assumption | exact Ne.symm (by assumption) | simp)).trans hZ) (r := (RX6, TX6, 6)) rfl)) rfl rfl hl.1 rfl (lv_room (Nat.le_of_ble_eq_true rfl)) dX4_readItem_56 ⟨Nat.le_of_ble_eq_true rfl, Nat.le_of_ble_eq_true rfl⟩) hS (fun H locs hM hS => ?_)
                  refine lv_iconst (v := (1 : Int32)) hx hb dX4_readItem_59 (by decide) ?_
                  have hI : itemS t sz i r0 = (true, tkN t sz (tnN t sz (we t sz i)) 59, (r0.1, r0.2.1, upd r0.2.2 0 (tnV t sz (we t sz i)))) := by rw [itemS, if_neg (by omega), if_pos (by omega), pB_t hp, pB_t hk9, hK]; rfl
                  exact mp_zret hx hb hr hlocks (Nat.le_of_ble_eq_true rfl) (Nat.le_of_ble_eq_true rfl) hM hS dX4_readItem_60 (by first | rfl | exact bI_nar _) (⟨by rw [hI]; rfl, by rw [hI]; simp [zn_fs, znP, zrv, upd]⟩)
                · have c_14 := c_14
                  exact absurd c_14 (by decide)
              · skip
                refine mp_calli (va_runV (As := [.ref (X.2.2.1 9)]) (rest := []) ⟨hx, hb, hml, hown, hts⟩ (c_takeN l X G A (mp_set M kn (rq, .inr (5, [.ref tp, .int (nI sz), .int (nI (tb t sz (tnN t sz (we t sz i)))), .int (nI (te t sz (tnN t sz (we t sz i))))]))) rq tp sz t kn kt ((mp_set_n _ _ _ (by first | assumption | exact Ne.symm (by assumption) | simp)).trans hT) hkt hsz (tnN t sz (we t sz i)) (by omega) (mp_set_s _ _ _) 9 (by decide) 59 rfl rfl sg59.1 sg59.2 hk9) (cwV 1 hts gX4_readItem_X4_take rfl rfl rfl (by decide +kernel) ⟨Nat.le_of_ble_eq_true rfl, Nat.le_of_ble_eq_true rfl⟩) (mp_preV hC hS hM (mp_recv hC.1 hM (mp_set_s _ _ _) (r := (RX4, TX4, 4)) rfl)) rfl rfl hl.1 rfl (lv_room (Nat.le_of_ble_eq_true rfl)) dX4_readItem_45 ⟨Nat.le_of_ble_eq_true rfl, Nat.le_of_ble_eq_true rfl⟩) hS (fun H locs hM hS => ?_)
                refine lv_if_ne (tgt := 53) hx hb dX4_readItem_48 (by decide) (fun c_15 => ?_) (fun c_15 => ?_)
                · have c_15 := c_15
                  exact absurd c_15 (by decide)
                · have c_15 := c_15
                  refine lv_iconst (v := (0 : Int32)) hx hb dX4_readItem_51 (by decide) ?_
                  have hI : (itemS t sz i r0).1 = false ∧ (itemS t sz i r0).2.1 = tb t sz (tnN t sz (we t sz i)) := by rw [itemS, if_neg (by omega), if_pos (by omega), pB_t hp, pB_f hk9, tkN, pB_f hk9]; exact ⟨rfl, rfl⟩
                  exact mp_zret hx hb hr hlocks (Nat.le_of_ble_eq_true rfl) (Nat.le_of_ble_eq_true rfl) hM hS dX4_readItem_52 (by first | rfl | exact bI_nar _) (⟨by rw [hI.1]; rfl, by rw [hI.1, hI.2, tb_tb (by omega), te_tb (by omega)]; exact (mp_set_same ((mp_set_n _ _ _ hkz).trans hZ)).symm⟩)
          · refine mp_top (-1 : Int32) (by rw [pB_f hp]; rfl) ?_
            refine lv_istore_n (lv' := [(3, .int (-1 : Int32)), (2, .int (2 : Int32)), (0, .ref rq), (1, .ref zq)]) hx hb dX4_readItem_36 rfl hl (by decide) rfl (fun ls hl => ?_)
            refine lv_iload_n hx hb dX4_readItem_37 rfl (lv_at hl 0 rfl) ?_
            refine lv_iconst (v := (-1 : Int32)) hx hb dX4_readItem_38 (by decide) ?_
            refine lv_icmp_eq (tgt := 51) hx hb dX4_readItem_39 (by decide) (fun c3 => ?_) (fun c3 => ?_)
            · have c3 := c3
              refine lv_iconst (v := (0 : Int32)) hx hb dX4_readItem_51 (by decide) ?_
              have hI : itemS t sz i r0 = (false, tnN t sz (we t sz i), r0) := by rw [itemS, if_neg (by omega), if_pos (by omega), pB_f hp]; rfl
              exact mp_zret hx hb hr hlocks (Nat.le_of_ble_eq_true rfl) (Nat.le_of_ble_eq_true rfl) hM hS dX4_readItem_52 (by first | rfl | exact bI_nar _) (⟨by rw [hI]; rfl, by rw [hI]; exact (mp_set_same ((mp_set_n _ _ _ hkz).trans hZ)).symm⟩)
            · have c3 := c3
              exact absurd c3 (by decide)
        · have c_13 := c_13
          exact absurd c_13 (by decide)
    · have c_11 := c_11
      exact absurd c_11 (by decide)
  · refine mp_top (3) h1 ?_
    refine lv_istore_n (lv' := [(2, .int (3 : Int32)), (0, .ref rq), (1, .ref zq)]) hx hb dX4_readItem_4 rfl hl (by decide) rfl (fun ls hl => ?_)
    refine lv_iload_n hx hb dX4_readItem_5 rfl (lv_at hl 0 rfl) ?_
    refine lv_iconst (v := (-1 : Int32)) hx hb dX4_readItem_6 (by decide) ?_
    refine lv_icmp_ne (tgt := 12) hx hb dX4_readItem_7 (by decide) (fun c_16 => ?_) (fun c_16 => ?_)
    · have c_16 := c_16
      refine lv_aload_n hx hb dX4_readItem_12 rfl (lv_at hl 1 rfl) ?_
      refine mp_callv (va_runV (As := []) (rest := []) ⟨hx, hb, hml, hown, hts⟩ (c_X4_advance l X G A (M) rq tp sz t kn kt hT hkt hsz (tb t sz i) (te t sz i) (by omega) hO) (cwV 0 hts gX4_readItem_X4_advance rfl rfl rfl (by decide +kernel) ⟨Nat.le_of_ble_eq_true rfl, Nat.le_of_ble_eq_true rfl⟩) (mp_preV hC hS hM (mp_recv hC.1 hM hO (r := (RX4, TX4, 4)) rfl)) rfl rfl hl.1 rfl (lv_room (Nat.le_of_ble_eq_true rfl)) dX4_readItem_13 ⟨Nat.le_of_ble_eq_true rfl, Nat.le_of_ble_eq_true rfl⟩) hS (fun H locs hM hS => ?_)
      rw [hW] at hM
      refine lv_iload_n hx hb dX4_readItem_16 rfl (lv_at hl 0 rfl) ?_
      refine lv_if_eq (tgt := 25) hx hb dX4_readItem_17 (by decide) (fun c_17 => ?_) (fun c_17 => ?_)
      · have c_17 := c_17
        exact absurd c_17 (by decide)
      · have c_17 := c_17
        refine lv_iload_n hx hb dX4_readItem_20 rfl (lv_at hl 0 rfl) ?_
        refine lv_iconst (v := (1 : Int32)) hx hb dX4_readItem_21 (by decide) ?_
        refine lv_icmp_ne (tgt := 32) hx hb dX4_readItem_22 (by decide) (fun c_18 => ?_) (fun c_18 => ?_)
        · have c_18 := c_18
          refine lv_aload_n hx hb dX4_readItem_32 rfl (lv_at hl 1 rfl) ?_
          refine mp_calli (va_runV (As := []) (rest := []) ⟨hx, hb, hml, hown, hts⟩ (c_X4_readNumber l X G A (mp_set M kn (rq, .inr (5, [.ref tp, .int (nI sz), .int (nI (tb t sz (we t sz i))), .int (nI (te t sz (we t sz i)))]))) rq tp sz t kn kt ((mp_set_n _ _ _ (by first | assumption | exact Ne.symm (by assumption) | simp)).trans hT) hkt hsz (we t sz i) (by omega) (mp_set_s _ _ _)) (cwV 0 hts gX4_readItem_X4_readNumber rfl rfl rfl (by decide +kernel) ⟨Nat.le_of_ble_eq_true rfl, Nat.le_of_ble_eq_true rfl⟩) (mp_preV hC hS hM (mp_recv hC.1 hM (mp_set_s _ _ _) (r := (RX4, TX4, 4)) rfl)) rfl rfl hl.1 rfl (lv_room (Nat.le_of_ble_eq_true rfl)) dX4_readItem_33 ⟨Nat.le_of_ble_eq_true rfl, Nat.le_of_ble_eq_true rfl⟩) hS (fun H locs hM hS => ?_)
          rw [mp_set_set] at hM
          by_cases hp : tnP t sz (we t sz i)
          · refine mp_top (tnV t sz (we t sz i)) (by rw [pB_t hp]; rfl) ?_
            refine lv_istore_n (lv' := [(3, .int (tnV t sz (we t sz i))), (2, .int (3 : Int32)), (0, .ref rq), (1, .ref zq)]) hx hb dX4_readItem_36 rfl hl (by decide) rfl (fun ls hl => ?_)
            refine lv_iload_n hx hb dX4_readItem_37 rfl (lv_at hl 0 rfl) ?_
            refine lv_iconst (v := (-1 : Int32)) hx hb dX4_readItem_38 (by decide) ?_
            refine lv_icmp_eq (tgt := 51) hx hb dX4_readItem_39 (by decide) (fun c3 => ?_) (fun c3 => ?_)
            · have c3 := c3
              exact absurd c3 (tnV_ne hwi.2.2 hp)
            · have c3 := c3
              refine lv_aload_n hx hb dX4_readItem_42 rfl (lv_at hl 2 rfl) ?_
              refine va_ldcS hx hb hown (hC.2.2.1.2.2.2.2.2.2.2.1 9 (79, ";") rfl) dX4_readItem_43 ?_
              by_cases hk9 : tkP t sz (tnN t sz (we t sz i)) 59
              · skip
                refine mp_calli (va_runV (As := [.ref (X.2.2.1 9)]) (rest := []) ⟨hx, hb, hml, hown, hts⟩ (c_takeY l X G A (mp_set M kn (rq, .inr (5, [.ref tp, .int (nI sz), .int (nI (tb t sz (tnN t sz (we t sz i)))), .int (nI (te t sz (tnN t sz (we t sz i))))]))) rq tp sz t kn kt ((mp_set_n _ _ _ (by first | assumption | exact Ne.symm (by assumption) | simp)).trans hT) hkt hsz (tnN t sz (we t sz i)) (by omega) (mp_set_s _ _ _) 9 (by decide) 59 rfl rfl sg59.1 sg59.2 hk9) (cwV 1 hts gX4_readItem_X4_take rfl rfl rfl (by decide +kernel) ⟨Nat.le_of_ble_eq_true rfl, Nat.le_of_ble_eq_true rfl⟩) (mp_preV hC hS hM (mp_recv hC.1 hM (mp_set_s _ _ _) (r := (RX4, TX4, 4)) rfl)) rfl rfl hl.1 rfl (lv_room (Nat.le_of_ble_eq_true rfl)) dX4_readItem_45 ⟨Nat.le_of_ble_eq_true rfl, Nat.le_of_ble_eq_true rfl⟩) hS (fun H locs hM hS => ?_)
                rw [mp_set_set] at hM
                refine lv_if_ne (tgt := 53) hx hb dX4_readItem_48 (by decide) (fun c_19 => ?_) (fun c_19 => ?_)
                · have c_19 := c_19
                  refine lv_aload_n hx hb dX4_readItem_53 rfl (lv_at hl 3 rfl) ?_
                  refine lv_iload_n hx hb dX4_readItem_54 rfl (lv_at hl 1 rfl) ?_
                  refine lv_iload_n hx hb dX4_readItem_55 rfl (lv_at hl 0 rfl) ?_
                  refine mp_callv (va_runV (As := [.int (3 : Int32), .int (tnV t sz (we t sz i))]) (rest := []) ⟨hx, hb, hml, hown, hts⟩ (c_X6_put l X G A (mp_set M kn (rq, .inr (5, [.ref tp, .int (nI sz), .int (nI (tb t sz (tkN t sz (tnN t sz (we t sz i)) 59))), .int (nI (te t sz (tkN t sz (tnN t sz (we t sz i)) 59)))]))) zq (zrv r0) kz ((mp_set_n _ _ _ (by first | assumption | exact Ne.symm (by assumption) | simp)).trans hZ) (3 : Int32) (tnV t sz (we t sz i))) (cwV 2 hts gX4_readItem_X6_put rfl rfl rfl (by decide +kernel) ⟨Nat.le_of_ble_eq_true rfl, Nat.le_of_ble_eq_true rfl⟩) (mp_preV hC hS hM (mp_recv hC.1 hM ((mp_set_n _ _ _ (by first | assumption | exact Ne.symm (by assumption) | simp)).trans hZ) (r := (RX6, TX6, 6)) rfl)) rfl rfl hl.1 rfl (lv_room (Nat.le_of_ble_eq_true rfl)) dX4_readItem_56 ⟨Nat.le_of_ble_eq_true rfl, Nat.le_of_ble_eq_true rfl⟩) hS (fun H locs hM hS => ?_)
                  refine lv_iconst (v := (1 : Int32)) hx hb dX4_readItem_59 (by decide) ?_
                  have hI : itemS t sz i r0 = (true, tkN t sz (tnN t sz (we t sz i)) 59, (r0.1, r0.2.1, upd r0.2.2 1 (tnV t sz (we t sz i)))) := by rw [itemS, if_neg (by omega), if_pos (by omega), pB_t hp, pB_t hk9, hK]; rfl
                  exact mp_zret hx hb hr hlocks (Nat.le_of_ble_eq_true rfl) (Nat.le_of_ble_eq_true rfl) hM hS dX4_readItem_60 (by first | rfl | exact bI_nar _) (⟨by rw [hI]; rfl, by rw [hI]; simp [zn_fs, znP, zrv, upd]⟩)
                · have c_19 := c_19
                  exact absurd c_19 (by decide)
              · skip
                refine mp_calli (va_runV (As := [.ref (X.2.2.1 9)]) (rest := []) ⟨hx, hb, hml, hown, hts⟩ (c_takeN l X G A (mp_set M kn (rq, .inr (5, [.ref tp, .int (nI sz), .int (nI (tb t sz (tnN t sz (we t sz i)))), .int (nI (te t sz (tnN t sz (we t sz i))))]))) rq tp sz t kn kt ((mp_set_n _ _ _ (by first | assumption | exact Ne.symm (by assumption) | simp)).trans hT) hkt hsz (tnN t sz (we t sz i)) (by omega) (mp_set_s _ _ _) 9 (by decide) 59 rfl rfl sg59.1 sg59.2 hk9) (cwV 1 hts gX4_readItem_X4_take rfl rfl rfl (by decide +kernel) ⟨Nat.le_of_ble_eq_true rfl, Nat.le_of_ble_eq_true rfl⟩) (mp_preV hC hS hM (mp_recv hC.1 hM (mp_set_s _ _ _) (r := (RX4, TX4, 4)) rfl)) rfl rfl hl.1 rfl (lv_room (Nat.le_of_ble_eq_true rfl)) dX4_readItem_45 ⟨Nat.le_of_ble_eq_true rfl, Nat.le_of_ble_eq_true rfl⟩) hS (fun H locs hM hS => ?_)
                refine lv_if_ne (tgt := 53) hx hb dX4_readItem_48 (by decide) (fun c_20 => ?_) (fun c_20 => ?_)
                · have c_20 := c_20
                  exact absurd c_20 (by decide)
                · have c_20 := c_20
                  refine lv_iconst (v := (0 : Int32)) hx hb dX4_readItem_51 (by decide) ?_
                  have hI : (itemS t sz i r0).1 = false ∧ (itemS t sz i r0).2.1 = tb t sz (tnN t sz (we t sz i)) := by rw [itemS, if_neg (by omega), if_pos (by omega), pB_t hp, pB_f hk9, tkN, pB_f hk9]; exact ⟨rfl, rfl⟩
                  exact mp_zret hx hb hr hlocks (Nat.le_of_ble_eq_true rfl) (Nat.le_of_ble_eq_true rfl) hM hS dX4_readItem_52 (by first | rfl | exact bI_nar _) (⟨by rw [hI.1]; rfl, by rw [hI.1, hI.2, tb_tb (by omega), te_tb (by omega)]; exact (mp_set_same ((mp_set_n _ _ _ hkz).trans hZ)).symm⟩)
          · refine mp_top (-1 : Int32) (by rw [pB_f hp]; rfl) ?_
            refine lv_istore_n (lv' := [(3, .int (-1 : Int32)), (2, .int (3 : Int32)), (0, .ref rq), (1, .ref zq)]) hx hb dX4_readItem_36 rfl hl (by decide) rfl (fun ls hl => ?_)
            refine lv_iload_n hx hb dX4_readItem_37 rfl (lv_at hl 0 rfl) ?_
            refine lv_iconst (v := (-1 : Int32)) hx hb dX4_readItem_38 (by decide) ?_
            refine lv_icmp_eq (tgt := 51) hx hb dX4_readItem_39 (by decide) (fun c3 => ?_) (fun c3 => ?_)
            · have c3 := c3
              refine lv_iconst (v := (0 : Int32)) hx hb dX4_readItem_51 (by decide) ?_
              have hI : itemS t sz i r0 = (false, tnN t sz (we t sz i), r0) := by rw [itemS, if_neg (by omega), if_pos (by omega), pB_f hp]; rfl
              exact mp_zret hx hb hr hlocks (Nat.le_of_ble_eq_true rfl) (Nat.le_of_ble_eq_true rfl) hM hS dX4_readItem_52 (by first | rfl | exact bI_nar _) (⟨by rw [hI]; rfl, by rw [hI]; exact (mp_set_same ((mp_set_n _ _ _ hkz).trans hZ)).symm⟩)
            · have c3 := c3
              exact absurd c3 (by decide)
        · have c_18 := c_18
          exact absurd c_18 (by decide)
    · have c_16 := c_16
      exact absurd c_16 (by decide)
  · refine mp_top (4) h1 ?_
    refine lv_istore_n (lv' := [(2, .int (4 : Int32)), (0, .ref rq), (1, .ref zq)]) hx hb dX4_readItem_4 rfl hl (by decide) rfl (fun ls hl => ?_)
    refine lv_iload_n hx hb dX4_readItem_5 rfl (lv_at hl 0 rfl) ?_
    refine lv_iconst (v := (-1 : Int32)) hx hb dX4_readItem_6 (by decide) ?_
    refine lv_icmp_ne (tgt := 12) hx hb dX4_readItem_7 (by decide) (fun c_21 => ?_) (fun c_21 => ?_)
    · have c_21 := c_21
      refine lv_aload_n hx hb dX4_readItem_12 rfl (lv_at hl 1 rfl) ?_
      refine mp_callv (va_runV (As := []) (rest := []) ⟨hx, hb, hml, hown, hts⟩ (c_X4_advance l X G A (M) rq tp sz t kn kt hT hkt hsz (tb t sz i) (te t sz i) (by omega) hO) (cwV 0 hts gX4_readItem_X4_advance rfl rfl rfl (by decide +kernel) ⟨Nat.le_of_ble_eq_true rfl, Nat.le_of_ble_eq_true rfl⟩) (mp_preV hC hS hM (mp_recv hC.1 hM hO (r := (RX4, TX4, 4)) rfl)) rfl rfl hl.1 rfl (lv_room (Nat.le_of_ble_eq_true rfl)) dX4_readItem_13 ⟨Nat.le_of_ble_eq_true rfl, Nat.le_of_ble_eq_true rfl⟩) hS (fun H locs hM hS => ?_)
      rw [hW] at hM
      refine lv_iload_n hx hb dX4_readItem_16 rfl (lv_at hl 0 rfl) ?_
      refine lv_if_eq (tgt := 25) hx hb dX4_readItem_17 (by decide) (fun c_22 => ?_) (fun c_22 => ?_)
      · have c_22 := c_22
        exact absurd c_22 (by decide)
      · have c_22 := c_22
        refine lv_iload_n hx hb dX4_readItem_20 rfl (lv_at hl 0 rfl) ?_
        refine lv_iconst (v := (1 : Int32)) hx hb dX4_readItem_21 (by decide) ?_
        refine lv_icmp_ne (tgt := 32) hx hb dX4_readItem_22 (by decide) (fun c_23 => ?_) (fun c_23 => ?_)
        · have c_23 := c_23
          refine lv_aload_n hx hb dX4_readItem_32 rfl (lv_at hl 1 rfl) ?_
          refine mp_calli (va_runV (As := []) (rest := []) ⟨hx, hb, hml, hown, hts⟩ (c_X4_readNumber l X G A (mp_set M kn (rq, .inr (5, [.ref tp, .int (nI sz), .int (nI (tb t sz (we t sz i))), .int (nI (te t sz (we t sz i)))]))) rq tp sz t kn kt ((mp_set_n _ _ _ (by first | assumption | exact Ne.symm (by assumption) | simp)).trans hT) hkt hsz (we t sz i) (by omega) (mp_set_s _ _ _)) (cwV 0 hts gX4_readItem_X4_readNumber rfl rfl rfl (by decide +kernel) ⟨Nat.le_of_ble_eq_true rfl, Nat.le_of_ble_eq_true rfl⟩) (mp_preV hC hS hM (mp_recv hC.1 hM (mp_set_s _ _ _) (r := (RX4, TX4, 4)) rfl)) rfl rfl hl.1 rfl (lv_room (Nat.le_of_ble_eq_true rfl)) dX4_readItem_33 ⟨Nat.le_of_ble_eq_true rfl, Nat.le_of_ble_eq_true rfl⟩) hS (fun H locs hM hS => ?_)
          rw [mp_set_set] at hM
          by_cases hp : tnP t sz (we t sz i)
          · refine mp_top (tnV t sz (we t sz i)) (by rw [pB_t hp]; rfl) ?_
            refine lv_istore_n (lv' := [(3, .int (tnV t sz (we t sz i))), (2, .int (4 : Int32)), (0, .ref rq), (1, .ref zq)]) hx hb dX4_readItem_36 rfl hl (by decide) rfl (fun ls hl => ?_)
            refine lv_iload_n hx hb dX4_readItem_37 rfl (lv_at hl 0 rfl) ?_
            refine lv_iconst (v := (-1 : Int32)) hx hb dX4_readItem_38 (by decide) ?_
            refine lv_icmp_eq (tgt := 51) hx hb dX4_readItem_39 (by decide) (fun c3 => ?_) (fun c3 => ?_)
            · have c3 := c3
              exact absurd c3 (tnV_ne hwi.2.2 hp)
            · have c3 := c3
              refine lv_aload_n hx hb dX4_readItem_42 rfl (lv_at hl 2 rfl) ?_
              refine va_ldcS hx hb hown (hC.2.2.1.2.2.2.2.2.2.2.1 9 (79, ";") rfl) dX4_readItem_43 ?_
              by_cases hk9 : tkP t sz (tnN t sz (we t sz i)) 59
              · skip
                refine mp_calli (va_runV (As := [.ref (X.2.2.1 9)]) (rest := []) ⟨hx, hb, hml, hown, hts⟩ (c_takeY l X G A (mp_set M kn (rq, .inr (5, [.ref tp, .int (nI sz), .int (nI (tb t sz (tnN t sz (we t sz i)))), .int (nI (te t sz (tnN t sz (we t sz i))))]))) rq tp sz t kn kt ((mp_set_n _ _ _ (by first | assumption | exact Ne.symm (by assumption) | simp)).trans hT) hkt hsz (tnN t sz (we t sz i)) (by omega) (mp_set_s _ _ _) 9 (by decide) 59 rfl rfl sg59.1 sg59.2 hk9) (cwV 1 hts gX4_readItem_X4_take rfl rfl rfl (by decide +kernel) ⟨Nat.le_of_ble_eq_true rfl, Nat.le_of_ble_eq_true rfl⟩) (mp_preV hC hS hM (mp_recv hC.1 hM (mp_set_s _ _ _) (r := (RX4, TX4, 4)) rfl)) rfl rfl hl.1 rfl (lv_room (Nat.le_of_ble_eq_true rfl)) dX4_readItem_45 ⟨Nat.le_of_ble_eq_true rfl, Nat.le_of_ble_eq_true rfl⟩) hS (fun H locs hM hS => ?_)
                rw [mp_set_set] at hM
                refine lv_if_ne (tgt := 53) hx hb dX4_readItem_48 (by decide) (fun c_24 => ?_) (fun c_24 => ?_)
                · have c_24 := c_24
                  refine lv_aload_n hx hb dX4_readItem_53 rfl (lv_at hl 3 rfl) ?_
                  refine lv_iload_n hx hb dX4_readItem_54 rfl (lv_at hl 1 rfl) ?_
                  refine lv_iload_n hx hb dX4_readItem_55 rfl (lv_at hl 0 rfl) ?_
                  refine mp_callv (va_runV (As := [.int (4 : Int32), .int (tnV t sz (we t sz i))]) (rest := []) ⟨hx, hb, hml, hown, hts⟩ (c_X6_put l X G A (mp_set M kn (rq, .inr (5, [.ref tp, .int (nI sz), .int (nI (tb t sz (tkN t sz (tnN t sz (we t sz i)) 59))), .int (nI (te t sz (tkN t sz (tnN t sz (we t sz i)) 59)))]))) zq (zrv r0) kz ((mp_set_n _ _ _ (by first | assumption | exact Ne.symm (by assumption) | simp)).trans hZ) (4 : Int32) (tnV t sz (we t sz i))) (cwV 2 hts gX4_readItem_X6_put rfl rfl rfl (by decide +kernel) ⟨Nat.le_of_ble_eq_true rfl, Nat.le_of_ble_eq_true rfl⟩) (mp_preV hC hS hM (mp_recv hC.1 hM ((mp_set_n _ _ _ (by first | assumption | exact Ne.symm (by assumption) | simp)).trans hZ) (r := (RX6, TX6, 6)) rfl)) rfl rfl hl.1 rfl (lv_room (Nat.le_of_ble_eq_true rfl)) dX4_readItem_56 ⟨Nat.le_of_ble_eq_true rfl, Nat.le_of_ble_eq_true rfl⟩) hS (fun H locs hM hS => ?_)
                  refine lv_iconst (v := (1 : Int32)) hx hb dX4_readItem_59 (by decide) ?_
                  have hI : itemS t sz i r0 = (true, tkN t sz (tnN t sz (we t sz i)) 59, (r0.1, r0.2.1, upd r0.2.2 2 (tnV t sz (we t sz i)))) := by rw [itemS, if_neg (by omega), if_pos (by omega), pB_t hp, pB_t hk9, hK]; rfl
                  exact mp_zret hx hb hr hlocks (Nat.le_of_ble_eq_true rfl) (Nat.le_of_ble_eq_true rfl) hM hS dX4_readItem_60 (by first | rfl | exact bI_nar _) (⟨by rw [hI]; rfl, by rw [hI]; simp [zn_fs, znP, zrv, upd]⟩)
                · have c_24 := c_24
                  exact absurd c_24 (by decide)
              · skip
                refine mp_calli (va_runV (As := [.ref (X.2.2.1 9)]) (rest := []) ⟨hx, hb, hml, hown, hts⟩ (c_takeN l X G A (mp_set M kn (rq, .inr (5, [.ref tp, .int (nI sz), .int (nI (tb t sz (tnN t sz (we t sz i)))), .int (nI (te t sz (tnN t sz (we t sz i))))]))) rq tp sz t kn kt ((mp_set_n _ _ _ (by first | assumption | exact Ne.symm (by assumption) | simp)).trans hT) hkt hsz (tnN t sz (we t sz i)) (by omega) (mp_set_s _ _ _) 9 (by decide) 59 rfl rfl sg59.1 sg59.2 hk9) (cwV 1 hts gX4_readItem_X4_take rfl rfl rfl (by decide +kernel) ⟨Nat.le_of_ble_eq_true rfl, Nat.le_of_ble_eq_true rfl⟩) (mp_preV hC hS hM (mp_recv hC.1 hM (mp_set_s _ _ _) (r := (RX4, TX4, 4)) rfl)) rfl rfl hl.1 rfl (lv_room (Nat.le_of_ble_eq_true rfl)) dX4_readItem_45 ⟨Nat.le_of_ble_eq_true rfl, Nat.le_of_ble_eq_true rfl⟩) hS (fun H locs hM hS => ?_)
                refine lv_if_ne (tgt := 53) hx hb dX4_readItem_48 (by decide) (fun c_25 => ?_) (fun c_25 => ?_)
                · have c_25 := c_25
                  exact absurd c_25 (by decide)
                · have c_25 := c_25
                  refine lv_iconst (v := (0 : Int32)) hx hb dX4_readItem_51 (by decide) ?_
                  have hI : (itemS t sz i r0).1 = false ∧ (itemS t sz i r0).2.1 = tb t sz (tnN t sz (we t sz i)) := by rw [itemS, if_neg (by omega), if_pos (by omega), pB_t hp, pB_f hk9, tkN, pB_f hk9]; exact ⟨rfl, rfl⟩
                  exact mp_zret hx hb hr hlocks (Nat.le_of_ble_eq_true rfl) (Nat.le_of_ble_eq_true rfl) hM hS dX4_readItem_52 (by first | rfl | exact bI_nar _) (⟨by rw [hI.1]; rfl, by rw [hI.1, hI.2, tb_tb (by omega), te_tb (by omega)]; exact (mp_set_same ((mp_set_n _ _ _ hkz).trans hZ)).symm⟩)
          · refine mp_top (-1 : Int32) (by rw [pB_f hp]; rfl) ?_
            refine lv_istore_n (lv' := [(3, .int (-1 : Int32)), (2, .int (4 : Int32)), (0, .ref rq), (1, .ref zq)]) hx hb dX4_readItem_36 rfl hl (by decide) rfl (fun ls hl => ?_)
            refine lv_iload_n hx hb dX4_readItem_37 rfl (lv_at hl 0 rfl) ?_
            refine lv_iconst (v := (-1 : Int32)) hx hb dX4_readItem_38 (by decide) ?_
            refine lv_icmp_eq (tgt := 51) hx hb dX4_readItem_39 (by decide) (fun c3 => ?_) (fun c3 => ?_)
            · have c3 := c3
              refine lv_iconst (v := (0 : Int32)) hx hb dX4_readItem_51 (by decide) ?_
              have hI : itemS t sz i r0 = (false, tnN t sz (we t sz i), r0) := by rw [itemS, if_neg (by omega), if_pos (by omega), pB_f hp]; rfl
              exact mp_zret hx hb hr hlocks (Nat.le_of_ble_eq_true rfl) (Nat.le_of_ble_eq_true rfl) hM hS dX4_readItem_52 (by first | rfl | exact bI_nar _) (⟨by rw [hI]; rfl, by rw [hI]; exact (mp_set_same ((mp_set_n _ _ _ hkz).trans hZ)).symm⟩)
            · have c3 := c3
              exact absurd c3 (by decide)
        · have c_23 := c_23
          exact absurd c_23 (by decide)
    · have c_21 := c_21
      exact absurd c_21 (by decide)
  · refine mp_top (5) h1 ?_
    refine lv_istore_n (lv' := [(2, .int (5 : Int32)), (0, .ref rq), (1, .ref zq)]) hx hb dX4_readItem_4 rfl hl (by decide) rfl (fun ls hl => ?_)
    refine lv_iload_n hx hb dX4_readItem_5 rfl (lv_at hl 0 rfl) ?_
    refine lv_iconst (v := (-1 : Int32)) hx hb dX4_readItem_6 (by decide) ?_
    refine lv_icmp_ne (tgt := 12) hx hb dX4_readItem_7 (by decide) (fun c_26 => ?_) (fun c_26 => ?_)
    · have c_26 := c_26
      refine lv_aload_n hx hb dX4_readItem_12 rfl (lv_at hl 1 rfl) ?_
      refine mp_callv (va_runV (As := []) (rest := []) ⟨hx, hb, hml, hown, hts⟩ (c_X4_advance l X G A (M) rq tp sz t kn kt hT hkt hsz (tb t sz i) (te t sz i) (by omega) hO) (cwV 0 hts gX4_readItem_X4_advance rfl rfl rfl (by decide +kernel) ⟨Nat.le_of_ble_eq_true rfl, Nat.le_of_ble_eq_true rfl⟩) (mp_preV hC hS hM (mp_recv hC.1 hM hO (r := (RX4, TX4, 4)) rfl)) rfl rfl hl.1 rfl (lv_room (Nat.le_of_ble_eq_true rfl)) dX4_readItem_13 ⟨Nat.le_of_ble_eq_true rfl, Nat.le_of_ble_eq_true rfl⟩) hS (fun H locs hM hS => ?_)
      rw [hW] at hM
      refine lv_iload_n hx hb dX4_readItem_16 rfl (lv_at hl 0 rfl) ?_
      refine lv_if_eq (tgt := 25) hx hb dX4_readItem_17 (by decide) (fun c_27 => ?_) (fun c_27 => ?_)
      · have c_27 := c_27
        exact absurd c_27 (by decide)
      · have c_27 := c_27
        refine lv_iload_n hx hb dX4_readItem_20 rfl (lv_at hl 0 rfl) ?_
        refine lv_iconst (v := (1 : Int32)) hx hb dX4_readItem_21 (by decide) ?_
        refine lv_icmp_ne (tgt := 32) hx hb dX4_readItem_22 (by decide) (fun c_28 => ?_) (fun c_28 => ?_)
        · have c_28 := c_28
          refine lv_aload_n hx hb dX4_readItem_32 rfl (lv_at hl 1 rfl) ?_
          refine mp_calli (va_runV (As := []) (rest := []) ⟨hx, hb, hml, hown, hts⟩ (c_X4_readNumber l X G A (mp_set M kn (rq, .inr (5, [.ref tp, .int (nI sz), .int (nI (tb t sz (we t sz i))), .int (nI (te t sz (we t sz i)))]))) rq tp sz t kn kt ((mp_set_n _ _ _ (by first | assumption | exact Ne.symm (by assumption) | simp)).trans hT) hkt hsz (we t sz i) (by omega) (mp_set_s _ _ _)) (cwV 0 hts gX4_readItem_X4_readNumber rfl rfl rfl (by decide +kernel) ⟨Nat.le_of_ble_eq_true rfl, Nat.le_of_ble_eq_true rfl⟩) (mp_preV hC hS hM (mp_recv hC.1 hM (mp_set_s _ _ _) (r := (RX4, TX4, 4)) rfl)) rfl rfl hl.1 rfl (lv_room (Nat.le_of_ble_eq_true rfl)) dX4_readItem_33 ⟨Nat.le_of_ble_eq_true rfl, Nat.le_of_ble_eq_true rfl⟩) hS (fun H locs hM hS => ?_)
          rw [mp_set_set] at hM
          by_cases hp : tnP t sz (we t sz i)
          · refine mp_top (tnV t sz (we t sz i)) (by rw [pB_t hp]; rfl) ?_
            refine lv_istore_n (lv' := [(3, .int (tnV t sz (we t sz i))), (2, .int (5 : Int32)), (0, .ref rq), (1, .ref zq)]) hx hb dX4_readItem_36 rfl hl (by decide) rfl (fun ls hl => ?_)
            refine lv_iload_n hx hb dX4_readItem_37 rfl (lv_at hl 0 rfl) ?_
            refine lv_iconst (v := (-1 : Int32)) hx hb dX4_readItem_38 (by decide) ?_
            refine lv_icmp_eq (tgt := 51) hx hb dX4_readItem_39 (by decide) (fun c3 => ?_) (fun c3 => ?_)
            · have c3 := c3
              exact absurd c3 (tnV_ne hwi.2.2 hp)
            · have c3 := c3
              refine lv_aload_n hx hb dX4_readItem_42 rfl (lv_at hl 2 rfl) ?_
              refine va_ldcS hx hb hown (hC.2.2.1.2.2.2.2.2.2.2.1 9 (79, ";") rfl) dX4_readItem_43 ?_
              by_cases hk9 : tkP t sz (tnN t sz (we t sz i)) 59
              · skip
                refine mp_calli (va_runV (As := [.ref (X.2.2.1 9)]) (rest := []) ⟨hx, hb, hml, hown, hts⟩ (c_takeY l X G A (mp_set M kn (rq, .inr (5, [.ref tp, .int (nI sz), .int (nI (tb t sz (tnN t sz (we t sz i)))), .int (nI (te t sz (tnN t sz (we t sz i))))]))) rq tp sz t kn kt ((mp_set_n _ _ _ (by first | assumption | exact Ne.symm (by assumption) | simp)).trans hT) hkt hsz (tnN t sz (we t sz i)) (by omega) (mp_set_s _ _ _) 9 (by decide) 59 rfl rfl sg59.1 sg59.2 hk9) (cwV 1 hts gX4_readItem_X4_take rfl rfl rfl (by decide +kernel) ⟨Nat.le_of_ble_eq_true rfl, Nat.le_of_ble_eq_true rfl⟩) (mp_preV hC hS hM (mp_recv hC.1 hM (mp_set_s _ _ _) (r := (RX4, TX4, 4)) rfl)) rfl rfl hl.1 rfl (lv_room (Nat.le_of_ble_eq_true rfl)) dX4_readItem_45 ⟨Nat.le_of_ble_eq_true rfl, Nat.le_of_ble_eq_true rfl⟩) hS (fun H locs hM hS => ?_)
                rw [mp_set_set] at hM
                refine lv_if_ne (tgt := 53) hx hb dX4_readItem_48 (by decide) (fun c_29 => ?_) (fun c_29 => ?_)
                · have c_29 := c_29
                  refine lv_aload_n hx hb dX4_readItem_53 rfl (lv_at hl 3 rfl) ?_
                  refine lv_iload_n hx hb dX4_readItem_54 rfl (lv_at hl 1 rfl) ?_
                  refine lv_iload_n hx hb dX4_readItem_55 rfl (lv_at hl 0 rfl) ?_
                  refine mp_callv (va_runV (As := [.int (5 : Int32), .int (tnV t sz (we t sz i))]) (rest := []) ⟨hx, hb, hml, hown, hts⟩ (c_X6_put l X G A (mp_set M kn (rq, .inr (5, [.ref tp, .int (nI sz), .int (nI (tb t sz (tkN t sz (tnN t sz (we t sz i)) 59))), .int (nI (te t sz (tkN t sz (tnN t sz (we t sz i)) 59)))]))) zq (zrv r0) kz ((mp_set_n _ _ _ (by first | assumption | exact Ne.symm (by assumption) | simp)).trans hZ) (5 : Int32) (tnV t sz (we t sz i))) (cwV 2 hts gX4_readItem_X6_put rfl rfl rfl (by decide +kernel) ⟨Nat.le_of_ble_eq_true rfl, Nat.le_of_ble_eq_true rfl⟩) (mp_preV hC hS hM (mp_recv hC.1 hM ((mp_set_n _ _ _ (by first | assumption | exact Ne.symm (by assumption) | simp)).trans hZ) (r := (RX6, TX6, 6)) rfl)) rfl rfl hl.1 rfl (lv_room (Nat.le_of_ble_eq_true rfl)) dX4_readItem_56 ⟨Nat.le_of_ble_eq_true rfl, Nat.le_of_ble_eq_true rfl⟩) hS (fun H locs hM hS => ?_)
                  refine lv_iconst (v := (1 : Int32)) hx hb dX4_readItem_59 (by decide) ?_
                  have hI : itemS t sz i r0 = (true, tkN t sz (tnN t sz (we t sz i)) 59, (r0.1, r0.2.1, upd r0.2.2 3 (tnV t sz (we t sz i)))) := by rw [itemS, if_neg (by omega), if_pos (by omega), pB_t hp, pB_t hk9, hK]; rfl
                  exact mp_zret hx hb hr hlocks (Nat.le_of_ble_eq_true rfl) (Nat.le_of_ble_eq_true rfl) hM hS dX4_readItem_60 (by first | rfl | exact bI_nar _) (⟨by rw [hI]; rfl, by rw [hI]; simp [zn_fs, znP, zrv, upd]⟩)
                · have c_29 := c_29
                  exact absurd c_29 (by decide)
              · skip
                refine mp_calli (va_runV (As := [.ref (X.2.2.1 9)]) (rest := []) ⟨hx, hb, hml, hown, hts⟩ (c_takeN l X G A (mp_set M kn (rq, .inr (5, [.ref tp, .int (nI sz), .int (nI (tb t sz (tnN t sz (we t sz i)))), .int (nI (te t sz (tnN t sz (we t sz i))))]))) rq tp sz t kn kt ((mp_set_n _ _ _ (by first | assumption | exact Ne.symm (by assumption) | simp)).trans hT) hkt hsz (tnN t sz (we t sz i)) (by omega) (mp_set_s _ _ _) 9 (by decide) 59 rfl rfl sg59.1 sg59.2 hk9) (cwV 1 hts gX4_readItem_X4_take rfl rfl rfl (by decide +kernel) ⟨Nat.le_of_ble_eq_true rfl, Nat.le_of_ble_eq_true rfl⟩) (mp_preV hC hS hM (mp_recv hC.1 hM (mp_set_s _ _ _) (r := (RX4, TX4, 4)) rfl)) rfl rfl hl.1 rfl (lv_room (Nat.le_of_ble_eq_true rfl)) dX4_readItem_45 ⟨Nat.le_of_ble_eq_true rfl, Nat.le_of_ble_eq_true rfl⟩) hS (fun H locs hM hS => ?_)
                refine lv_if_ne (tgt := 53) hx hb dX4_readItem_48 (by decide) (fun c_30 => ?_) (fun c_30 => ?_)
                · have c_30 := c_30
                  exact absurd c_30 (by decide)
                · have c_30 := c_30
                  refine lv_iconst (v := (0 : Int32)) hx hb dX4_readItem_51 (by decide) ?_
                  have hI : (itemS t sz i r0).1 = false ∧ (itemS t sz i r0).2.1 = tb t sz (tnN t sz (we t sz i)) := by rw [itemS, if_neg (by omega), if_pos (by omega), pB_t hp, pB_f hk9, tkN, pB_f hk9]; exact ⟨rfl, rfl⟩
                  exact mp_zret hx hb hr hlocks (Nat.le_of_ble_eq_true rfl) (Nat.le_of_ble_eq_true rfl) hM hS dX4_readItem_52 (by first | rfl | exact bI_nar _) (⟨by rw [hI.1]; rfl, by rw [hI.1, hI.2, tb_tb (by omega), te_tb (by omega)]; exact (mp_set_same ((mp_set_n _ _ _ hkz).trans hZ)).symm⟩)
          · refine mp_top (-1 : Int32) (by rw [pB_f hp]; rfl) ?_
            refine lv_istore_n (lv' := [(3, .int (-1 : Int32)), (2, .int (5 : Int32)), (0, .ref rq), (1, .ref zq)]) hx hb dX4_readItem_36 rfl hl (by decide) rfl (fun ls hl => ?_)
            refine lv_iload_n hx hb dX4_readItem_37 rfl (lv_at hl 0 rfl) ?_
            refine lv_iconst (v := (-1 : Int32)) hx hb dX4_readItem_38 (by decide) ?_
            refine lv_icmp_eq (tgt := 51) hx hb dX4_readItem_39 (by decide) (fun c3 => ?_) (fun c3 => ?_)
            · have c3 := c3
              refine lv_iconst (v := (0 : Int32)) hx hb dX4_readItem_51 (by decide) ?_
              have hI : itemS t sz i r0 = (false, tnN t sz (we t sz i), r0) := by rw [itemS, if_neg (by omega), if_pos (by omega), pB_f hp]; rfl
              exact mp_zret hx hb hr hlocks (Nat.le_of_ble_eq_true rfl) (Nat.le_of_ble_eq_true rfl) hM hS dX4_readItem_52 (by first | rfl | exact bI_nar _) (⟨by rw [hI]; rfl, by rw [hI]; exact (mp_set_same ((mp_set_n _ _ _ hkz).trans hZ)).symm⟩)
            · have c3 := c3
              exact absurd c3 (by decide)
        · have c_28 := c_28
          exact absurd c_28 (by decide)
    · have c_26 := c_26
      exact absurd c_26 (by decide)
