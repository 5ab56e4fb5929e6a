/-! ===== rules: class and reference find the same one ===== -/
def dsR (D : ds_D) : Prop := md_in D.2.1 0 63 ∧ md_in D.2.2.2.1 0 63 ∧ D.2.1 < D.2.2.2.1 ∧ md_in D.2.2.1 0 63 ∧ md_in D.2.2.2.2.1 0 63 ∧ D.2.2.1 < D.2.2.2.2.1
def TS (f : Nat → Nat → Int32) (ap : Nat) (av : Nat → Nat → Int32) (dv : Nat → ds_D) : Prop := ∀ a, a < ap → (∀ d k, md_stood f a d k ↔ aS (av a) d k) ∧ f 23 a = (dv a).1 ∧ f 24 a = (dv a).2.1 ∧ f 25 a = (dv a).2.2.1 ∧ f 26 a = (dv a).2.2.2.1 ∧ f 27 a = (dv a).2.2.2.2.1 ∧ dsR (dv a)
theorem dsV.R {pl : Nat} {D : ds_D} (h : dsV pl D) : dsR D := ⟨h.2.1, h.2.2.1, h.2.2.2.1, h.2.2.2.2.1, h.2.2.2.2.2.1, h.2.2.2.2.2.2.1⟩
theorem TA.S {f : Nat → Nat → Int32} {pl ap : Nat} {av : Nat → Nat → Int32} {dv : Nat → ds_D} (h : TA f pl ap av dv) : TS f ap av dv := fun a ha => by
  have k := h.1 a ha
  exact ⟨t_stood k, k.1.1, k.1.2.1, k.1.2.2.1, k.1.2.2.2.1, k.1.2.2.2.2.1, k.1.2.2.2.2.2.2.2.R⟩
theorem area_b {D : ds_D} (h : dsR D) : ∃ v : Int, bs (ds_area D) v 3969 := ⟨_, bs_mul (bs_d h.2.1 h.1) (bs_d h.2.2.2.2.1 h.2.2.2.1) (by omega)⟩
theorem t_cov {f : Nat → Nat → Int32} {ap : Nat} {av : Nat → Nat → Int32} {dv : Nat → ds_D} (h : TS f ap av dv) {r : Nat} (d k base : Int32) : ∀ a, a ≤ ap → md_cov f r d k base a = cs_cov av dv (nI r) d k base a
  | 0, _ => rfl
  | a + 1, ha => by
    obtain ⟨h1, h2, h3, h4, h5, h6, -⟩ := h a (by omega)
    rw [md_cov, cs_cov, t_cov h d k base a (by omega), h2, h3, h4, h5, h6, pB_congr (and_congr_right (fun _ => h1 d k))]
    rfl
theorem cov_b {av : Nat → Nat → Int32} {dv : Nat → ds_D} {q d k base : Int32} (hb : ∃ v : Int, bs base v 3969) : ∀ a, a ≤ 40 → (∀ i, i < a → dsR (dv i)) → ∃ v : Int, bs (cs_cov av dv q d k base a) v (3969 * ((a : Int) + 1))
  | 0, _, _ => by
    obtain ⟨v, hv⟩ := hb
    exact ⟨v, hv⟩
  | a + 1, ha, hd => by
    obtain ⟨v, hv⟩ := cov_b hb a (by omega) (fun i hi => hd i (by omega))
    obtain ⟨w, hw⟩ := area_b (hd a (by omega))
    rw [cs_cov]
    by_cases c1 : (dv a).1 = q ∧ aS (av a) d k
    · rw [pB_t c1, if_pos rfl]
      exact ⟨_, bs_w (bs_add hv hw (by omega)) (by omega)⟩
    · rw [pB_f c1, if_neg (by decide)]
      exact ⟨v, bs_w hv (by omega)⟩
theorem sum_b {R : rg_R} (hR : RgB R) : ∀ m, m ≤ R.2.2 → m ≤ 8 → ∃ v : Int, bs (rg_sum (rg_ar2 R) m) v (7938 * (m : Int))
  | 0, _, _ => ⟨0, bs_0⟩
  | m + 1, h1, h2 => by
    obtain ⟨v, hv⟩ := sum_b hR m (by omega) (by omega)
    have hm : (m + 1) % R.2.2 < R.2.2 := Nat.mod_lt _ (by omega)
    have a1 := in63 (hR m (by omega)).1
    have a2 := in63 (hR m (by omega)).2
    have a3 := in63 (hR _ hm).1
    have a4 := in63 (hR _ hm).2
    have k := bs_sub (bs_mul (bs_n a1) (bs_n a4) (by omega)) (bs_mul (bs_n a3) (bs_n a2) (by omega)) (by omega)
    rw [rg_sum]
    exact ⟨_, bs_w (bs_add hv k (by omega)) (by omega)⟩
theorem t_zo {f : Nat → Nat → Int32} {pn : Nat} {pf pk : Nat → Int32} {zc : Nat → Nat} {zz : Nat → Nat → zr} (h : TP f pn pf pk zc zz) {r : Nat} (hr : r < 16) (d k : Int32) : md_zo f pn zc r d k = (cs_zo pn pf pk zc zz (nI r) d k).map (fun x => 8 * x.1 + x.2) := by
  unfold md_zo cs_zo
  rw [t_bst h]
  cases hb : bst (cs_plP pf pk d k) pf pn with
  | none => rfl
  | some i =>
    show md_zoneO f i (zc i) r = ((fst (cs_znP (zz i) (nI r)) (zc i)).map (fun z => (i, z))).map (fun x => 8 * x.1 + x.2)
    rw [md_zoneO, t_fst h (bst_some hb).1 hr]
    cases fst (cs_znP (zz i) (nI r)) (zc i) <;> rfl
theorem zo_in {pn : Nat} {pf pk : Nat → Int32} {zc : Nat → Nat} {zz : Nat → Nat → zr} {q d k : Int32} {x : Nat × Nat} (h : cs_zo pn pf pk zc zz q d k = some x) : x.1 < pn ∧ x.2 < zc x.1 := by
  unfold cs_zo at h
  cases hb : bst (cs_plP pf pk d k) pf pn with
  | none => rw [hb] at h; cases h
  | some i =>
    rw [hb] at h
    have h2 : (fst (cs_znP (zz i) q) (zc i)).map (fun z => (i, z)) = some x := h
    cases hf : fst (cs_znP (zz i) q) (zc i) with
    | none => rw [hf] at h2; cases h2
    | some z =>
      rw [hf] at h2
      cases h2
      exact ⟨(bst_some hb).1, (fst_some hf).1⟩
section RUL
variable {f : Nat → Nat → Int32} {pl ap z r : Nat} {Rg : Nat → rg_R} {av : Nat → Nat → Int32} {dv : Nat → ds_D} {D : ds_D} {rr : zr}
theorem in_nat {v : Int32} {n : Nat} (hn : n < 2 ^ 31) (h : md_in v 0 (nI n)) : ∃ u, u ≤ n ∧ v = nI u := nI_of2 (x := v) (M := nI n) (n := n) (nI_toInt hn) (i_nlt.mpr h.1) h.2
theorem t_len {ht t y1 : Int32} (h1 : md_in ht 1 40) (h2 : md_in t 0 999) (h3 : md_in y1 0 63) : y1 < y1 + ht * t / 10 ↔ 0 < ht * t / 10 := by
  obtain ⟨a, ha, rfl⟩ := in_nat (n := 40) (by omega) (show md_in ht 0 (nI 40) from ⟨i_nlt.mp (fun z => absurd ((i_lt _ _).mp z) (by have := (i_le _ _).mp h1.1; have e1 : (1 : Int32).toInt = 1 := rfl; have e0 : (0 : Int32).toInt = 0 := rfl; omega)), h1.2⟩)
  obtain ⟨b, hb, rfl⟩ := in_nat (n := 999) (by omega) h2
  obtain ⟨c0, hc, rfl⟩ := in_nat (n := 63) (by omega) h3
  have hab : a * b ≤ 40 * 999 := Nat.mul_le_mul ha hb
  have e : nI a * nI b / 10 = nI (a * b / 10) := by
    rw [pk_mul]
    exact pk_div (a := a * b) (d := 10) (by omega) (by omega) (by omega)
  rw [e, nI_add, nI_ltI (by omega) (by omega), show (0 : Int32) = nI 0 from rfl, nI_ltI (by omega) (by omega)]
  omega
theorem t_s8 (hS : TS f ap av dv) (hz : zAt f z rr) (hzB : zrB rr) (hD : dsV pl D) (e : D.1 = nI r) (d k : Int32) : md_s8 f ap r z D.2.1 D.2.2.1 D.2.2.2.1 D.2.2.2.2.1 D.2.2.2.2.2.1 D.2.2.2.2.2.2 d k = cs_s8 ap av dv D (zrv rr) d k := by
  unfold md_s8 cs_s8
  have e5 : f 20 (4 * z + 3) = zrv rr 5 := hz.2.2 3 (by omega)
  rw [pB_congr]
  constructor
  · rintro ⟨a, ha, h1, h2, h3⟩
    obtain ⟨g1, g2, g3, g4, g5, g6, -⟩ := hS a ha
    unfold md_meets md_shade at h3
    by_cases c1 : zrv rr 5 = -1
    · rw [e5, pB_t c1, if_pos rfl] at h3
      have := h3.2.1
      rw [Int32.add_zero] at this
      exact absurd this (Int32.lt_irrefl)
    · have hr5 := (hzB 3 (by omega)).resolve_left c1
      rw [e5, pB_f c1, if_neg (by decide), g3, g4, g5, g6] at h3
      refine ⟨c1, a, ha, by rw [← g2, e]; exact h1, (g1 d k).mp h2, (t_len hD.2.2.2.2.2.2.2.1 hr5 hD.2.2.2.2.2.1).mp h3.2.1, h3.2.2.1, h3.2.2.2.1, h3.2.2.2.2.1, h3.2.2.2.2.2⟩
  · rintro ⟨c1, a, ha, h1, h2, h3⟩
    obtain ⟨g1, g2, g3, g4, g5, g6, -⟩ := hS a ha
    have hr5 := (hzB 3 (by omega)).resolve_left c1
    refine ⟨a, ha, by rw [g2, ← e]; exact h1, (g1 d k).mpr h2, ?_⟩
    unfold md_meets md_shade
    rw [e5, pB_f c1, if_neg (by decide), g3, g4, g5, g6]
    exact ⟨hD.2.2.2.1, (t_len hD.2.2.2.2.2.2.2.1 hr5 hD.2.2.2.2.2.1).mpr h3.1, h3.2.1, h3.2.2.1, h3.2.2.2.1, h3.2.2.2.2⟩
theorem t_s7 (hS : TS f ap av dv) (hz : zAt f z rr) (hzB : zrB rr) (hD : dsV pl D) (e : D.1 = nI r) (d k : Int32) : md_s7 f ap r z D.2.1 D.2.2.1 D.2.2.2.1 D.2.2.2.2.1 D.2.2.2.2.2.1 D.2.2.2.2.2.2 d k = cs_s7 ap av dv D (zrv rr) d k := by
  unfold md_s7 cs_s7
  rw [t_s8 hS hz hzB hD e, pB_congr (show (∃ a, a < ap ∧ md_stood f a d k ∧ md_meets f a D.2.1 D.2.2.1 D.2.2.2.1 D.2.2.2.2.1) ↔ (∃ i, i < ap ∧ cs_stP av dv D d k i) from ?_)]
  constructor
  · rintro ⟨a, ha, h2, h3⟩
    obtain ⟨g1, g2, g3, g4, g5, g6, -⟩ := hS a ha
    unfold md_meets at h3
    rw [g3, g4, g5, g6] at h3
    exact ⟨a, ha, (g1 d k).mp h2, h3.2.2⟩
  · rintro ⟨a, ha, h2, h3⟩
    obtain ⟨g1, g2, g3, g4, g5, g6, -⟩ := hS a ha
    refine ⟨a, ha, (g1 d k).mpr h2, ?_⟩
    unfold md_meets
    rw [g3, g4, g5, g6]
    exact ⟨hD.2.2.2.1, hD.2.2.2.2.2.2.1, h3⟩
theorem t_s6 (hR : TR f pl Rg) (hr : r < pl) (hin : cs_in (Rg r) D) (hS : TS f ap av dv) (hz : zAt f z rr) (hzB : zrB rr) (hD : dsV pl D) (e : D.1 = nI r) (d k : Int32) : md_s6 f ap r (Rg r).2.2 z D.2.1 D.2.2.1 D.2.2.2.1 D.2.2.2.2.1 D.2.2.2.2.2.1 D.2.2.2.2.2.2 d k = cs_s6 ap av dv (Rg r) D (zrv rr) d k := by
  unfold md_s6 cs_s6
  have e4 : f 20 (4 * z + 2) = zrv rr 4 := hz.2.2 2 (by omega)
  rw [t_s7 hS hz hzB hD e, e4, pB_congr (show (zrv rr 4 ≠ -1 ∧ md_tight (md_rg f r (Rg r).2.2) D.2.1 D.2.2.1 D.2.2.2.1 D.2.2.2.2.1 (zrv rr 4).toInt64) ↔ (zrv rr 4 ≠ -1 ∧ cs_tig (Rg r) D (zrv rr 4)) from and_congr_right (fun c1 => ?_))]
  have hr4 := (hzB 2 (by omega)).resolve_left c1
  rw [← rgE_tight (hR.E (by omega))]
  exact tight_cg (hR.1 r (by omega)).2.1 (hR.2 r hr).2 hD.2.1 hD.2.2.1 hD.2.2.2.2.1 hD.2.2.2.2.2.1 hD.2.2.2.1 hD.2.2.2.2.2.2.1 hr4 hin
theorem t_s5 (hap : ap ≤ 40) (hR : TR f pl Rg) (hr : r < pl) (hin : cs_in (Rg r) D) (hS : TS f ap av dv) (hz : zAt f z rr) (hzB : zrB rr) (hD : dsV pl D) (e : D.1 = nI r) (d k : Int32) : md_s5 f ap r (Rg r).2.2 z D.2.1 D.2.2.1 D.2.2.2.1 D.2.2.2.2.1 D.2.2.2.2.2.1 D.2.2.2.2.2.2 d k = cs_s5 ap av dv (Rg r) D (zrv rr) d k := by
  unfold md_s5 cs_s5
  have e3 : f 20 (4 * z + 1) = zrv rr 3 := hz.2.2 1 (by omega)
  rw [t_s6 hR hr hin hS hz hzB hD e, e3, t_cov hS d k _ ap (Nat.le_refl ap), ← rgE_area (hR.E (i := r) (by omega)), ← e,
    pB_congr (show (zrv rr 3 ≠ -1 ∧ (zrv rr 3).toInt64 * (rg_sum (rg_ar2 (Rg r)) (Rg r).2.2).toInt64 < 200 * (cs_cov av dv D.1 d k ((D.2.2.2.1 - D.2.1) * (D.2.2.2.2.1 - D.2.2.1)) ap).toInt64) ↔ (zrv rr 3 ≠ -1 ∧ zrv rr 3 * rg_sum (rg_ar2 (Rg r)) (Rg r).2.2 < 200 * cs_cov av dv D.1 d k (ds_area D) ap) from and_congr_right (fun c1 => ?_))]
  have hr3 := (hzB 1 (by omega)).resolve_left c1
  have h8 := (hR.1 r (by omega)).2.2
  obtain ⟨va, ba⟩ := sum_b (hR.1 r (by omega)).2.1 (Rg r).2.2 (Nat.le_refl _) h8
  obtain ⟨vc, bc⟩ := cov_b (av := av) (q := D.1) (d := d) (k := k) (area_b hD.R) ap hap (fun i hi => (hS i hi).2.2.2.2.2.2)
  have b3 : bs (zrv rr 3) (zrv rr 3).toInt 999 := bs_n ⟨(i_le _ _).mp hr3.1, (i_le _ _).mp hr3.2⟩
  have ba := bs_w (B := 63504) ba (by omega)
  have bc := bs_w (B := 162729) bc (by omega)
  have b200 : bs 200 200 200 := ⟨rfl, by omega, by omega⟩
  have d200 : bd 200 200 200 := ⟨rfl, by omega, by omega⟩
  show (zrv rr 3).toInt64 * (rg_sum (rg_ar2 (Rg r)) (Rg r).2.2).toInt64 < 200 * (cs_cov av dv D.1 d k (ds_area D) ap).toInt64 ↔ _
  rw [bd_lt (bd_mul (bs_64 b3) (bs_64 ba) (by omega)) (bd_mul d200 (bs_64 bc) (by omega)), bs_lt (bs_mul b3 ba (by omega)) (bs_mul b200 bc (by omega))]
theorem t_s3 (hap : ap ≤ 40) (hR : TR f pl Rg) (hr : r < pl) (hin : cs_in (Rg r) D) (hS : TS f ap av dv) (hz : zAt f z rr) (hzB : zrB rr) (hD : dsV pl D) (e : D.1 = nI r) (d k : Int32) : md_s3 f ap r (Rg r).2.2 z D.2.1 D.2.2.1 D.2.2.2.1 D.2.2.2.2.1 D.2.2.2.2.2.1 D.2.2.2.2.2.2 d k = cs_s3 ap av dv (Rg r) D (zrv rr) d k := by
  unfold md_s3 cs_s3 md_s4 cs_s4
  have e2 : f 20 (4 * z) = zrv rr 2 := hz.2.2 0 (by omega)
  have e1 : f 19 z = zrv rr 1 := hz.2.1
  obtain ⟨u, hu, eu⟩ := in_nat (n := 7) (by omega) hD.2.2.2.2.2.2.2.2
  rw [t_s5 hap hR hr hin hS hz hzB hD e, e1, e2, eu]
  by_cases c1 : zrv rr 1 &&& btO (nI u) = 0
  · rw [pB_t ((bit_n (by omega)).mpr c1), pB_f (show ¬ ¬ zrv rr 1 &&& btO (nI u) = 0 from fun y => y c1)]
    rfl
  · rw [pB_f (show ¬ zrv rr 1 >>> (nI u &&& 31) &&& 1 = 0 from fun y => c1 ((bit_n (by omega)).mp y)), pB_t c1]
    rfl
end RUL
theorem t_rule {f : Nat → Nat → Int32} {pl ap pn r : Nat} {Rg : Nat → rg_R} {pf pk : Nat → Int32} {zc : Nat → Nat} {zz : Nat → Nat → zr} {av : Nat → Nat → Int32} {dv : Nat → ds_D} {D : ds_D} (hpl : pl ≤ 12) (hap : ap ≤ 40) (hR : TR f pl Rg) (hP : TP f pn pf pk zc zz) (hS : TS f ap av dv) (hr : r < pl) (hD : dsV pl D) (e : D.1 = nI r) (d k : Int32) : md_broken f pn ap zc r (Rg r).2.2 D.2.1 D.2.2.1 D.2.2.2.1 D.2.2.2.2.1 D.2.2.2.2.2.1 D.2.2.2.2.2.2 d k = cs_rule pn pf pk zc zz ap av dv (Rg r) D d k := by
  unfold md_broken cs_rule
  rw [pB_congr (show (∃ i, i < (Rg r).2.2 ∧ md_out (md_rg f r (Rg r).2.2) i D.2.1 D.2.2.1 D.2.2.2.1 D.2.2.2.2.1) ↔ ¬ cs_in (Rg r) D from out_in (hR.E (i := r) (by omega)) D)]
  by_cases hin : cs_in (Rg r) D
  · rw [pB_f (fun y => y hin), pB_t hin, if_neg (by decide), if_pos rfl, t_zo hP (by omega), e]
    cases hz : cs_zo pn pf pk zc zz (nI r) d k with
    | none => rfl
    | some x =>
      have hx := zo_in hz
      have hq := (hP x.1 hx.1).2.2.2.2 x.2 hx.2
      exact t_s3 hap hR hr hin hS hq.1 hq.2 hD e d k
  · rw [pB_t hin, pB_f hin]
    rfl
theorem des_cg {pl : Nat} (hpl : pl ≤ 12) (q x0 y0 x1 y1 ht us : Int32) : (md_in q 0 (nI pl - 1) ∧ md_design x0 y0 x1 y1 ht us) ↔ cs_des pl q x0 y0 x1 y1 ht us := by
  rw [← isAt_in (by omega)]
  unfold md_design cs_des
  constructor
  · rintro ⟨a, b1, k2_, b3, b4, b5, b6, b7, b8⟩
    exact ⟨a, b1, k2_, b5, b3, b4, b6, b7, b8⟩
  · rintro ⟨a, b1, k2_, b3, b4, b5, b6, b7, b8⟩
    exact ⟨a, b1, k2_, b4, b5, b3, b6, b7, b8⟩
theorem t_judge {f : Nat → Nat → Int32} {pl ap pn : Nat} {Rg : Nat → rg_R} {pf pk : Nat → Int32} {zc : Nat → Nat} {zz : Nat → Nat → zr} {av : Nat → Nat → Int32} {dv : Nat → ds_D} (hpl : pl ≤ 12) (hap : ap ≤ 40) (hR : TR f pl Rg) (hP : TP f pn pf pk zc zz) (hS : TS f ap av dv) (q x0 y0 x1 y1 ht us d k : Int32) : md_judge f pl (fun i => (Rg i).2.2) pn ap zc q x0 y0 x1 y1 ht us d k = cs_judge pl Rg pn pf pk zc zz ap av dv q x0 y0 x1 y1 ht us d k := by
  unfold md_judge cs_judge
  by_cases c1 : cs_des pl q x0 y0 x1 y1 ht us ∧ md_in d 0 9999 ∧ md_in k 0 9999
  · have k1 := (des_cg hpl q x0 y0 x1 y1 ht us).mpr c1.1
    rw [pB_t c1, pB_t (show md_in q 0 (nI pl - 1) ∧ md_design x0 y0 x1 y1 ht us ∧ md_in d 0 9999 ∧ md_in k 0 9999 from ⟨k1.1, k1.2, c1.2⟩), if_pos rfl, if_pos rfl]
    obtain ⟨r, hr, e⟩ := c1.1.1
    have en : q.toNatClampNeg = r := by rw [e]; exact nI_clamp (by omega)
    rw [en]
    exact t_rule (D := (q, x0, y0, x1, y1, ht, us)) hpl hap hR hP hS hr c1.1 e d k
  · rw [pB_f c1, pB_f (fun y => c1 ⟨(des_cg hpl q x0 y0 x1 y1 ht us).mp ⟨y.1, y.2.1⟩, y.2.2⟩)]
    rfl
