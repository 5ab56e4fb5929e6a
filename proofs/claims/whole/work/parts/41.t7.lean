/-! ===== applications that change; plans ===== -/
theorem vu {f : Nat → Nat → Int32} {k' i : Nat} {x : Int32} (k a : Nat) (ha : a ≠ i) : va_up f k' (upd (f k') i x) k a = f k a := by
  by_cases e : k = k'
  · subst e
    rw [va_up_self, pk_un ha]
  · rw [va_up_ne _ _ e]
theorem TA.upd {f f2 : Nat → Nat → Int32} {pl ap i : Nat} {av : Nat → Nat → Int32} {dv : Nat → ds_D} {v : Nat → Int32} (h : TA f pl ap av dv) (hi : i < ap) (e : ∀ k, k ≤ 39 → ∀ a, a ≠ i → f2 k a = f k a) (e40 : ∀ a, a ≠ i → ∀ r, r < 12 → f2 40 (12 * a + r) = f 40 (12 * a + r)) (h1 : TA1 f2 pl i v (dv i)) : TA f2 pl ap (va_up av i v) dv := by
  refine ⟨fun a ha => ?_, fun a ha => ?_⟩
  · by_cases ea : a = i
    · subst ea
      rw [va_up_self]
      exact h1
    · rw [va_up_ne _ _ ea]
      have k := h.1 a ha
      unfold TA1 at k ⊢
      rw [e 23 (by omega) a ea, e 24 (by omega) a ea, e 25 (by omega) a ea, e 26 (by omega) a ea, e 27 (by omega) a ea, e 28 (by omega) a ea, e 29 (by omega) a ea, e 30 (by omega) a ea, e 31 (by omega) a ea, e 32 (by omega) a ea, e 33 (by omega) a ea, e 34 (by omega) a ea, e 35 (by omega) a ea, e 36 (by omega) a ea, e 37 (by omega) a ea, e 38 (by omega) a ea, e 39 (by omega) a ea]
      obtain ⟨k1, k2_, k3, k4, k5⟩ := k
      exact ⟨k1, k2_, k3, k4, fun r hr => by rw [e40 a ea r hr]; exact k5 r hr⟩
  · have ea : a ≠ i := by omega
    obtain ⟨k1, k2_, k3, k4, k5⟩ := h.2 a ha
    exact ⟨(e 31 (by omega) a ea).trans k1, (e 32 (by omega) a ea).trans k2_, (e 33 (by omega) a ea).trans k3, (e 39 (by omega) a ea).trans k4, fun r hr => (e40 a ea r hr).trans (k5 r hr)⟩
theorem aH_1 {v : Nat → Int32} {td c0 : Int32} (h : aH v td = c0) (h5 : c0 ≠ 5) : v 2 = c0 := by
  unfold aH at h
  by_cases c1 : v 2 = 1 ∧ v 6 + 400 < td ∨ v 2 = 3 ∧ v 7 + 300 < td
  · rw [pB_t c1, if_pos rfl] at h
    exact absurd h.symm h5
  · rw [pB_f c1, if_neg (by decide)] at h
    exact h
theorem m1_ne {td : Int32} (h : md_in td 0 9999) : td ≠ -1 := fun z => by
  rw [z] at h
  exact absurd h.1 (by decide)
theorem pr_build (l : Launch) (X : mp_X) (G : mp_G) (A : Nat → Prop) (M : mp_M) (bq h : Nat) (hI : INV G X M bq h) (q : Int32) : mp_Met l X G A yX7_build wsX7_build rmX7_build ([.ref bq, .int q] : List Value) M (PR l X G A bq h yX8_build wsX8_build rmX8_build ([.ref h, .int q] : List Value)) 0 0 := by
  obtain ⟨ad, n, f, l0, l1, l2, l3, tp, tz, td, fl, tt, pl, ra, Rg, pn, pa, pf, pk, zc, zz, ap, aa, dq, av, dv, nh, ah, vh, hM, h92, hB, hT⟩ := id hI
  have hb9 := hB.b
  obtain ⟨hN, hR, hP, hA, hH⟩ := id hT
  obtain ⟨⟨n0, n0r⟩, n1, n2_, n3, n4, n5, n11, n14, f9, hby⟩ := id hN
  refine (c_X7_build l X G A M bq l0 l1 l2 l3 tp tz td fl tt pl ra Rg pn pa pf pk zc zz ap aa dq av dv nh ah vh hB q).imp1 (fun v M1 hp => ?_)
  rcases hp with ⟨i, hi, eq, e1, hB1, hF⟩ | ⟨nq, e1, e2⟩
  · rw [e1]
    have h1 := hA.1 i hi
    have hh := t_how h1 n0
    have ok : md_appOK ap q := (isAt_in (by omega)).mp ⟨i, hi, eq⟩
    have en : q.toNatClampNeg = i := by rw [eq]; exact nI_clamp (by omega)
    refine pr_ref (md_keep hM hF) (c_X8_build l X G A M1 h ad n f ap n4 (by omega) q) (fun v2 M2 hq => ?_)
    rw [hq.1, hq.2, md_buildR, md_buildF, pB_t ok, if_pos rfl, if_pos rfl, en, hh]
    refine ⟨rfl, ?_⟩
    obtain ⟨g, ⟨v1, v1r, v2_, v5, v4, v6, v7, v8, v10, v11, v9⟩, w1, w2, w3⟩ := h1
    by_cases c1 : aH (av i) td = 1
    · have s2 := aH_1 c1 (by decide)
      have hB1 : BN G X M1 bq l0 l1 l2 l3 tp tz td fl tt pl ra Rg pn pa pf pk zc zz ap aa dq (va_up av i (upd (upd (av i) 2 3) 7 td)) dv nh ah vh := by have z := hB1; rw [cs_bldV, if_pos c1] at z; exact z
      rw [if_pos c1]
      refine INV.mk2 ((hF _ rfl).trans h92) hB1 ⟨hN, hR.congr rfl rfl rfl, hP.congr rfl rfl rfl rfl rfl rfl, hA.upd hi (fun k _ a ha => (vu k a ha).trans (vu k a ha)) (fun a _ r _ => rfl) ⟨g, ⟨v1, v1r, pk_us, v5, v4, v6, pk_us.trans n0, v8, v10, v11, v9⟩, ⟨fun z => absurd z (show ¬ (3 : Int32) = 4 by decide), fun z => absurd (w1.mpr z) (by rw [s2]; decide)⟩, fun z => absurd z (show ¬ (3 : Int32) = 0 by decide), w3⟩, hH.congr rfl rfl rfl rfl⟩
    · by_cases c3 : aH (av i) td = 3
      · have s2 := aH_1 c3 (by decide)
        have hB1 : BN G X M1 bq l0 l1 l2 l3 tp tz td fl tt pl ra Rg pn pa pf pk zc zz ap aa dq (va_up av i (upd (upd (av i) 2 4) 8 td)) dv nh ah vh := by have z := hB1; rw [cs_bldV, if_neg c1, if_pos c3] at z; exact z
        rw [if_neg c1, if_pos c3]
        refine INV.mk2 ((hF _ rfl).trans h92) hB1 ⟨hN, hR.congr rfl rfl rfl, hP.congr rfl rfl rfl rfl rfl rfl, hA.upd hi (fun k _ a ha => (vu k a ha).trans (vu k a ha)) (fun a _ r _ => rfl) ⟨g, ⟨v1, v1r, pk_us, v5, v4, v6, v7, pk_us.trans n0, v10, v11, v9⟩, ⟨fun _ => m1_ne n0r, fun _ => rfl⟩, fun z => absurd z (show ¬ (4 : Int32) = 0 by decide), w3⟩, hH.congr rfl rfl rfl rfl⟩
      · have hB1 : BN G X M1 bq l0 l1 l2 l3 tp tz td fl tt pl ra Rg pn pa pf pk zc zz ap aa dq (va_up av i (av i)) dv nh ah vh := by have z := hB1; rw [cs_bldV, if_neg c1, if_neg c3] at z; exact z
        rw [if_neg c1, if_neg c3]
        exact INV.mk2 ((hF _ rfl).trans h92) hB1 ⟨hN, hR, hP, hA.upd hi (fun _ _ _ _ => rfl) (fun _ _ _ _ => rfl) ⟨g, ⟨v1, v1r, v2_, v5, v4, v6, v7, v8, v10, v11, v9⟩, w1, w2, w3⟩, hH⟩
  · rw [e1, e2]
    have ok : ¬ md_appOK ap q := fun z => nq ((isAt_in (by omega)).mpr z)
    refine pr_no hI hM (c_X8_build l X G A M h ad n f ap n4 (by omega) q) (fun v2 M2 hq => ?_)
    rw [hq.1, hq.2, md_buildR, md_buildF, pB_f ok]
    exact ⟨rfl, rfl⟩
theorem pr_raze (l : Launch) (X : mp_X) (G : mp_G) (A : Nat → Prop) (M : mp_M) (bq h : Nat) (hI : INV G X M bq h) (q w : Int32) : mp_Met l X G A yX7_raze wsX7_raze rmX7_raze ([.ref bq, .int q, .int w] : List Value) M (PR l X G A bq h yX8_raze wsX8_raze rmX8_raze ([.ref h, .int q, .int w] : List Value)) 0 0 := by
  obtain ⟨ad, n, f, l0, l1, l2, l3, tp, tz, td, fl, tt, pl, ra, Rg, pn, pa, pf, pk, zc, zz, ap, aa, dq, av, dv, nh, ah, vh, hM, h92, hB, hT⟩ := id hI
  have hb9 := hB.b
  obtain ⟨hN, hR, hP, hA, hH⟩ := id hT
  obtain ⟨⟨n0, n0r⟩, n1, n2_, n3, n4, n5, n11, n14, f9, hby⟩ := id hN
  refine (c_X7_raze l X G A M bq l0 l1 l2 l3 tp tz td fl tt pl ra Rg pn pa pf pk zc zz ap aa dq av dv nh ah vh hB q w).imp1 (fun v M1 hp => ?_)
  rcases hp with ⟨i, hi, eq, hw, e1, hB1, hF⟩ | ⟨nq, e1, e2⟩
  · rw [e1]
    have en : q.toNatClampNeg = i := by rw [eq]; exact nI_clamp (by omega)
    obtain ⟨g, ⟨v1, v1r, v2_, v5, v4, v6, v7, v8, v10, v11, v9⟩, w1, w2, w3⟩ := hA.1 i hi
    have e : md_razeOK n f ap q w ↔ cs_rzP (av i) w := by
      unfold md_razeOK cs_rzP
      rw [← isAt_in (by omega), en, v8, v10, n0]
      exact ⟨fun z => ⟨w1.mpr z.2.1, z.2.2.1, z.2.2.2.2⟩, fun z => ⟨⟨i, hi, eq⟩, w1.mp z.1, z.2.1, hw, z.2.2⟩⟩
    refine pr_ref (md_keep hM hF) (c_X8_raze l X G A M1 h ad n f ap n4 (by omega) q w) (fun v2 M2 hq => ?_)
    rw [hq.1, hq.2, pB_congr e]
    refine ⟨rfl, ?_⟩
    by_cases c1 : cs_rzP (av i) w
    · have hB1 : BN G X M1 bq l0 l1 l2 l3 tp tz td fl tt pl ra Rg pn pa pf pk zc zz ap aa dq (va_up av i (upd (upd (av i) 10 w) 11 td)) dv nh ah vh := by have z := hB1; rw [cs_rzV, pB_t c1, if_pos rfl] at z; exact z
      rw [md_razeF, pB_t (e.mpr c1), if_pos rfl, en]
      exact INV.mk2 ((hF _ rfl).trans h92) hB1 ⟨hN, hR.congr rfl rfl rfl, hP.congr rfl rfl rfl rfl rfl rfl, hA.upd hi (fun k _ a ha => (vu k a ha).trans (vu k a ha)) (fun a _ r _ => rfl) ⟨g, ⟨v1, v1r, v2_, v5, v4, v6, v7, v8, pk_us, fun _ => pk_us.trans n0, v9⟩, w1, w2, w3⟩, hH.congr rfl rfl rfl rfl⟩
    · have hB1 : BN G X M1 bq l0 l1 l2 l3 tp tz td fl tt pl ra Rg pn pa pf pk zc zz ap aa dq (va_up av i (av i)) dv nh ah vh := by have z := hB1; rw [cs_rzV, pB_f c1, if_neg (by decide)] at z; exact z
      rw [md_razeF, pB_f (fun z => c1 (e.mp z)), if_neg (by decide)]
      exact INV.mk2 ((hF _ rfl).trans h92) hB1 ⟨hN, hR, hP, hA.upd hi (fun _ _ _ _ => rfl) (fun _ _ _ _ => rfl) ⟨g, ⟨v1, v1r, v2_, v5, v4, v6, v7, v8, v10, v11, v9⟩, w1, w2, w3⟩, hH⟩
  · rw [e1, e2]
    have ok : ¬ md_razeOK n f ap q w := fun z => nq ⟨(isAt_in (by omega)).mpr z.1, by rw [← n0]; exact z.2.2.2.1⟩
    refine pr_no hI hM (c_X8_raze l X G A M h ad n f ap n4 (by omega) q w) (fun v2 M2 hq => ?_)
    rw [hq.1, hq.2, md_razeF, pB_f ok]
    exact ⟨rfl, rfl⟩
def opN (dv : Nat → ds_D) (a : Nat) : Nat := (dv a).1.toNatClampNeg
theorem TA.op {f : Nat → Nat → Int32} {pl ap : Nat} {av : Nat → Nat → Int32} {dv : Nat → ds_D} (h : TA f pl ap av dv) (hpl : pl ≤ 12) : ∀ i, i < ap → (dv i).1 = nI (opN dv i) ∧ opN dv i < pl := fun i hi => by
  obtain ⟨j, hj, e⟩ := (h.1 i hi).1.2.2.2.2.2.2.2.1
  unfold opN
  rw [e, nI_clamp (by omega)]
  exact ⟨rfl, hj⟩
theorem TA.op2 {f : Nat → Nat → Int32} {pl ap : Nat} {av : Nat → Nat → Int32} {dv : Nat → ds_D} (h : TA f pl ap av dv) (hpl : pl ≤ 12) : ∀ a, a < ap → f 23 a = nI (opN dv a) ∧ opN dv a < pl ∧ md_in (f 30 a) 0 9999 := fun a ha => by
  have k := h.op hpl a ha
  have k1 := h.1 a ha
  exact ⟨k1.1.1.trans k.1, k.2, by rw [k1.2.1.1]; exact k1.2.1.2.1⟩
theorem t_mrule {n : Nat → Int32} {f : Nat → Nat → Int32} {pl ap pn i : Nat} {Rg : Nat → rg_R} {pf pk : Nat → Int32} {zc : Nat → Nat} {zz : Nat → Nat → zr} {av av2 : Nat → Nat → Int32} {dv : Nat → ds_D} {td : Int32} (hpl : pl ≤ 12) (hap : ap ≤ 40) (hR : TR f pl Rg) (hP : TP f pn pf pk zc zz) (hA : TA f pl ap av dv) (hS : TS f ap av2 dv) (n0 : n 0 = td) (hi : i < ap) : md_rule n f pn ap zc (fun i => (Rg i).2.2) i (opN dv i) = cs_rule pn pf pk zc zz ap av2 dv (Rg (opN dv i)) (dv i) (av i 1) td := by
  obtain ⟨⟨g1, g2, g3, g4, g5, g6, g7, g8⟩, ⟨v1, -⟩, -⟩ := hA.1 i hi
  have k := hA.op hpl i hi
  unfold md_rule
  rw [g2, g3, g4, g5, g6, g7, v1, n0]
  exact t_rule hpl hap hR hP hS k.2 g8 k.1 (av i 1) td
theorem t_late {v td : Int32} (h : md_in v 0 9999) (h2 : md_in td 0 9999) : v + 31 ≤ td ↔ v + 30 < td := by
  have a : bs v v.toInt 9999 := bs_n ⟨(i_le _ _).mp h.1, (i_le _ _).mp h.2⟩
  have b : bs td td.toInt 9999 := bs_n ⟨(i_le _ _).mp h2.1, (i_le _ _).mp h2.2⟩
  have e31 : bs 31 31 31 := ⟨rfl, by omega, by omega⟩
  have e30 : bs 30 30 30 := ⟨rfl, by omega, by omega⟩
  rw [bs_le (bs_add a e31 (by omega)) b, bs_lt (bs_add a e30 (by omega)) b]
  omega
theorem pr_decide (l : Launch) (X : mp_X) (G : mp_G) (A : Nat → Prop) (M : mp_M) (bq h : Nat) (hI : INV G X M bq h) (q : Int32) : mp_Met l X G A yX7_decide wsX7_decide rmX7_decide ([.ref bq, .int q] : List Value) M (PR l X G A bq h yX8_decide wsX8_decide rmX8_decide ([.ref h, .int q] : List Value)) 0 0 := by
  obtain ⟨ad, n, f, l0, l1, l2, l3, tp, tz, td, fl, tt, pl, ra, Rg, pn, pa, pf, pk, zc, zz, ap, aa, dq, av, dv, nh, ah, vh, hM, h92, hB, hT⟩ := id hI
  have hb9 := hB.b
  obtain ⟨hN, hR, hP, hA, hH⟩ := id hT
  obtain ⟨⟨n0, n0r⟩, n1, n2_, n3, n4, n5, n11, n14, f9, hby⟩ := id hN
  refine (c_X7_decide l X G A M bq l0 l1 l2 l3 tp tz td fl tt pl ra Rg pn pa pf pk zc zz ap aa dq av dv nh ah vh hB (opN dv) (hA.op (by omega)) q).imp1 (fun v M1 hp => ?_)
  rcases hp with ⟨i, hi, eq, hc, e1, hB1, hF⟩ | ⟨nq, e1, e2⟩
  · rw [e1]
    have en : q.toNatClampNeg = i := by rw [eq]; exact nI_clamp (by omega)
    rw [en] at hc
    have hru := t_mrule (n := n) (by omega) (by omega) hR hP hA hA.S n0 hi
    obtain ⟨g, ⟨v1, v1r, v2_, v5, v4, v6, v7, v8, v10, v11, v9⟩, w1, w2, w3⟩ := hA.1 i hi
    have ok : md_decOK n f ap q := ⟨(isAt_in (by omega)).mp ⟨i, hi, eq⟩, by rw [en, v2_]; exact hc.1, by rw [en, v1, n0]; exact (t_late v1r n0r).mpr hc.2⟩
    refine pr_ref (md_keep hM hF) (c_X8_decide l X G A M1 h ad n f pl (fun i => (Rg i).2.2) n1 (by omega) hR.co pn n3 (by omega) zc hP.zm ap n4 (by omega) (opN dv) (hA.op2 (by omega)) (by rw [n0]; exact n0r) q) (fun v2 M2 hq => ?_)
    rw [hq.1, hq.2, pB_t ok, if_pos rfl, if_pos rfl, en, hru, v4]
    refine ⟨rfl, ?_⟩
    show INV G X (md_M G M1 h ad n (md_decF f i (cs_decR (cs_rule pn pf pk zc zz ap av dv (Rg (opN dv i)) (dv i) (av i 1) td) (av i 4)) (n 0))) bq h
    generalize hru2 : cs_decR (cs_rule pn pf pk zc zz ap av dv (Rg (opN dv i)) (dv i) (av i 1) td) (av i 4) = rl at hB1 ⊢
    have s8 : ¬ av i 8 ≠ -1 := fun z => absurd (w1.mpr z) (by rw [hc.1]; decide)
    by_cases c1 : rl = 0
    · have hB1 : BN G X M1 bq l0 l1 l2 l3 tp tz td fl tt pl ra Rg pn pa pf pk zc zz ap aa dq (va_up av i (upd (upd (av i) 2 1) 6 td)) dv nh ah vh := by have z := hB1; rw [cs_decV, if_pos c1] at z; exact z
      rw [md_decF, if_pos c1]
      exact INV.mk2 ((hF _ rfl).trans h92) hB1 ⟨hN, hR.congr rfl rfl rfl, hP.congr rfl rfl rfl rfl rfl rfl, hA.upd hi (fun k _ a ha => (vu k a ha).trans ((vu k a ha).trans (vu k a ha))) (fun a _ r _ => rfl) ⟨g, ⟨v1, v1r, pk_us, (pk_us.trans c1).trans (w2 hc.1).symm, v4, pk_us.trans n0, v7, v8, v10, v11, v9⟩, ⟨fun z => absurd z (show ¬ (1 : Int32) = 4 by decide), fun z => absurd z s8⟩, fun z => absurd z (show ¬ (1 : Int32) = 0 by decide), w3⟩, hH.congr rfl rfl rfl rfl⟩
    · have hB1 : BN G X M1 bq l0 l1 l2 l3 tp tz td fl tt pl ra Rg pn pa pf pk zc zz ap aa dq (va_up av i (upd (upd (upd (av i) 2 2) 5 rl) 6 td)) dv nh ah vh := by have z := hB1; rw [cs_decV, if_neg c1] at z; exact z
      rw [md_decF, if_neg c1]
      exact INV.mk2 ((hF _ rfl).trans h92) hB1 ⟨hN, hR.congr rfl rfl rfl, hP.congr rfl rfl rfl rfl rfl rfl, hA.upd hi (fun k _ a ha => (vu k a ha).trans ((vu k a ha).trans (vu k a ha))) (fun a _ r _ => rfl) ⟨g, ⟨v1, v1r, pk_us, pk_us, v4, pk_us.trans n0, v7, v8, v10, v11, v9⟩, ⟨fun z => absurd z (show ¬ (2 : Int32) = 4 by decide), fun z => absurd z s8⟩, fun z => absurd z (show ¬ (2 : Int32) = 0 by decide), w3⟩, hH.congr rfl rfl rfl rfl⟩
  · rw [e1, e2]
    have ok : ¬ md_decOK n f ap q := fun z => nq (by
      obtain ⟨i, hi, eq⟩ := (isAt_in (by omega)).mpr z.1
      have en : q.toNatClampNeg = i := by rw [eq]; exact nI_clamp (by omega)
      obtain ⟨-, ⟨v1, v1r, v2_, -⟩, -⟩ := hA.1 i hi
      have z2 := z.2
      rw [en, v2_, v1, n0] at z2
      rw [en]
      exact ⟨⟨i, hi, eq⟩, z2.1, (t_late v1r n0r).mp z2.2⟩)
    refine pr_no hI hM (c_X8_decide l X G A M h ad n f pl (fun i => (Rg i).2.2) n1 (by omega) hR.co pn n3 (by omega) zc hP.zm ap n4 (by omega) (opN dv) (hA.op2 (by omega)) (by rw [n0]; exact n0r) q) (fun v2 M2 hq => ?_)
    rw [hq.1, hq.2, pB_f ok]
    exact ⟨rfl, rfl⟩
theorem pr_appeal (l : Launch) (X : mp_X) (G : mp_G) (A : Nat → Prop) (M : mp_M) (bq h : Nat) (hI : INV G X M bq h) (q : Int32) : mp_Met l X G A yX7_appeal wsX7_appeal rmX7_appeal ([.ref bq, .int q] : List Value) M (PR l X G A bq h yX8_appeal wsX8_appeal rmX8_appeal ([.ref h, .int q] : List Value)) 0 0 := by
  obtain ⟨ad, n, f, l0, l1, l2, l3, tp, tz, td, fl, tt, pl, ra, Rg, pn, pa, pf, pk, zc, zz, ap, aa, dq, av, dv, nh, ah, vh, hM, h92, hB, hT⟩ := id hI
  have hb9 := hB.b
  obtain ⟨hN, hR, hP, hA, hH⟩ := id hT
  obtain ⟨⟨n0, n0r⟩, n1, n2_, n3, n4, n5, n11, n14, f9, hby⟩ := id hN
  refine (c_X7_appeal l X G A M bq l0 l1 l2 l3 tp tz td fl tt pl ra Rg pn pa pf pk zc zz ap aa dq av dv nh ah vh hB (opN dv) (hA.op (by omega)) q).imp1 (fun v M1 hp => ?_)
  rcases hp with ⟨i, hi, eq, hc, e1, hB1, hF⟩ | ⟨nq, e1, e2⟩
  · rw [e1]
    have en : q.toNatClampNeg = i := by rw [eq]; exact nI_clamp (by omega)
    rw [en] at hc
    have hS2 : TS f ap (va_up av i (upd (av i) 9 1)) dv := fun a ha => by
      by_cases ea : a = i
      · subst ea
        rw [va_up_self]
        exact hA.S a ha
      · rw [va_up_ne _ _ ea]
        exact hA.S a ha
    have hru := t_mrule (n := n) (by omega) (by omega) hR hP hA hS2 n0 hi
    obtain ⟨g, ⟨v1, v1r, v2_, v5, v4, v6, v7, v8, v10, v11, v9⟩, w1, w2, w3⟩ := hA.1 i hi
    have ok : md_aplOK n f ap q := ⟨(isAt_in (by omega)).mp ⟨i, hi, eq⟩, by rw [en, v2_]; exact hc.1, by rw [en, v9]; exact hc.2.1, by rw [en, v6, n0]; exact hc.2.2⟩
    refine pr_ref (md_keep hM hF) (c_X8_appeal l X G A M1 h ad n f pl (fun i => (Rg i).2.2) n1 (by omega) hR.co pn n3 (by omega) zc hP.zm ap n4 (by omega) (opN dv) (hA.op2 (by omega)) (by rw [n0]; exact n0r) q) (fun v2 M2 hq => ?_)
    rw [hq.1, hq.2, pB_t ok, if_pos rfl, if_pos rfl, en, hru]
    refine ⟨rfl, ?_⟩
    generalize hru2 : cs_rule pn pf pk zc zz ap (va_up av i (upd (av i) 9 1)) dv (Rg (opN dv i)) (dv i) (av i 1) td = rl at hB1 ⊢
    have s8 : ¬ av i 8 ≠ -1 := fun z => absurd (w1.mpr z) (by rw [hc.1]; decide)
    by_cases c1 : rl = 0
    · have hB1 : BN G X M1 bq l0 l1 l2 l3 tp tz td fl tt pl ra Rg pn pa pf pk zc zz ap aa dq (va_up av i (upd (upd (upd (av i) 9 1) 2 1) 6 td)) dv nh ah vh := by have z := hB1; rw [cs_aplV, if_pos c1] at z; exact z
      rw [md_aplF, if_pos c1]
      exact INV.mk2 ((hF _ rfl).trans h92) hB1 ⟨hN, hR.congr rfl rfl rfl, hP.congr rfl rfl rfl rfl rfl rfl, hA.upd hi (fun k _ a ha => (vu k a ha).trans ((vu k a ha).trans (vu k a ha))) (fun a _ r _ => rfl) ⟨g, ⟨v1, v1r, pk_us, v5, v4, pk_us.trans n0, v7, v8, v10, v11, pk_us⟩, ⟨fun z => absurd z (show ¬ (1 : Int32) = 4 by decide), fun z => absurd z s8⟩, fun z => absurd z (show ¬ (1 : Int32) = 0 by decide), w3⟩, hH.congr rfl rfl rfl rfl⟩
    · have hB1 : BN G X M1 bq l0 l1 l2 l3 tp tz td fl tt pl ra Rg pn pa pf pk zc zz ap aa dq (va_up av i (upd (av i) 9 1)) dv nh ah vh := by have z := hB1; rw [cs_aplV, if_neg c1] at z; exact z
      rw [md_aplF, if_neg c1]
      exact INV.mk2 ((hF _ rfl).trans h92) hB1 ⟨hN, hR.congr rfl rfl rfl, hP.congr rfl rfl rfl rfl rfl rfl, hA.upd hi (fun k _ a ha => vu k a ha) (fun a _ r _ => rfl) ⟨g, ⟨v1, v1r, v2_, v5, v4, v6, v7, v8, v10, v11, pk_us⟩, w1, w2, w3⟩, hH.congr rfl rfl rfl rfl⟩
  · rw [e1, e2]
    have ok : ¬ md_aplOK n f ap q := fun z => nq (by
      obtain ⟨i, hi, eq⟩ := (isAt_in (by omega)).mpr z.1
      have en : q.toNatClampNeg = i := by rw [eq]; exact nI_clamp (by omega)
      obtain ⟨-, ⟨v1, v1r, v2_, v5, v4, v6, v7, v8, v10, v11, v9⟩, -⟩ := hA.1 i hi
      have z2 := z.2
      rw [en, v2_, v9, v6, n0] at z2
      rw [en]
      exact ⟨⟨i, hi, eq⟩, z2⟩)
    refine pr_no hI hM (c_X8_appeal l X G A M h ad n f pl (fun i => (Rg i).2.2) n1 (by omega) hR.co pn n3 (by omega) zc hP.zm ap n4 (by omega) (opN dv) (hA.op2 (by omega)) (by rw [n0]; exact n0r) q) (fun v2 M2 hq => ?_)
    rw [hq.1, hq.2, pB_f ok]
    exact ⟨rfl, rfl⟩
