/-! ===== objections; plans ===== -/
theorem pr_object (l : Launch) (X : mp_X) (G : mp_G) (A : Nat → Prop) (M : mp_M) (bq h : Nat) (hI : INV G X M bq h) (q1 q2 : Int32) : mp_Met l X G A yX7_object wsX7_object rmX7_object ([.ref bq, .int q1, .int q2] : List Value) M (PR l X G A bq h yX8_object wsX8_object rmX8_object ([.ref h, .int q1, .int q2] : List Value)) 0 0 := by
  obtain ⟨ad, n, f, l0, l1, l2, l3, tp, tz, td, fl, tt, pl, ra, Rg, pn, pa, pf, pk, zc, zz, ap, aa, dq, av, dv, nh, ah, vh, hM, h92, hB, hT⟩ := id hI
  have hb9 := hB.b
  obtain ⟨hN, hR, hP, hA, hH⟩ := id hT
  obtain ⟨⟨n0, n0r⟩, n1, n2_, n3, n4, n5, n11, n14, f9, hby⟩ := id hN
  have hop := hA.op (by omega)
  refine (c_X7_object l X G A M bq l0 l1 l2 l3 tp tz td fl tt pl ra Rg pn pa pf pk zc zz ap aa dq av dv nh ah vh hB (opN dv) hop q1 q2).imp1 (fun v M1 hp => ?_)
  rcases hp with ⟨nq, e1, e2⟩ | ⟨i, j, hi, ei, hj, ej, hc, hp⟩
  · rw [e1, e2]
    have ok : ¬ md_objOK f pl ap q1 q2 := fun z => nq (by
      obtain ⟨i, hi, eq⟩ := (isAt_in (by omega)).mpr z.1
      have en : q1.toNatClampNeg = i := by rw [eq]; exact nI_clamp (by omega)
      obtain ⟨⟨g1, -⟩, ⟨v1, v1r, v2_, -⟩, -⟩ := hA.1 i hi
      have z2 := z.2
      rw [en, v2_, g1] at z2
      rw [en]
      exact ⟨⟨i, hi, eq⟩, z2.1, (isAt_in (by omega)).mpr z2.2.1, fun y => z2.2.2 y.symm⟩)
    have er : md_objR n f pl ap (fun i => (Rg i).2.2) (opN dv) q1 q2 = -4 := by rw [md_objR, pB_f ok]; rfl
    refine pr_no hI hM (c_X8_object l X G A M h ad n f pl (fun i => (Rg i).2.2) n1 (by omega) hR.co pn n3 (by omega) zc hP.zm ap n4 (by omega) (opN dv) (hA.op2 (by omega)) (by rw [n0]; exact n0r) q1 q2) (fun v2 M2 hq => ?_)
    rw [hq.1, hq.2, md_objF, er, if_neg (by decide)]
    exact ⟨rfl, rfl⟩
  · have en : q1.toNatClampNeg = i := by rw [ei]; exact nI_clamp (by omega)
    have em : q2.toNatClampNeg = j := by rw [ej]; exact nI_clamp (by omega)
    obtain ⟨g, ⟨v1, v1r, v2_, v5, v4, v6, v7, v8, v10, v11, v9⟩, w1, w2, w3⟩ := hA.1 i hi
    have ho := hop i hi
    have ok : md_objOK f pl ap q1 q2 := ⟨(isAt_in (by omega)).mp ⟨i, hi, ei⟩, by rw [en, v2_]; exact hc.1, (isAt_in (by omega)).mp ⟨j, hj, ej⟩, by rw [en, g.1]; exact fun y => hc.2 y.symm⟩
    have hnr : ∀ d : Int32, (cdW (Rg (opN dv i)) (Rg j) d ∨ cdW (Rg j) (Rg (opN dv i)) d) ↔ rg_near (md_rg f (opN dv i) (Rg (opN dv i)).2.2) (md_rg f j (Rg j).2.2) d.toInt64 := fun d => near_cg (hR.E (by omega)) (hR.E (by omega)) (hR.1 _ (by omega)).2.1 (hR.1 _ (by omega)).2.1
    have eR : md_objR n f pl ap (fun i => (Rg i).2.2) (opN dv) q1 q2 = if pB (cdW (Rg (opN dv i)) (Rg j) 20 ∨ cdW (Rg j) (Rg (opN dv i)) 20) then (if av i 1 + 30 < td then -1 else if f 40 (12 * i + j) = 0 then cs_objW (Rg (opN dv i)) (Rg j) else -3) else -2 := by
      rw [md_objR, pB_t ok, if_pos rfl, en, em, v1, n0, pB_congr (hnr 20), md_objW, cs_objW, pB_congr (hnr 0)]
    have hbit := w3 j (by omega)
    rw [← ej] at hbit
    rcases hp with ⟨c1, e1, e2⟩ | ⟨c1, k2_, e1, e2⟩ | ⟨c1, k2_, c3, e1, e2⟩ | ⟨c1, k2_, c3, e1, hB1, hF⟩
    · rw [e1, e2]
      refine pr_no hI hM (c_X8_object l X G A M h ad n f pl (fun i => (Rg i).2.2) n1 (by omega) hR.co pn n3 (by omega) zc hP.zm ap n4 (by omega) (opN dv) (hA.op2 (by omega)) (by rw [n0]; exact n0r) q1 q2) (fun v2 M2 hq => ?_)
      rw [hq.1, hq.2, md_objF, eR, pB_f c1]
      exact ⟨rfl, rfl⟩
    · rw [e1, e2]
      refine pr_no hI hM (c_X8_object l X G A M h ad n f pl (fun i => (Rg i).2.2) n1 (by omega) hR.co pn n3 (by omega) zc hP.zm ap n4 (by omega) (opN dv) (hA.op2 (by omega)) (by rw [n0]; exact n0r) q1 q2) (fun v2 M2 hq => ?_)
      rw [hq.1, hq.2, md_objF, eR, pB_t c1, if_pos rfl, if_pos k2_]
      exact ⟨rfl, rfl⟩
    · rw [e1, e2]
      refine pr_no hI hM (c_X8_object l X G A M h ad n f pl (fun i => (Rg i).2.2) n1 (by omega) hR.co pn n3 (by omega) zc hP.zm ap n4 (by omega) (opN dv) (hA.op2 (by omega)) (by rw [n0]; exact n0r) q1 q2) (fun v2 M2 hq => ?_)
      rw [hq.1, hq.2, md_objF, eR, pB_t c1, if_pos rfl, if_neg (i_nlt.mpr k2_), if_neg (fun z => c3 (hbit.mp z))]
      exact ⟨rfl, rfl⟩
    · rw [e1]
      refine pr_ref (md_keep hM hF) (c_X8_object l X G A M1 h ad n f pl (fun i => (Rg i).2.2) n1 (by omega) hR.co pn n3 (by omega) zc hP.zm ap n4 (by omega) (opN dv) (hA.op2 (by omega)) (by rw [n0]; exact n0r) q1 q2) (fun v2 M2 hq => ?_)
      have eR2 : md_objR n f pl ap (fun i => (Rg i).2.2) (opN dv) q1 q2 = cs_objW (Rg (opN dv i)) (Rg j) := by
        rw [eR, pB_t c1, if_pos rfl, if_neg (i_nlt.mpr k2_), if_pos (hbit.mpr c3)]
      have hpos : 0 < cs_objW (Rg (opN dv i)) (Rg j) := by
        unfold cs_objW
        split <;> decide
      have eW : md_objW f (fun i => (Rg i).2.2) (opN dv i) j = cs_objW (Rg (opN dv i)) (Rg j) := by
        rw [md_objW, cs_objW, pB_congr (hnr 0)]
      rw [hq.1, hq.2, md_objF, eR2, if_pos hpos, en, em, eW]
      refine ⟨rfl, INV.mk2 ((hF _ rfl).trans h92) hB1 ⟨hN, hR.congr rfl rfl rfl, hP.congr rfl rfl rfl rfl rfl rfl, hA.upd hi (fun k hk a ha => (vu k a ha).trans (by rw [va_up_ne _ _ (by omega)])) (fun a ha r hr => ?_) ⟨g, ⟨v1, v1r, v2_, v5, ?_, v6, v7, v8, v10, v11, v9⟩, w1, w2, fun r hr => ?_⟩, hH.congr rfl rfl rfl rfl⟩⟩
      · show upd (f 40) (12 * i + j) 1 (12 * a + r) = _
        exact pk_un (by omega)
      · show upd (f 33) i (f 33 i + cs_objW (Rg (opN dv i)) (Rg j)) i = _
        rw [pk_us, v4]
        rfl
      · show upd (f 40) (12 * i + j) 1 (12 * i + r) = 0 ↔ (av i 3 ||| btO q2) &&& btO (nI r) = 0
        rw [ej, bit_or (by omega) (by omega)]
        by_cases er : r = j
        · subst er
          rw [pk_us]
          exact ⟨fun z => absurd z (by decide), fun z => absurd rfl z.2⟩
        · rw [pk_un (by omega), w3 r hr]
          exact ⟨fun z => ⟨z, fun y => er y.symm⟩, fun z => z.1⟩
theorem zrB_0 : zrB zr0 := fun u _ => Or.inl rfl
theorem zrB_item {t : Nat → Int32} {sz i : Nat} {r : zr} (hi : i ≤ sz) (h : zrB r) : zrB (itemS t sz i r).2.2 := by
  have h1 := we_in (t := t) hi
  rw [itemS]
  by_cases k6 : itK (wd t sz i) = 6
  · rw [if_pos k6]; exact h
  · rw [if_neg k6]
    by_cases k4 : itK (wd t sz i) < 4
    · rw [if_pos k4]
      by_cases q : tnP t sz (we t sz i)
      · rw [pB_t q, if_pos rfl]
        intro u hu
        show upd r.2.2 _ _ u = -1 ∨ md_in (upd r.2.2 _ _ u) 0 999
        by_cases e : u = itK (wd t sz i)
        · rw [e, pk_us]
          have k := tnV_rg h1.2.2 q
          have e0 : (0 : Int32).toInt = 0 := rfl
          have e9 : (999 : Int32).toInt = 999 := rfl
          exact Or.inr ⟨(i_le _ _).mpr (by omega), (i_le _ _).mpr (by omega)⟩
        · rw [pk_un e]
          exact h u hu
      · rw [pB_f q, if_neg (by decide)]; exact h
    · rw [if_neg k4]
      by_cases q : (stp t sz 601 (we t sz i) 0).1 = true
      · rw [if_pos q]
        show zrB (if itK (wd t sz i) = 4 then _ else _)
        split <;> exact h
      · rw [if_neg q]; exact h
theorem zrB_itB {t : Nat → Int32} {sz : Nat} : ∀ (k i : Nat) (r : zr), i ≤ sz → zrB r → zrB (itB t sz k i r).2.2
  | 0, _, _, _, h => h
  | k + 1, i, r, hi, h => by
    have h1 := itemS_in (t := t) r hi
    have h2 := tk_in (t := t) 125 h1.2.1
    have h3 := zrB_item (t := t) hi h
    rw [itB]
    by_cases q : (itemS t sz i r).1 = true
    · rw [if_pos q]
      by_cases q2 : tkP t sz (itemS t sz i r).2.1 125
      · rw [pB_t q2, if_pos rfl]; exact h3
      · rw [pB_f q2, if_neg (by decide)]
        exact zrB_itB k _ _ h2.2 h3
    · rw [if_neg q]; exact h3
theorem zrB_itA {t : Nat → Int32} {sz i : Nat} {r : zr} (hi : i ≤ sz) (h : zrB r) : zrB (itA t sz i r).2.2 := by
  have h2 := tk_in (t := t) 125 hi
  rw [itA]
  by_cases q2 : tkP t sz i 125
  · rw [pB_t q2, if_pos rfl]; exact h
  · rw [pB_f q2, if_neg (by decide)]
    exact zrB_itB 601 _ _ h2.2 h
theorem zrB_zoS {t : Nat → Int32} {sz : Nat} : ∀ (k i m : Nat) (zs : Nat → zr), i ≤ sz → (∀ j, zrB (zs j)) → ∀ j, zrB ((zoS t sz k i m zs).2.2.2 j)
  | 0, _, _, _, _, h => h
  | k + 1, i, m, zs, hi, h => by
    have h1 := we_in (t := t) hi
    have h2 := tk_in (t := t) 123 h1.2.2
    have h3 := itA_in (t := t) zr0 h2.2
    rw [zoS]
    by_cases c1 : i < sz
    · rw [if_pos c1]
      by_cases k2_ : wd t sz i = 2054123109 ∧ m ≠ 8
      · rw [pB_t k2_, if_pos rfl]
        by_cases c3 : tkP t sz (we t sz i) 123
        · rw [pB_t c3, if_pos rfl]
          by_cases c4 : (itA t sz (tkN t sz (we t sz i) 123) zr0).1 = true
          · rw [if_pos c4]
            refine zrB_zoS k _ _ _ (tb_in h3.2).2 (fun j => ?_)
            by_cases e : j = m
            · rw [e, va_up_self]
              exact zrB_itA h2.2 zrB_0
            · rw [va_up_ne _ _ e]
              exact h j
          · rw [if_neg c4]; exact h
        · rw [pB_f c3, if_neg (by decide)]; exact h
      · rw [pB_f k2_, if_neg (by decide)]; exact h
    · rw [if_neg c1]; exact h
theorem zrB_adX {t : Nat → Int32} {sz : Nat} (j : Nat) : zrB ((adX t sz).2.2.2 j) := zrB_zoS 601 _ 0 _ (tb_in (Nat.zero_le sz)).2 (fun _ => zrB_0) j
theorem ZF.TP {f g f2 : Nat → Nat → Int32} {pn m : Nat} {zs : Nat → zr} {pf pk : Nat → Int32} {zc : Nat → Nat} {zz : Nat → Nat → zr} (h : TP f pn pf pk zc zz) (z : ZF (va_up f 10 (g 10)) f2 pn m zs) : TP f2 pn pf pk zc zz := fun i hi => by
  obtain ⟨a1, a2, a3, a4, a5, a6⟩ := z
  obtain ⟨b1, k2_, b3, b4, b5⟩ := h i hi
  refine ⟨?_, ?_, ?_, b4, fun y hy => ⟨?_, (b5 y hy).2⟩⟩
  · rw [a1 15 (by decide) (by decide) (by decide) (by decide)]; exact b1
  · rw [a1 16 (by decide) (by decide) (by decide) (by decide)]; exact k2_
  · rw [a3 i (by omega)]; exact b3
  · obtain ⟨c1, k3, c4⟩ := (b5 y hy).1
    have c5 := a4 (8 * i + y) (by omega)
    exact ⟨c5.1.trans c1, c5.2.trans k3, fun u hu => (a5 (4 * (8 * i + y) + u) (by omega)).trans (c4 u hu)⟩
theorem pr_adopt (l : Launch) (X : mp_X) (G : mp_G) (A : Nat → Prop) (M : mp_M) (bq h : Nat) (hI : INV G X M bq h) (q w : Int32) : mp_Met l X G A yX7_adopt wsX7_adopt rmX7_adopt ([.ref bq, .int q, .int w] : List Value) M (PR l X G A bq h yX8_adopt wsX8_adopt rmX8_adopt ([.ref h, .int q, .int w] : List Value)) 20 1408 := by
  obtain ⟨ad, n, f, l0, l1, l2, l3, tp, tz, td, fl, tt, pl, ra, Rg, pn, pa, pf, pk, zc, zz, ap, aa, dq, av, dv, nh, ah, vh, hM, h92, hB, hT⟩ := id hI
  have hb9 := hB.b
  obtain ⟨hN, hR, hP, hA, hH⟩ := id hT
  obtain ⟨⟨n0, n0r⟩, n1, n2_, n3, n4, n5, n11, n14, f9, hby⟩ := id hN
  refine (c_X7_adopt l X G A M bq l0 l1 l2 l3 tp tz td fl tt pl ra Rg pn pa pf pk zc zz ap aa dq av dv nh ah vh hB q w).imp1 (fun v M1 hp => ?_)
  rcases hp with ⟨nc, e1, e2⟩ | ⟨cc, e20, e1, e2⟩ | ⟨sz, hsz, eq, hw, hpn, hF, hp⟩
  · rw [e1, e2]
    refine pr_no hI hM (c_X8_adopt l X G A M h ad n f tz pn n11 (by omega) n3 (by omega) hby q w) (fun v2 M2 hq => ?_)
    obtain ⟨v, m2, f2, k1, k2_, k3⟩ := hq
    rcases k3 with ⟨-, a, b, c0⟩ | ⟨a, -⟩ | ⟨s2, a1, a2, a3, -⟩
    · rw [k1, k2_, a, b, c0]; exact ⟨rfl, rfl⟩
    · exact absurd a nc
    · exact absurd ⟨by rw [a2]; exact ⟨i_nlt.mp (nI_pos (by omega)), (nI_leI (by omega) (by omega)).mpr a1⟩, a3⟩ nc
  · rw [e1, e2]
    refine pr_no hI hM (c_X8_adopt l X G A M h ad n f tz pn n11 (by omega) n3 (by omega) hby q w) (fun v2 M2 hq => ?_)
    obtain ⟨v, m2, f2, k1, k2_, k3⟩ := hq
    rcases k3 with ⟨a, -⟩ | ⟨-, -, a, b, c0⟩ | ⟨s2, a1, a2, a3, a4, -⟩
    · exact absurd cc a
    · rw [k1, k2_, a, b, c0]; exact ⟨rfl, rfl⟩
    · exact absurd e20 a4
  · have hcc : md_in q 0 (nI tz) ∧ md_in w 0 9999 := ⟨by rw [eq]; exact ⟨i_nlt.mp (nI_pos (by omega)), (nI_leI (by omega) (by omega)).mpr hsz⟩, hw⟩
    have hag : adX (cpF (f 9) (f 10) sz) sz = adX tt sz := ag_adX (fun j hj => by rw [← f9]; exact if_pos hj)
    have hV : ∃ V : Int32, v = some (.int V) ∧ (((adX tt sz).1 = false ∧ V = -1) ∨ ((adX tt sz).1 = true ∧ V = nI pn)) := by
      rcases hp with ⟨a1, a2, -⟩ | ⟨a1, a2, -⟩
      · exact ⟨_, a2, Or.inl ⟨a1, rfl⟩⟩
      · exact ⟨_, a2, Or.inr ⟨a1, rfl⟩⟩
    obtain ⟨V, eV, hV⟩ := hV
    rw [eV]
    refine pr_ref (md_keep hM hF) (c_X8_adopt l X G A M1 h ad n f tz pn n11 (by omega) n3 (by omega) hby q w) (fun v2 M2 hq => ?_)
    obtain ⟨vr, m2, f2, k1, k2_, k3⟩ := hq
    rw [k1, k2_]
    rcases k3 with ⟨a, -⟩ | ⟨-, a, -⟩ | ⟨s2, a1, a2, a3, a4, hk, h11, k3⟩
    · exact absurd hcc a
    · exact absurd a hpn
    · obtain rfl : s2 = sz := nn_eq (by omega) (by omega) (a2.symm.trans eq)
      rw [hag] at k3
      rcases k3 with ⟨b1, b3, h3, h14, m9, zs, hz⟩ | ⟨b1, b3, h3, h14, f3, hz, hf2⟩
      · rcases hp with ⟨c1, c3, hB1⟩ | ⟨c1, -⟩
        · rcases hV with ⟨-, d3⟩ | ⟨d1, -⟩
          · have ek : ∀ k, k ≠ 10 → k ≠ 17 → k ≠ 18 → k ≠ 19 → k ≠ 20 → f2 k = f k := fun k q1 q2 q3 q4 q5 => (hz.1 k q2 q3 q4 q5).trans (va_up_ne _ _ q1)
            refine ⟨by rw [b3, d3], INV.mk2 ((hF _ rfl).trans h92) hB1 ⟨⟨⟨(hk 0 (by decide) (by decide) (by decide) (by decide) (by decide) (by decide) (by decide)).trans n0, n0r⟩, (hk 1 (by decide) (by decide) (by decide) (by decide) (by decide) (by decide) (by decide)).trans n1, (hk 2 (by decide) (by decide) (by decide) (by decide) (by decide) (by decide) (by decide)).trans n2_, h3, (hk 4 (by decide) (by decide) (by decide) (by decide) (by decide) (by decide) (by decide)).trans n4, (hk 5 (by decide) (by decide) (by decide) (by decide) (by decide) (by decide) (by decide)).trans n5, h11, h14, ?_, ?_⟩, hR.congr (ek 6 (by decide) (by decide) (by decide) (by decide) (by decide)) (ek 7 (by decide) (by decide) (by decide) (by decide) (by decide)) (ek 8 (by decide) (by decide) (by decide) (by decide) (by decide)), ZF.TP (g := fun _ => cpF (f 9) (f 10) s2) hP hz, hA.congr (fun k q1 q2 => ek k (by omega) (by omega) (by omega) (by omega) (by omega)), hH.congr (ek 41 (by decide) (by decide) (by decide) (by decide) (by decide)) (ek 42 (by decide) (by decide) (by decide) (by decide) (by decide)) (ek 43 (by decide) (by decide) (by decide) (by decide) (by decide)) (ek 44 (by decide) (by decide) (by decide) (by decide) (by decide))⟩⟩
            · rw [ek 9 (by decide) (by decide) (by decide) (by decide) (by decide)]; exact f9
            · rw [ek 9 (by decide) (by decide) (by decide) (by decide) (by decide)]; exact hby
          · rw [b1] at d1; cases d1
        · rw [b1] at c1; cases c1
      · rcases hp with ⟨c1, -⟩ | ⟨c1, c3, pa2, hB1⟩
        · rw [b1] at c1; cases c1
        · rcases hV with ⟨d1, -⟩ | ⟨-, d3⟩
          · rw [b1] at d1; cases d1
          · have ek : ∀ k, k ≠ 10 → k ≠ 15 → k ≠ 16 → k ≠ 17 → k ≠ 18 → k ≠ 19 → k ≠ 20 → f2 k = f k := fun k q1 q6 q7 q2 q3 q4 q5 => by rw [hf2, va_up_ne _ _ q7, va_up_ne _ _ q6]; exact (hz.1 k q2 q3 q4 q5).trans (va_up_ne _ _ q1)
            have h8 : (adX tt s2).2.2.1 ≤ 8 := by
              obtain ⟨_, _, _, _, z8, _⟩ := hB1.P (Nat.lt_succ_self pn)
              rw [elU_s] at z8
              exact z8
            have hP3 := ZF.TP (g := fun _ => cpF (f 9) (f 10) s2) hP hz
            have g15 : f2 15 = upd (f3 15) pn w := by rw [hf2]; rfl
            have g16 : f2 16 = upd (f3 16) pn (n 0) := by rw [hf2]; rfl
            have g17 : f2 17 = f3 17 := by rw [hf2]; rfl
            have g18 : f2 18 = f3 18 := by rw [hf2]; rfl
            have g19 : f2 19 = f3 19 := by rw [hf2]; rfl
            have g20 : f2 20 = f3 20 := by rw [hf2]; rfl
            refine ⟨by rw [b3, d3], INV.mk2 ((hF _ rfl).trans h92) hB1 ⟨⟨⟨(hk 0 (by decide) (by decide) (by decide) (by decide) (by decide) (by decide) (by decide)).trans n0, n0r⟩, (hk 1 (by decide) (by decide) (by decide) (by decide) (by decide) (by decide) (by decide)).trans n1, (hk 2 (by decide) (by decide) (by decide) (by decide) (by decide) (by decide) (by decide)).trans n2_, h3, (hk 4 (by decide) (by decide) (by decide) (by decide) (by decide) (by decide) (by decide)).trans n4, (hk 5 (by decide) (by decide) (by decide) (by decide) (by decide) (by decide) (by decide)).trans n5, h11, h14, ?_, ?_⟩, hR.congr (ek 6 (by decide) (by decide) (by decide) (by decide) (by decide) (by decide) (by decide)) (ek 7 (by decide) (by decide) (by decide) (by decide) (by decide) (by decide) (by decide)) (ek 8 (by decide) (by decide) (by decide) (by decide) (by decide) (by decide) (by decide)), fun i hi => ?_, hA.congr (fun k q1 q2 => ek k (by omega) (by omega) (by omega) (by omega) (by omega) (by omega) (by omega)), hH.congr (ek 41 (by decide) (by decide) (by decide) (by decide) (by decide) (by decide) (by decide)) (ek 42 (by decide) (by decide) (by decide) (by decide) (by decide) (by decide) (by decide)) (ek 43 (by decide) (by decide) (by decide) (by decide) (by decide) (by decide) (by decide)) (ek 44 (by decide) (by decide) (by decide) (by decide) (by decide) (by decide) (by decide))⟩⟩
            · rw [ek 9 (by decide) (by decide) (by decide) (by decide) (by decide) (by decide) (by decide)]; exact f9
            · rw [ek 9 (by decide) (by decide) (by decide) (by decide) (by decide) (by decide) (by decide)]; exact hby
            · rw [g15, g16, g17]
              unfold zAt
              rw [g18, g19, g20]
              by_cases ei : i = pn
              · subst ei
                rw [pk_us, pk_us, pk_us, pk_us, elU_s, va_up_self]
                exact ⟨rfl, n0, hz.2.1, h8, fun y hy => ⟨hz.2.2.2.2.2 y hy, zrB_adX y⟩⟩
              · rw [pk_un ei, pk_un ei, pk_un ei, pk_un ei, elU_n _ _ _ ei, va_up_ne _ _ ei]
                exact hP3 i (by omega)
