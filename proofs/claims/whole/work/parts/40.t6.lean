/-! ===== each call of the law: the class first, the reference behind it ===== -/
theorem pr_ring (l : Launch) (X : mp_X) (G : mp_G) (A : Nat → Prop) (M : mp_M) (bq h : Nat) (hI : INV G X M bq h) (q w : Int32) : mp_Met l X G A yX7_ring wsX7_ring rmX7_ring ([.ref bq, .int q, .int w] : List Value) M (PR l X G A bq h yX8_ring wsX8_ring rmX8_ring ([.ref h, .int q, .int w] : List Value)) 0 0 := by
  obtain ⟨ad, n, f, l0, l1, l2, l3, tp, tz, td, fl, tt, pl, ra, Rg, pn, pa, pf, pk, zc, zz, ap, aa, dq, av, dv, nh, ah, vh, hM, h92, hB, hT⟩ := id hI
  have hb9 := hB.b
  obtain ⟨hN, hR, hP, hA, hH⟩ := id hT
  obtain ⟨⟨n0, n0r⟩, n1, n2_, n3, n4, n5, n11, n14, f9, hby⟩ := id hN
  exact rd_pair hI hM (c_X7_ring l X G A M bq l0 l1 l2 l3 tp tz td fl tt pl ra Rg pn pa pf pk zc zz ap aa dq av dv nh ah vh hB q w) (c_X8_ring l X G A M h ad n f pl (fun i => (Rg i).2.2) n1 (by omega) hR.co q w) (t_ring hR (by omega) q w)
theorem pr_near (l : Launch) (X : mp_X) (G : mp_G) (A : Nat → Prop) (M : mp_M) (bq h : Nat) (hI : INV G X M bq h) (a b d : Int32) : mp_Met l X G A yX7_near wsX7_near rmX7_near ([.ref bq, .int a, .int b, .int d] : List Value) M (PR l X G A bq h yX8_near wsX8_near rmX8_near ([.ref h, .int a, .int b, .int d] : List Value)) 0 0 := by
  obtain ⟨ad, n, f, l0, l1, l2, l3, tp, tz, td, fl, tt, pl, ra, Rg, pn, pa, pf, pk, zc, zz, ap, aa, dq, av, dv, nh, ah, vh, hM, h92, hB, hT⟩ := id hI
  have hb9 := hB.b
  obtain ⟨hN, hR, hP, hA, hH⟩ := id hT
  obtain ⟨⟨n0, n0r⟩, n1, n2_, n3, n4, n5, n11, n14, f9, hby⟩ := id hN
  exact rd_pair hI hM (c_X7_near l X G A M bq l0 l1 l2 l3 tp tz td fl tt pl ra Rg pn pa pf pk zc zz ap aa dq av dv nh ah vh hB a b d) (c_X8_near l X G A M h ad n f pl (fun i => (Rg i).2.2) n1 (by omega) hR.co a b d) (by rw [pB_congr (t_near hR (by omega) a b d)])
theorem pr_fault (l : Launch) (X : mp_X) (G : mp_G) (A : Nat → Prop) (M : mp_M) (bq h : Nat) (hI : INV G X M bq h) : mp_Met l X G A yX7_fault wsX7_fault rmX7_fault ([.ref bq] : List Value) M (PR l X G A bq h yX8_fault wsX8_fault rmX8_fault ([.ref h] : List Value)) 0 0 := by
  obtain ⟨ad, n, f, l0, l1, l2, l3, tp, tz, td, fl, tt, pl, ra, Rg, pn, pa, pf, pk, zc, zz, ap, aa, dq, av, dv, nh, ah, vh, hM, h92, hB, hT⟩ := id hI
  have hb9 := hB.b
  obtain ⟨hN, hR, hP, hA, hH⟩ := id hT
  obtain ⟨⟨n0, n0r⟩, n1, n2_, n3, n4, n5, n11, n14, f9, hby⟩ := id hN
  exact rd_pair hI hM (c_X7_fault l X G A M bq l0 l1 l2 l3 tp tz td fl tt pl ra Rg pn pa pf pk zc zz ap aa dq av dv nh ah vh hB) (c_X8_fault l X G A M h ad n f) n14
theorem pr_plan (l : Launch) (X : mp_X) (G : mp_G) (A : Nat → Prop) (M : mp_M) (bq h : Nat) (hI : INV G X M bq h) (d k : Int32) : mp_Met l X G A yX7_plan wsX7_plan rmX7_plan ([.ref bq, .int d, .int k] : List Value) M (PR l X G A bq h yX8_plan wsX8_plan rmX8_plan ([.ref h, .int d, .int k] : List Value)) 0 0 := by
  obtain ⟨ad, n, f, l0, l1, l2, l3, tp, tz, td, fl, tt, pl, ra, Rg, pn, pa, pf, pk, zc, zz, ap, aa, dq, av, dv, nh, ah, vh, hM, h92, hB, hT⟩ := id hI
  have hb9 := hB.b
  obtain ⟨hN, hR, hP, hA, hH⟩ := id hT
  obtain ⟨⟨n0, n0r⟩, n1, n2_, n3, n4, n5, n11, n14, f9, hby⟩ := id hN
  exact rd_pair hI hM (c_X7_plan l X G A M bq l0 l1 l2 l3 tp tz td fl tt pl ra Rg pn pa pf pk zc zz ap aa dq av dv nh ah vh hB d k) (c_X8_plan l X G A M h ad n f pn n3 (by omega) d k) (t_plan hP d k)
theorem pr_zone (l : Launch) (X : mp_X) (G : mp_G) (A : Nat → Prop) (M : mp_M) (bq h : Nat) (hI : INV G X M bq h) (q1 q2 w : Int32) : mp_Met l X G A yX7_zone wsX7_zone rmX7_zone ([.ref bq, .int q1, .int q2, .int w] : List Value) M (PR l X G A bq h yX8_zone wsX8_zone rmX8_zone ([.ref h, .int q1, .int q2, .int w] : List Value)) 0 0 := by
  obtain ⟨ad, n, f, l0, l1, l2, l3, tp, tz, td, fl, tt, pl, ra, Rg, pn, pa, pf, pk, zc, zz, ap, aa, dq, av, dv, nh, ah, vh, hM, h92, hB, hT⟩ := id hI
  have hb9 := hB.b
  obtain ⟨hN, hR, hP, hA, hH⟩ := id hT
  obtain ⟨⟨n0, n0r⟩, n1, n2_, n3, n4, n5, n11, n14, f9, hby⟩ := id hN
  exact rd_pair hI hM (c_X7_zone l X G A M bq l0 l1 l2 l3 tp tz td fl tt pl ra Rg pn pa pf pk zc zz ap aa dq av dv nh ah vh hB q1 q2 w) (c_X8_zone l X G A M h ad n f pn n3 (by omega) zc hP.zm pl n1 (by omega) q1 q2 w) (t_zone hP (by omega) (by omega) q1 q2 w)
theorem pr_judge (l : Launch) (X : mp_X) (G : mp_G) (A : Nat → Prop) (M : mp_M) (bq h : Nat) (hI : INV G X M bq h) (q x0 y0 x1 y1 ht us d k : Int32) : mp_Met l X G A yX7_judge wsX7_judge rmX7_judge ([.ref bq, .int q, .int x0, .int y0, .int x1, .int y1, .int ht, .int us, .int d, .int k] : List Value) M (PR l X G A bq h yX8_judge wsX8_judge rmX8_judge ([.ref h, .int q, .int x0, .int y0, .int x1, .int y1, .int ht, .int us, .int d, .int k] : List Value)) 1 7 := by
  obtain ⟨ad, n, f, l0, l1, l2, l3, tp, tz, td, fl, tt, pl, ra, Rg, pn, pa, pf, pk, zc, zz, ap, aa, dq, av, dv, nh, ah, vh, hM, h92, hB, hT⟩ := id hI
  have hb9 := hB.b
  obtain ⟨hN, hR, hP, hA, hH⟩ := id hT
  obtain ⟨⟨n0, n0r⟩, n1, n2_, n3, n4, n5, n11, n14, f9, hby⟩ := id hN
  exact rd_pair hI hM (c_X7_judge l X G A M bq l0 l1 l2 l3 tp tz td fl tt pl ra Rg pn pa pf pk zc zz ap aa dq av dv nh ah vh hB q x0 y0 x1 y1 ht us d k h92) (c_X8_judge l X G A M h ad n f pl (fun i => (Rg i).2.2) n1 (by omega) hR.co pn n3 (by omega) zc hP.zm ap n4 (by omega) q x0 y0 x1 y1 ht us d k) (t_judge (by omega) (by omega) hR hP hA.S q x0 y0 x1 y1 ht us d k)
theorem pr_clash (l : Launch) (X : mp_X) (G : mp_G) (A : Nat → Prop) (M : mp_M) (bq h : Nat) (hI : INV G X M bq h) (q : Int32) : mp_Met l X G A yX7_clash wsX7_clash rmX7_clash ([.ref bq, .int q] : List Value) M (PR l X G A bq h yX8_clash wsX8_clash rmX8_clash ([.ref h, .int q] : List Value)) 0 0 := by
  obtain ⟨ad, n, f, l0, l1, l2, l3, tp, tz, td, fl, tt, pl, ra, Rg, pn, pa, pf, pk, zc, zz, ap, aa, dq, av, dv, nh, ah, vh, hM, h92, hB, hT⟩ := id hI
  have hb9 := hB.b
  obtain ⟨hN, hR, hP, hA, hH⟩ := id hT
  obtain ⟨⟨n0, n0r⟩, n1, n2_, n3, n4, n5, n11, n14, f9, hby⟩ := id hN
  exact rd_pair hI hM (c_X7_clash l X G A M bq l0 l1 l2 l3 tp tz td fl tt pl ra Rg pn pa pf pk zc zz ap aa dq av dv nh ah vh hB q) (c_X8_clash l X G A M h ad n f ap n4 (by omega) q) (t_clash hA (by omega) n0 q)
theorem pr_told (l : Launch) (X : mp_X) (G : mp_G) (A : Nat → Prop) (M : mp_M) (bq h : Nat) (hI : INV G X M bq h) (q w : Int32) : mp_Met l X G A yX7_told wsX7_told rmX7_told ([.ref bq, .int q, .int w] : List Value) M (PR l X G A bq h yX8_told wsX8_told rmX8_told ([.ref h, .int q, .int w] : List Value)) 0 0 := by
  obtain ⟨ad, n, f, l0, l1, l2, l3, tp, tz, td, fl, tt, pl, ra, Rg, pn, pa, pf, pk, zc, zz, ap, aa, dq, av, dv, nh, ah, vh, hM, h92, hB, hT⟩ := id hI
  have hb9 := hB.b
  obtain ⟨hN, hR, hP, hA, hH⟩ := id hT
  obtain ⟨⟨n0, n0r⟩, n1, n2_, n3, n4, n5, n11, n14, f9, hby⟩ := id hN
  exact rd_pair hI hM (c_X7_told l X G A M bq l0 l1 l2 l3 tp tz td fl tt pl ra Rg pn pa pf pk zc zz ap aa dq av dv nh ah vh hB q w) (c_X8_told l X G A M h ad n f ap n4 (by omega) q w) (t_told hA (by omega) n0 q w)
theorem pr_stands (l : Launch) (X : mp_X) (G : mp_G) (A : Nat → Prop) (M : mp_M) (bq h : Nat) (hI : INV G X M bq h) (q d k : Int32) : mp_Met l X G A yX7_stands wsX7_stands rmX7_stands ([.ref bq, .int q, .int d, .int k] : List Value) M (PR l X G A bq h yX8_stands wsX8_stands rmX8_stands ([.ref h, .int q, .int d, .int k] : List Value)) 0 0 := by
  obtain ⟨ad, n, f, l0, l1, l2, l3, tp, tz, td, fl, tt, pl, ra, Rg, pn, pa, pf, pk, zc, zz, ap, aa, dq, av, dv, nh, ah, vh, hM, h92, hB, hT⟩ := id hI
  have hb9 := hB.b
  obtain ⟨hN, hR, hP, hA, hH⟩ := id hT
  obtain ⟨⟨n0, n0r⟩, n1, n2_, n3, n4, n5, n11, n14, f9, hby⟩ := id hN
  exact rd_pair hI hM (c_X7_stands l X G A M bq l0 l1 l2 l3 tp tz td fl tt pl ra Rg pn pa pf pk zc zz ap aa dq av dv nh ah vh hB q d k) (c_X8_stands l X G A M h ad n f ap n4 (by omega) q d k) (by rw [pB_congr (t_stands hA (by omega) q d k)])
theorem pr_holder (l : Launch) (X : mp_X) (G : mp_G) (A : Nat → Prop) (M : mp_M) (bq h : Nat) (hI : INV G X M bq h) (q d k : Int32) : mp_Met l X G A yX7_holder wsX7_holder rmX7_holder ([.ref bq, .int q, .int d, .int k] : List Value) M (PR l X G A bq h yX8_holder wsX8_holder rmX8_holder ([.ref h, .int q, .int d, .int k] : List Value)) 0 0 := by
  obtain ⟨ad, n, f, l0, l1, l2, l3, tp, tz, td, fl, tt, pl, ra, Rg, pn, pa, pf, pk, zc, zz, ap, aa, dq, av, dv, nh, ah, vh, hM, h92, hB, hT⟩ := id hI
  have hb9 := hB.b
  obtain ⟨hN, hR, hP, hA, hH⟩ := id hT
  obtain ⟨⟨n0, n0r⟩, n1, n2_, n3, n4, n5, n11, n14, f9, hby⟩ := id hN
  exact rd_pair hI hM (c_X7_holder l X G A M bq l0 l1 l2 l3 tp tz td fl tt pl ra Rg pn pa pf pk zc zz ap aa dq av dv nh ah vh hB q d k) (c_X8_holder l X G A M h ad n f pl n1 (by omega) nh n5 (by omega) q d k) (t_holder hH (by omega) q d k)
theorem pr_count (l : Launch) (X : mp_X) (G : mp_G) (A : Nat → Prop) (M : mp_M) (bq h : Nat) (hI : INV G X M bq h) (w : Int32) : mp_Met l X G A yX7_count wsX7_count rmX7_count ([.ref bq, .int w] : List Value) M (PR l X G A bq h yX8_count wsX8_count rmX8_count ([.ref h, .int w] : List Value)) 0 0 := by
  obtain ⟨ad, n, f, l0, l1, l2, l3, tp, tz, td, fl, tt, pl, ra, Rg, pn, pa, pf, pk, zc, zz, ap, aa, dq, av, dv, nh, ah, vh, hM, h92, hB, hT⟩ := id hI
  have hb9 := hB.b
  obtain ⟨hN, hR, hP, hA, hH⟩ := id hT
  obtain ⟨⟨n0, n0r⟩, n1, n2_, n3, n4, n5, n11, n14, f9, hby⟩ := id hN
  exact rd_pair hI hM (c_X7_count l X G A M bq l0 l1 l2 l3 tp tz td fl tt pl ra Rg pn pa pf pk zc zz ap aa dq av dv nh ah vh hB w) (c_X8_count l X G A M h ad n f ap n4 (by omega) w) (t_count hN hA w)
theorem pr_no {l : Launch} {X : mp_X} {G : mp_G} {A : Nat → Prop} {M : mp_M} {bq h : Nat} {y : MethodName} {ws : List Cond} {rm : Room} {av : List Value} {ad : Nat → Nat} {n : Nat → Int32} {f : Nat → Nat → Int32} {V : Int32} {post : Option Value → mp_M → Prop} (hI : INV G X M bq h) (hM : M = md_M G M h ad n f) (hr : mp_Met l X G A y ws rm av (md_M G M h ad n f) post 0 0) (hq : ∀ v2 M2, post v2 M2 → v2 = some (.int V) ∧ M2 = md_M G M h ad n f) : PR l X G A bq h y ws rm av (some (.int V)) M :=
  pr_ref hM hr (fun v2 M2 hp => ⟨(hq v2 M2 hp).1, by rw [(hq v2 M2 hp).2, ← hM]; exact hI⟩)
theorem in_day {td d : Int32} (h : md_in td 0 9999) (h1 : td < d) (h2 : d ≤ 9999) : md_in d 0 9999 := ⟨(i_le _ _).mpr (by have a := (i_le _ _).mp h.1; have b := (i_lt _ _).mp h1; omega), h2⟩
theorem pr_day (l : Launch) (X : mp_X) (G : mp_G) (A : Nat → Prop) (M : mp_M) (bq h : Nat) (hI : INV G X M bq h) (d : Int32) : mp_Met l X G A yX7_day wsX7_day rmX7_day ([.ref bq, .int d] : List Value) M (PR l X G A bq h yX8_day wsX8_day rmX8_day ([.ref h, .int d] : List Value)) 0 0 := by
  obtain ⟨ad, n, f, l0, l1, l2, l3, tp, tz, td, fl, tt, pl, ra, Rg, pn, pa, pf, pk, zc, zz, ap, aa, dq, av, dv, nh, ah, vh, hM, h92, hB, hT⟩ := id hI
  have hb9 := hB.b
  obtain ⟨hN, hR, hP, hA, hH⟩ := id hT
  obtain ⟨⟨n0, n0r⟩, n1, n2_, n3, n4, n5, n11, n14, f9, hby⟩ := id hN
  refine (c_X7_day l X G A M bq l0 l1 l2 l3 tp tz td fl tt pl ra Rg pn pa pf pk zc zz ap aa dq av dv nh ah vh hB d).imp1 (fun v M1 hp => ?_)
  obtain ⟨e1, hB1, hF⟩ := hp
  rw [e1]
  have e : md_day n d ↔ (td < d ∧ d ≤ 9999) := by unfold md_day; rw [n0]
  refine pr_ref (md_keep hM hF) (c_X8_day l X G A M1 h ad n f d) (fun v2 M2 hq => ?_)
  rw [hq.1, hq.2]
  refine ⟨by rw [pB_congr e], INV.mk2 ((hF _ rfl).trans h92) hB1 ⟨?_, hR, hP, hA, hH⟩⟩
  by_cases c1 : td < d ∧ d ≤ 9999
  · rw [md_dayN, pB_t (e.mpr c1), pB_t c1]
    exact ⟨⟨rfl, in_day n0r c1.1 c1.2⟩, n1, n2_, n3, n4, n5, n11, n14, f9, hby⟩
  · rw [md_dayN, pB_f (fun z => c1 (e.mp z)), pB_f c1]
    exact hN
theorem TA.mono {f : Nat → Nat → Int32} {pl ap : Nat} {av : Nat → Nat → Int32} {dv : Nat → ds_D} (h : TA f pl ap av dv) : TA f (pl + 1) ap av dv := by
  refine ⟨fun a ha => ?_, h.2⟩
  obtain ⟨⟨g1, g2, g3, g4, g5, g6, g7, ⟨j, hj, e⟩, g9⟩, k⟩ := h.1 a ha
  exact ⟨⟨g1, g2, g3, g4, g5, g6, g7, ⟨j, by omega, e⟩, g9⟩, k⟩
theorem TR.corner {f : Nat → Nat → Int32} {pl : Nat} {Rg : Nat → rg_R} (h : TR f pl Rg) {x y : Int32} (hx : md_in x 0 63) (hy : md_in y 0 63) (h8 : (Rg pl).2.2 < 8) : TR (va_up (va_up f 7 (upd (f 7) (8 * pl + (Rg pl).2.2) x)) 8 (upd (f 8) (8 * pl + (Rg pl).2.2) y)) pl (va_up Rg pl (upd (Rg pl).1 (Rg pl).2.2 x, upd (Rg pl).2.1 (Rg pl).2.2 y, (Rg pl).2.2 + 1)) := by
  have e7 : (va_up (va_up f 7 (upd (f 7) (8 * pl + (Rg pl).2.2) x)) 8 (upd (f 8) (8 * pl + (Rg pl).2.2) y)) 7 = upd (f 7) (8 * pl + (Rg pl).2.2) x := rfl
  have e8 : (va_up (va_up f 7 (upd (f 7) (8 * pl + (Rg pl).2.2) x)) 8 (upd (f 8) (8 * pl + (Rg pl).2.2) y)) 8 = upd (f 8) (8 * pl + (Rg pl).2.2) y := rfl
  have e6 : (va_up (va_up f 7 (upd (f 7) (8 * pl + (Rg pl).2.2) x)) 8 (upd (f 8) (8 * pl + (Rg pl).2.2) y)) 6 = f 6 := rfl
  unfold TR
  rw [e6, e7, e8]
  refine ⟨fun i hi => ?_, fun i hi => ?_⟩
  · have hi1 := h.1 i hi
    by_cases e : i = pl
    · subst e
      rw [va_up_self]
      refine ⟨fun j hj => ?_, fun j hj => ?_, by show (Rg i).2.2 + 1 ≤ 8; omega⟩
      · have hj' : j < (Rg i).2.2 + 1 := hj
        by_cases ej : j = (Rg i).2.2
        · subst ej
          exact ⟨by rw [pk_us]; exact pk_us, by rw [pk_us]; exact pk_us⟩
        · have k := hi1.1 j (by omega)
          exact ⟨by rw [pk_un (by omega)]; exact (pk_un ej).trans k.1, by rw [pk_un (by omega)]; exact (pk_un ej).trans k.2⟩
      · have hj' : j < (Rg i).2.2 + 1 := hj
        by_cases ej : j = (Rg i).2.2
        · subst ej
          exact ⟨by show md_in (upd _ _ _ _) 0 63; rw [pk_us]; exact hx, by show md_in (upd _ _ _ _) 0 63; rw [pk_us]; exact hy⟩
        · have k := hi1.2.1 j (by omega)
          exact ⟨by show md_in (upd _ _ _ _) 0 63; rw [pk_un ej]; exact k.1, by show md_in (upd _ _ _ _) 0 63; rw [pk_un ej]; exact k.2⟩
    · rw [va_up_ne _ _ e]
      refine ⟨fun j hj => ?_, hi1.2⟩
      have k := hi1.1 j hj
      have h9 := hi1.2.2
      exact ⟨by rw [pk_un (by omega)]; exact k.1, by rw [pk_un (by omega)]; exact k.2⟩
  · rw [va_up_ne _ _ (by omega)]
    exact h.2 i hi
theorem pr_corner (l : Launch) (X : mp_X) (G : mp_G) (A : Nat → Prop) (M : mp_M) (bq h : Nat) (hI : INV G X M bq h) (x y : Int32) : mp_Met l X G A yX7_corner wsX7_corner rmX7_corner ([.ref bq, .int x, .int y] : List Value) M (PR l X G A bq h yX8_corner wsX8_corner rmX8_corner ([.ref h, .int x, .int y] : List Value)) 0 0 := by
  obtain ⟨ad, n, f, l0, l1, l2, l3, tp, tz, td, fl, tt, pl, ra, Rg, pn, pa, pf, pk, zc, zz, ap, aa, dq, av, dv, nh, ah, vh, hM, h92, hB, hT⟩ := id hI
  have hb9 := hB.b
  obtain ⟨hN, hR, hP, hA, hH⟩ := id hT
  obtain ⟨⟨n0, n0r⟩, n1, n2_, n3, n4, n5, n11, n14, f9, hby⟩ := id hN
  have hs8 := hB.Rs (Nat.le_refl pl)
  refine (c_X7_corner l X G A M bq l0 l1 l2 l3 tp tz td fl tt pl ra Rg pn pa pf pk zc zz ap aa dq av dv nh ah vh hB x y).imp1 (fun v M1 hp => ?_)
  rcases hp with ⟨cc, e1, hB1, hF⟩ | ⟨nc, e1, e2⟩
  · rw [e1]
    have ok : md_cornerOK (Rg pl).2.2 x y := ⟨cc.1, cc.2.1, by have := cc.2.2; omega⟩
    refine pr_ref (md_keep hM hF) (c_X8_corner l X G A M1 h ad n f pl (Rg pl).2.2 n1 (by omega) n2_ hs8 x y) (fun v2 M2 hq => ?_)
    rw [hq.1, hq.2, pB_t ok, if_pos rfl, if_pos rfl]
    refine ⟨rfl, INV.mk2 ((hF _ rfl).trans h92) hB1 ⟨⟨⟨n0, n0r⟩, n1, ?_, n3, n4, n5, n11, n14, f9, hby⟩, hR.corner cc.1 cc.2.1 cc.2.2, hP.congr rfl rfl rfl rfl rfl rfl, hA.congr (fun k h1 h2 => by rw [va_up_ne _ _ (by omega), va_up_ne _ _ (by omega)]), hH.congr rfl rfl rfl rfl⟩⟩
    rw [va_up_self]
    rfl
  · rw [e1, e2]
    have ok : ¬ md_cornerOK (Rg pl).2.2 x y := fun z => nc ⟨z.1, z.2.1, by have := z.2.2; omega⟩
    refine pr_no hI hM (c_X8_corner l X G A M h ad n f pl (Rg pl).2.2 n1 (by omega) n2_ hs8 x y) (fun v2 M2 hq => ?_)
    rw [hq.1, hq.2, pB_f ok]
    exact ⟨rfl, rfl⟩
theorem t_plot {f : Nat → Nat → Int32} {pl : Nat} {Rg : Nat → rg_R} (h : TR f pl Rg) : md_plotOK f pl (Rg pl).2.2 (fun i => (Rg i).2.2) pl ↔ (pl < 12 ∧ rg_ok (Rg pl) ∧ ¬ cs_ov pl Rg) := by
  unfold md_plotOK cs_ov
  rw [← rgE_ok (h.E (Nat.le_refl pl))]
  refine and_congr_right (fun _ => and_congr_right (fun _ => ?_))
  constructor
  · rintro z ⟨i, hi, y1, y2⟩
    rcases z i hi with y | y
    · exact y1 ((rgE_parts (h.E (Nat.le_refl pl)) (h.E (by omega))).mpr y)
    · exact y2 ((rgE_parts (h.E (by omega)) (h.E (Nat.le_refl pl))).mpr y)
  · intro z i hi
    by_cases y1 : rg_parts (Rg pl) (Rg i)
    · exact Or.inl ((rgE_parts (h.E (Nat.le_refl pl)) (h.E (by omega))).mp y1)
    · by_cases y2 : rg_parts (Rg i) (Rg pl)
      · exact Or.inr ((rgE_parts (h.E (by omega)) (h.E (Nat.le_refl pl))).mp y2)
      · exact absurd ⟨i, hi, y1, y2⟩ z
theorem pr_plot (l : Launch) (X : mp_X) (G : mp_G) (A : Nat → Prop) (M : mp_M) (bq h : Nat) (hI : INV G X M bq h) : mp_Met l X G A yX7_plot wsX7_plot rmX7_plot ([.ref bq] : List Value) M (PR l X G A bq h yX8_plot wsX8_plot rmX8_plot ([.ref h] : List Value)) 4 169 := by
  obtain ⟨ad, n, f, l0, l1, l2, l3, tp, tz, td, fl, tt, pl, ra, Rg, pn, pa, pf, pk, zc, zz, ap, aa, dq, av, dv, nh, ah, vh, hM, h92, hB, hT⟩ := id hI
  have hb9 := hB.b
  obtain ⟨hN, hR, hP, hA, hH⟩ := id hT
  obtain ⟨⟨n0, n0r⟩, n1, n2_, n3, n4, n5, n11, n14, f9, hby⟩ := id hN
  have hs8 := hB.Rs (Nat.le_refl pl)
  refine (c_X7_plot l X G A M bq l0 l1 l2 l3 tp tz td fl tt pl ra Rg pn pa pf pk zc zz ap aa dq av dv nh ah vh hB).imp1 (fun v M1 hp => ?_)
  rcases hp with ⟨ok, e1, ⟨ra2, hB1⟩, hF⟩ | ⟨nok, e1, hB1, hF⟩
  · rw [e1]
    refine pr_ref (md_keep hM hF) (c_X8_plot l X G A M1 h ad n f pl (Rg pl).2.2 (fun i => (Rg i).2.2) n1 (by omega) n2_ hs8 hR.co) (fun v2 M2 hq => ?_)
    rw [hq.1, hq.2, pB_t ((t_plot hR).mpr ok), if_pos rfl, if_pos rfl]
    refine ⟨rfl, INV.mk2 ((hF _ rfl).trans h92) hB1 ⟨⟨⟨n0, n0r⟩, rfl, ?_, n3, n4, n5, n11, n14, f9, hby⟩, ⟨fun i hi => ?_, fun i hi => ?_⟩, hP.congr rfl rfl rfl rfl rfl rfl, (hA.congr (fun k h1 h2 => by rw [va_up_ne _ _ (by omega)])).mono, hH.congr rfl rfl rfl rfl⟩⟩
    · rw [va_up_self]
      rfl
    · by_cases e : i = pl + 1
      · rw [e, va_up_self]
        exact ⟨fun j hj => absurd hj (Nat.not_lt_zero j), fun j hj => absurd hj (Nat.not_lt_zero j), by simp⟩
      · rw [va_up_ne _ _ e]
        exact hR.1 i (by omega)
    · show upd (f 6) pl (nI (Rg pl).2.2) i = nI (va_up Rg (pl + 1) _ i).2.2 ∧ rg_ok (va_up Rg (pl + 1) _ i)
      rw [va_up_ne Rg _ (show i ≠ pl + 1 by omega)]
      by_cases e : i = pl
      · rw [e, pk_us]
        exact ⟨rfl, ok.2.1⟩
      · rw [pk_un e]
        exact hR.2 i (by omega)
  · rw [e1]
    refine pr_ref (md_keep hM hF) (c_X8_plot l X G A M1 h ad n f pl (Rg pl).2.2 (fun i => (Rg i).2.2) n1 (by omega) n2_ hs8 hR.co) (fun v2 M2 hq => ?_)
    rw [hq.1, hq.2, pB_f (fun z => nok ((t_plot hR).mp z)), if_neg (by decide), if_neg (by decide)]
    refine ⟨rfl, INV.mk2 ((hF _ rfl).trans h92) hB1 ⟨⟨⟨n0, n0r⟩, n1, ?_, n3, n4, n5, n11, n14, f9, hby⟩, ⟨fun i hi => ?_, fun i hi => ?_⟩, hP.congr rfl rfl rfl rfl rfl rfl, hA.congr (fun k h1 h2 => by rw [va_up_ne _ _ (by omega)]), hH.congr rfl rfl rfl rfl⟩⟩
    · rw [va_up_self]
      rfl
    · by_cases e : i = pl
      · rw [e, va_up_self]
        exact ⟨fun j hj => absurd hj (Nat.not_lt_zero j), fun j hj => absurd hj (Nat.not_lt_zero j), by simp⟩
      · rw [va_up_ne _ _ e]
        exact hR.1 i (by omega)
    · show upd (f 6) pl (nI (Rg pl).2.2) i = nI (va_up Rg pl _ i).2.2 ∧ rg_ok (va_up Rg pl _ i)
      rw [va_up_ne Rg _ (show i ≠ pl by omega), pk_un (by omega)]
      exact hR.2 i hi
theorem four_by {g : Nat → Int32} {t : Nat} {v : Int32} (h : ∀ j, vp_nar .byte (g j) = g j) : ∀ j, vp_nar .byte (md_fourG g t v j) = md_fourG g t v j := by
  have u : ∀ (g : Nat → Int32) (k : Nat) (x : Int32), (∀ j, vp_nar .byte (g j) = g j) → vp_nar .byte x = x → ∀ j, vp_nar .byte (upd g k x j) = upd g k x j := by
    intro g k x h1 h2 j
    by_cases e : j = k
    · rw [e, pk_us]; exact h2
    · rw [pk_un e]; exact h1 j
  unfold md_fourG
  exact u _ _ _ (u _ _ _ (u _ _ _ (u _ _ _ h (tpb_nar _ _)) (tpb_nar _ _)) (tpb_nar _ _)) (tpb_nar _ _)
theorem feed_ne {f : Nat → Nat → Int32} {t : Nat} {a b c d e : Int32} {k : Nat} (h : k ≠ 9) : md_feedF f t a b c d e k = f k := by
  unfold md_feedF md_four
  rw [va_up_ne _ _ h, va_up_ne _ _ h, va_up_ne _ _ h, va_up_ne _ _ h, va_up_ne _ _ h]
theorem feed_9 {f : Nat → Nat → Int32} {tz : Nat} {x1 x2 x3 x4 x5 : Int32} : md_feedF f tz x1 x2 x3 x4 x5 9 = md_fourG (md_fourG (md_fourG (md_fourG (md_fourG (f 9) tz x1) (tz + 4) x2) (tz + 4 + 4) x3) (tz + 4 + 4 + 4) x4) (tz + 4 + 4 + 4 + 4) x5 := rfl
theorem pr_feed (l : Launch) (X : mp_X) (G : mp_G) (A : Nat → Prop) (M : mp_M) (bq h : Nat) (hI : INV G X M bq h) (x1 x2 x3 x4 x5 : Int32) : mp_Met l X G A yX7_feed wsX7_feed rmX7_feed ([.ref bq, .int x1, .int x2, .int x3, .int x4, .int x5] : List Value) M (PR l X G A bq h yX8_feed wsX8_feed rmX8_feed ([.ref h, .int x1, .int x2, .int x3, .int x4, .int x5] : List Value)) 0 0 := by
  obtain ⟨ad, n, f, l0, l1, l2, l3, tp, tz, td, fl, tt, pl, ra, Rg, pn, pa, pf, pk, zc, zz, ap, aa, dq, av, dv, nh, ah, vh, hM, h92, hB, hT⟩ := id hI
  have hb9 := hB.b
  obtain ⟨hN, hR, hP, hA, hH⟩ := id hT
  obtain ⟨⟨n0, n0r⟩, n1, n2_, n3, n4, n5, n11, n14, f9, hby⟩ := id hN
  refine (c_X7_feed l X G A M bq l0 l1 l2 l3 tp tz td fl tt pl ra Rg pn pa pf pk zc zz ap aa dq av dv nh ah vh hB x1 x2 x3 x4 x5).imp1 (fun v M1 hp => ?_)
  rcases hp with ⟨c1, e1, hB1, hF⟩ | ⟨c1, e1, e2⟩
  · rw [e1]
    refine pr_ref (md_keep hM hF) (c_X8_feed l X G A M1 h ad n f tz n11 (by omega) x1 x2 x3 x4 x5) (fun v2 M2 hq => ?_)
    rw [hq.1, hq.2, if_pos c1, if_pos c1]
    refine ⟨rfl, INV.mk2 ((hF _ rfl).trans h92) hB1 ⟨⟨⟨n0, n0r⟩, n1, n2_, n3, n4, n5, rfl, n14, by rw [feed_9, f9], by rw [feed_9]; exact four_by (four_by (four_by (four_by (four_by hby))))⟩, hR.congr (feed_ne (by decide)) (feed_ne (by decide)) (feed_ne (by decide)), hP.congr (feed_ne (by decide)) (feed_ne (by decide)) (feed_ne (by decide)) (feed_ne (by decide)) (feed_ne (by decide)) (feed_ne (by decide)), hA.congr (fun k h1 h2 => feed_ne (by omega)), hH.congr (feed_ne (by decide)) (feed_ne (by decide)) (feed_ne (by decide)) (feed_ne (by decide))⟩⟩
  · rw [e1, e2]
    refine pr_no hI hM (c_X8_feed l X G A M h ad n f tz n11 (by omega) x1 x2 x3 x4 x5) (fun v2 M2 hq => ?_)
    rw [hq.1, hq.2, if_neg c1, if_neg c1]
    exact ⟨rfl, rfl⟩
theorem pr_hold (l : Launch) (X : mp_X) (G : mp_G) (A : Nat → Prop) (M : mp_M) (bq h : Nat) (hI : INV G X M bq h) (q w t : Int32) : mp_Met l X G A yX7_hold wsX7_hold rmX7_hold ([.ref bq, .int q, .int w, .int t] : List Value) M (PR l X G A bq h yX8_hold wsX8_hold rmX8_hold ([.ref h, .int q, .int w, .int t] : List Value)) 2 154 := by
  obtain ⟨ad, n, f, l0, l1, l2, l3, tp, tz, td, fl, tt, pl, ra, Rg, pn, pa, pf, pk, zc, zz, ap, aa, dq, av, dv, nh, ah, vh, hM, h92, hB, hT⟩ := id hI
  have hb9 := hB.b
  obtain ⟨hN, hR, hP, hA, hH⟩ := id hT
  obtain ⟨⟨n0, n0r⟩, n1, n2_, n3, n4, n5, n11, n14, f9, hby⟩ := id hN
  have e : md_holdOK n pl nh q w t ↔ (isAt q pl ∧ md_in w 0 99 ∧ md_in t 0 td ∧ nh ≠ 100) := by
    unfold md_holdOK
    rw [← isAt_in (by omega), n0]
  refine (c_X7_hold l X G A M bq l0 l1 l2 l3 tp tz td fl tt pl ra Rg pn pa pf pk zc zz ap aa dq av dv nh ah vh hB q w t).imp1 (fun v M1 hp => ?_)
  rcases hp with ⟨c1, e1, ⟨ah2, hB1⟩, hF⟩ | ⟨c1, e1, e2⟩
  · rw [e1]
    refine pr_ref (md_keep hM hF) (c_X8_hold l X G A M1 h ad n f pl n1 (by omega) nh n5 (by omega) q w t) (fun v2 M2 hq => ?_)
    rw [hq.1, hq.2, pB_t (e.mpr c1), if_pos rfl]
    have g41 : md_holdF f nh q w t (n 0) 41 = upd (f 41) nh q := rfl
    have g42 : md_holdF f nh q w t (n 0) 42 = upd (f 42) nh w := rfl
    have g43 : md_holdF f nh q w t (n 0) 43 = upd (f 43) nh t := rfl
    have g44 : md_holdF f nh q w t (n 0) 44 = upd (f 44) nh (n 0) := rfl
    refine ⟨rfl, INV.mk2 ((hF _ rfl).trans h92) hB1 ⟨⟨⟨n0, n0r⟩, n1, n2_, n3, n4, rfl, n11, n14, f9, hby⟩, hR.congr rfl rfl rfl, hP.congr rfl rfl rfl rfl rfl rfl, hA.congr (fun k h1 h2 => by unfold md_holdF; rw [va_up_ne _ _ (by omega), va_up_ne _ _ (by omega), va_up_ne _ _ (by omega), va_up_ne _ _ (by omega)]), fun i hi => ?_⟩⟩
    rw [g41, g42, g43, g44]
    by_cases ei : i = nh
    · rw [ei, pk_us, pk_us, pk_us, pk_us, va_up_self]
      exact ⟨rfl, rfl, rfl, n0⟩
    · rw [pk_un ei, pk_un ei, pk_un ei, pk_un ei, va_up_ne _ _ ei]
      exact hH i (by omega)
  · rw [e1, e2]
    refine pr_no hI hM (c_X8_hold l X G A M h ad n f pl n1 (by omega) nh n5 (by omega) q w t) (fun v2 M2 hq => ?_)
    rw [hq.1, hq.2, pB_f (fun z => c1 (e.mp z))]
    exact ⟨rfl, rfl⟩
theorem pr_apply (l : Launch) (X : mp_X) (G : mp_G) (A : Nat → Prop) (M : mp_M) (bq h : Nat) (hI : INV G X M bq h) (q x0 y0 x1 y1 ht us : Int32) : mp_Met l X G A yX7_apply wsX7_apply rmX7_apply ([.ref bq, .int q, .int x0, .int y0, .int x1, .int y1, .int ht, .int us] : List Value) M (PR l X G A bq h yX8_apply wsX8_apply rmX8_apply ([.ref h, .int q, .int x0, .int y0, .int x1, .int y1, .int ht, .int us] : List Value)) 3 169 := by
  obtain ⟨ad, n, f, l0, l1, l2, l3, tp, tz, td, fl, tt, pl, ra, Rg, pn, pa, pf, pk, zc, zz, ap, aa, dq, av, dv, nh, ah, vh, hM, h92, hB, hT⟩ := id hI
  have hb9 := hB.b
  obtain ⟨hN, hR, hP, hA, hH⟩ := id hT
  obtain ⟨⟨n0, n0r⟩, n1, n2_, n3, n4, n5, n11, n14, f9, hby⟩ := id hN
  have e : md_applyOK pl ap q x0 y0 x1 y1 ht us ↔ (cs_des pl q x0 y0 x1 y1 ht us ∧ ap ≠ 40) := by
    unfold md_applyOK
    rw [← and_assoc, des_cg (by omega)]
  refine (c_X7_apply l X G A M bq l0 l1 l2 l3 tp tz td fl tt pl ra Rg pn pa pf pk zc zz ap aa dq av dv nh ah vh hB q x0 y0 x1 y1 ht us).imp1 (fun v M1 hp => ?_)
  rcases hp with ⟨c1, e1, ⟨aa2, dq2, hB1⟩, hF⟩ | ⟨c1, e1, e2⟩
  · rw [e1]
    refine pr_ref (md_keep hM hF) (c_X8_apply l X G A M1 h ad n f pl n1 (by omega) ap n4 (by omega) q x0 y0 x1 y1 ht us) (fun v2 M2 hq => ?_)
    rw [hq.1, hq.2, pB_t (e.mpr c1), if_pos rfl, if_pos rfl]
    have g23 : md_applyF f ap q x0 y0 x1 y1 ht us (n 0) 23 = upd (f 23) ap q := rfl
    have g24 : md_applyF f ap q x0 y0 x1 y1 ht us (n 0) 24 = upd (f 24) ap x0 := rfl
    have g25 : md_applyF f ap q x0 y0 x1 y1 ht us (n 0) 25 = upd (f 25) ap y0 := rfl
    have g26 : md_applyF f ap q x0 y0 x1 y1 ht us (n 0) 26 = upd (f 26) ap x1 := rfl
    have g27 : md_applyF f ap q x0 y0 x1 y1 ht us (n 0) 27 = upd (f 27) ap y1 := rfl
    have g28 : md_applyF f ap q x0 y0 x1 y1 ht us (n 0) 28 = upd (f 28) ap ht := rfl
    have g29 : md_applyF f ap q x0 y0 x1 y1 ht us (n 0) 29 = upd (f 29) ap us := rfl
    have g30 : md_applyF f ap q x0 y0 x1 y1 ht us (n 0) 30 = upd (f 30) ap (n 0) := rfl
    have g34 : md_applyF f ap q x0 y0 x1 y1 ht us (n 0) 34 = upd (f 34) ap (-1) := rfl
    have g35 : md_applyF f ap q x0 y0 x1 y1 ht us (n 0) 35 = upd (f 35) ap (-1) := rfl
    have g36 : md_applyF f ap q x0 y0 x1 y1 ht us (n 0) 36 = upd (f 36) ap (-1) := rfl
    have g37 : md_applyF f ap q x0 y0 x1 y1 ht us (n 0) 37 = upd (f 37) ap (-1) := rfl
    have g31 : md_applyF f ap q x0 y0 x1 y1 ht us (n 0) 31 = f 31 := rfl
    have g32 : md_applyF f ap q x0 y0 x1 y1 ht us (n 0) 32 = f 32 := rfl
    have g33 : md_applyF f ap q x0 y0 x1 y1 ht us (n 0) 33 = f 33 := rfl
    have g38 : md_applyF f ap q x0 y0 x1 y1 ht us (n 0) 38 = f 38 := rfl
    have g39 : md_applyF f ap q x0 y0 x1 y1 ht us (n 0) 39 = f 39 := rfl
    have g40 : md_applyF f ap q x0 y0 x1 y1 ht us (n 0) 40 = f 40 := rfl
    refine ⟨rfl, INV.mk2 ((hF _ rfl).trans h92) hB1 ⟨⟨⟨n0, n0r⟩, n1, n2_, n3, rfl, n5, n11, n14, f9, hby⟩, hR.congr rfl rfl rfl, hP.congr rfl rfl rfl rfl rfl rfl, ⟨fun a ha => ?_, fun a ha => ?_⟩, hH.congr rfl rfl rfl rfl⟩⟩
    · unfold TA1
      rw [g23, g24, g25, g26, g27, g28, g29, g30, g31, g32, g33, g34, g35, g36, g37, g38, g39, g40]
      by_cases ea : a = ap
      · subst ea
        obtain ⟨k1, k2_, k3, k4, k5⟩ := hA.2 a (Nat.le_refl a)
        rw [va_up_self, va_up_self]
        refine ⟨⟨pk_us, pk_us, pk_us, pk_us, pk_us, pk_us, pk_us, c1.1⟩, ⟨pk_us.trans n0, n0r, k1, k2_, k3, pk_us, pk_us, pk_us, pk_us, fun z => absurd rfl z, k4⟩, ⟨fun z => absurd z (show ¬ (0 : Int32) = 4 by decide), fun z => absurd rfl z⟩, fun _ => rfl, fun r hr => ?_⟩
        rw [k5 r hr]
        exact ⟨fun _ => Int32.zero_and, fun _ => rfl⟩
      · simp only [pk_un ea, va_up_ne _ _ ea]
        exact hA.1 a (by omega)
    · rw [g31, g32, g33, g39, g40]
      exact hA.2 a (by omega)
  · rw [e1, e2]
    refine pr_no hI hM (c_X8_apply l X G A M h ad n f pl n1 (by omega) ap n4 (by omega) q x0 y0 x1 y1 ht us) (fun v2 M2 hq => ?_)
    rw [hq.1, hq.2, pB_f (fun z => c1 (e.mp z))]
    exact ⟨rfl, rfl⟩
