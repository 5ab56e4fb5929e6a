/-! ===== class and reference side by side: what ties them ===== -/
theorem md_non9 {G : mp_G} {M : mp_M} {h : Nat} {ad : Nat → Nat} {n : Nat → Int32} {f : Nat → Nat → Int32} {q : mp_N} (hq : q.1 ≠ 9) : md_M G M h ad n f q = M q := by
  have h1 : ¬ q = (9, 0, 0) := fun z => hq (by rw [z])
  have h2 : ¬ (q.1 = 9 ∧ q.2.1 = 1) := fun z => hq z.1
  simp only [md_M, if_neg h1, if_neg h2]
theorem md_92 {G : mp_G} {M : mp_M} {h : Nat} {ad : Nat → Nat} {n : Nat → Int32} {f : Nat → Nat → Int32} : md_M G M h ad n f (9, 2, 0) = M (9, 2, 0) := by
  have h1 : ¬ ((9, 2, 0) : mp_N) = (9, 0, 0) := by simp
  have h2 : ¬ ((9, 2, 0) : mp_N).2.1 = 1 := by simp
  simp only [md_M, if_neg h1]
  rw [if_neg (fun z => h2 z.2)]
theorem md_keep {G : mp_G} {M M1 : mp_M} {h : Nat} {ad : Nat → Nat} {n : Nat → Int32} {f : Nat → Nat → Int32} (hM : M = md_M G M h ad n f) (hF : ∀ k : mp_N, k.1 = 9 → M1 k = M k) : M1 = md_M G M1 h ad n f := by
  funext q
  by_cases hq : q = (9, 0, 0)
  · rw [hq, hF _ rfl, md_obj]
    exact (congrFun hM _).trans (md_obj G M h ad n f)
  · by_cases h1 : q.1 = 9 ∧ q.2.1 = 1
    · cases ha : md_arr q.2.2 with
      | none => simp only [md_M, if_neg hq, if_pos h1, ha]
      | some x =>
        rw [hF q h1.1]
        refine (congrFun hM q).trans ?_
        simp only [md_M, if_neg hq, if_pos h1, ha]
    · simp only [md_M, if_neg hq, if_neg h1]
theorem md_idem {G : mp_G} {M : mp_M} {h : Nat} {ad : Nat → Nat} {n n' : Nat → Int32} {f f' : Nat → Nat → Int32} : md_M G M h ad n f = md_M G (md_M G M h ad n' f') h ad n f := by
  funext q
  by_cases hq : q = (9, 0, 0)
  · rw [hq, md_obj, md_obj]
  · by_cases h1 : q.1 = 9 ∧ q.2.1 = 1
    · cases ha : md_arr q.2.2 <;> simp only [md_M, if_neg hq, if_pos h1, ha]
    · simp only [md_M, if_neg hq, if_neg h1]
def zrB (r : zr) : Prop := ∀ u, u < 4 → r.2.2 u = -1 ∨ md_in (r.2.2 u) 0 999
def TN (n : Nat → Int32) (f : Nat → Nat → Int32) (tz : Nat) (td fl : Int32) (tt : Nat → Int32) (pl : Nat) (Rg : Nat → rg_R) (pn ap nh : Nat) : Prop :=
  (n 0 = td ∧ md_in td 0 9999) ∧ n 1 = nI pl ∧ n 2 = nI (Rg pl).2.2 ∧ n 3 = nI pn ∧ n 4 = nI ap ∧ n 5 = nI nh ∧ n 11 = nI tz ∧ n 14 = fl ∧ f 9 = tt ∧ ∀ j, vp_nar .byte (f 9 j) = f 9 j
def TR (f : Nat → Nat → Int32) (pl : Nat) (Rg : Nat → rg_R) : Prop :=
  (∀ i, i ≤ pl → (∀ j, j < (Rg i).2.2 → (Rg i).1 j = f 7 (8 * i + j) ∧ (Rg i).2.1 j = f 8 (8 * i + j)) ∧ RgB (Rg i) ∧ (Rg i).2.2 ≤ 8) ∧ ∀ i, i < pl → f 6 i = nI (Rg i).2.2 ∧ rg_ok (Rg i)
def TP (f : Nat → Nat → Int32) (pn : Nat) (pf pk : Nat → Int32) (zc : Nat → Nat) (zz : Nat → Nat → zr) : Prop :=
  ∀ i, i < pn → f 15 i = pf i ∧ f 16 i = pk i ∧ f 17 i = nI (zc i) ∧ zc i ≤ 8 ∧ ∀ z, z < zc i → zAt f (8 * i + z) (zz i z) ∧ zrB (zz i z)
def dsV (pl : Nat) (D : ds_D) : Prop := cs_des pl D.1 D.2.1 D.2.2.1 D.2.2.2.1 D.2.2.2.2.1 D.2.2.2.2.2.1 D.2.2.2.2.2.2
def TA1 (f : Nat → Nat → Int32) (pl a : Nat) (v : Nat → Int32) (D : ds_D) : Prop :=
  (f 23 a = D.1 ∧ f 24 a = D.2.1 ∧ f 25 a = D.2.2.1 ∧ f 26 a = D.2.2.2.1 ∧ f 27 a = D.2.2.2.2.1 ∧ f 28 a = D.2.2.2.2.2.1 ∧ f 29 a = D.2.2.2.2.2.2 ∧ dsV pl D) ∧
  (f 30 a = v 1 ∧ md_in (v 1) 0 9999 ∧ f 31 a = v 2 ∧ f 32 a = v 5 ∧ f 33 a = v 4 ∧ f 34 a = v 6 ∧ f 35 a = v 7 ∧ f 36 a = v 8 ∧ f 37 a = v 10 ∧ (v 10 ≠ -1 → f 38 a = v 11) ∧ f 39 a = v 9) ∧
  (v 2 = 4 ↔ v 8 ≠ -1) ∧ (v 2 = 0 → v 5 = 0) ∧ ∀ r, r < 12 → (f 40 (12 * a + r) = 0 ↔ v 3 &&& btO (nI r) = 0)
def TA (f : Nat → Nat → Int32) (pl ap : Nat) (av : Nat → Nat → Int32) (dv : Nat → ds_D) : Prop :=
  (∀ a, a < ap → TA1 f pl a (av a) (dv a)) ∧ ∀ a, ap ≤ a → f 31 a = 0 ∧ f 32 a = 0 ∧ f 33 a = 0 ∧ f 39 a = 0 ∧ ∀ r, r < 12 → f 40 (12 * a + r) = 0
def TH (f : Nat → Nat → Int32) (nh : Nat) (vh : Nat → Nat → Int32) : Prop := ∀ i, i < nh → f 41 i = vh i 0 ∧ f 42 i = vh i 1 ∧ f 43 i = vh i 2 ∧ f 44 i = vh i 3
def TIE (n : Nat → Int32) (f : Nat → Nat → Int32) (tz : Nat) (td fl : Int32) (tt : Nat → Int32) (pl : Nat) (Rg : Nat → rg_R) (pn : Nat) (pf pk : Nat → Int32) (zc : Nat → Nat) (zz : Nat → Nat → zr) (ap : Nat) (av : Nat → Nat → Int32) (dv : Nat → ds_D) (nh : Nat) (vh : Nat → Nat → Int32) : Prop :=
  TN n f tz td fl tt pl Rg pn ap nh ∧ TR f pl Rg ∧ TP f pn pf pk zc zz ∧ TA f pl ap av dv ∧ TH f nh vh
def INV (G : mp_G) (X : mp_X) (M : mp_M) (bq h : Nat) : Prop := ∃ (ad : Nat → Nat) (n : Nat → Int32) (f : Nat → Nat → Int32) (l0 : Nat) (l1 : Nat) (l2 : Nat) (l3 : Nat) (tp : Nat) (tz : Nat) (td : Int32) (fl : Int32) (tt : Nat → Int32) (pl : Nat) (ra : Nat → Nat) (Rg : Nat → rg_R) (pn : Nat) (pa : Nat → Nat) (pf : Nat → Int32) (pk : Nat → Int32) (zc : Nat → Nat) (zz : Nat → Nat → zr) (ap : Nat) (aa : Nat → Nat) (dq : Nat → Nat) (av : Nat → Nat → Int32) (dv : Nat → ds_D) (nh : Nat) (ah : Nat → Nat) (vh : Nat → Nat → Int32), M = md_M G M h ad n f ∧ M (9, 2, 0) = none ∧ BN G X M bq l0 l1 l2 l3 tp tz td fl tt pl ra Rg pn pa pf pk zc zz ap aa dq av dv nh ah vh ∧ TIE n f tz td fl tt pl Rg pn pf pk zc zz ap av dv nh vh
theorem INV.mk2 {G : mp_G} {X : mp_X} {M1 : mp_M} {h : Nat} {ad : Nat → Nat} {n : Nat → Int32} {f : Nat → Nat → Int32} {bq : Nat} {l0 : Nat} {l1 : Nat} {l2 : Nat} {l3 : Nat} {tp : Nat} {tz : Nat} {td : Int32} {fl : Int32} {tt : Nat → Int32} {pl : Nat} {ra : Nat → Nat} {Rg : Nat → rg_R} {pn : Nat} {pa : Nat → Nat} {pf : Nat → Int32} {pk : Nat → Int32} {zc : Nat → Nat} {zz : Nat → Nat → zr} {ap : Nat} {aa : Nat → Nat} {dq : Nat → Nat} {av : Nat → Nat → Int32} {dv : Nat → ds_D} {nh : Nat} {ah : Nat → Nat} {vh : Nat → Nat → Int32} (h9 : M1 (9, 2, 0) = none) (hB : BN G X M1 bq l0 l1 l2 l3 tp tz td fl tt pl ra Rg pn pa pf pk zc zz ap aa dq av dv nh ah vh) (hT : TIE n f tz td fl tt pl Rg pn pf pk zc zz ap av dv nh vh) : INV G X (md_M G M1 h ad n f) bq h :=
  ⟨ad, n, f, l0, l1, l2, l3, tp, tz, td, fl, tt, pl, ra, Rg, pn, pa, pf, pk, zc, zz, ap, aa, dq, av, dv, nh, ah, vh, md_idem, md_92.trans h9, hB.congr (fun j hj _ => md_non9 hj), hT⟩
theorem TR.congr {f f2 : Nat → Nat → Int32} {pl : Nat} {Rg : Nat → rg_R} (h : TR f pl Rg) (e6 : f2 6 = f 6) (e7 : f2 7 = f 7) (e8 : f2 8 = f 8) : TR f2 pl Rg := by
  unfold TR
  rw [e6, e7, e8]
  exact h
theorem TP.congr {f f2 : Nat → Nat → Int32} {pn : Nat} {pf pk : Nat → Int32} {zc : Nat → Nat} {zz : Nat → Nat → zr} (h : TP f pn pf pk zc zz) (e1 : f2 15 = f 15) (e2 : f2 16 = f 16) (e3 : f2 17 = f 17) (e4 : f2 18 = f 18) (e5 : f2 19 = f 19) (e6 : f2 20 = f 20) : TP f2 pn pf pk zc zz := by
  unfold TP zAt
  rw [e1, e2, e3, e4, e5, e6]
  exact h
theorem TH.congr {f f2 : Nat → Nat → Int32} {nh : Nat} {vh : Nat → Nat → Int32} (h : TH f nh vh) (e1 : f2 41 = f 41) (e2 : f2 42 = f 42) (e3 : f2 43 = f 43) (e4 : f2 44 = f 44) : TH f2 nh vh := by
  unfold TH
  rw [e1, e2, e3, e4]
  exact h
theorem TA.congr {f f2 : Nat → Nat → Int32} {pl ap : Nat} {av : Nat → Nat → Int32} {dv : Nat → ds_D} (h : TA f pl ap av dv) (e : ∀ k, 23 ≤ k → k ≤ 40 → f2 k = f k) : TA f2 pl ap av dv := by
  unfold TA TA1
  rw [e 23 (by omega) (by omega), e 24 (by omega) (by omega), e 25 (by omega) (by omega), e 26 (by omega) (by omega), e 27 (by omega) (by omega), e 28 (by omega) (by omega), e 29 (by omega) (by omega), e 30 (by omega) (by omega), e 31 (by omega) (by omega), e 32 (by omega) (by omega), e 33 (by omega) (by omega), e 34 (by omega) (by omega), e 35 (by omega) (by omega), e 36 (by omega) (by omega), e 37 (by omega) (by omega), e 38 (by omega) (by omega), e 39 (by omega) (by omega), e 40 (by omega) (by omega)]
  exact h
theorem TR.E {f : Nat → Nat → Int32} {pl : Nat} {Rg : Nat → rg_R} (h : TR f pl Rg) {i : Nat} (hi : i ≤ pl) : RgE (Rg i) (md_rg f i (Rg i).2.2) := ⟨rfl, fun j hj => (h.1 i hi).1 j hj⟩
theorem TR.co {f : Nat → Nat → Int32} {pl : Nat} {Rg : Nat → rg_R} (h : TR f pl Rg) : ∀ o, o < pl → f 6 o = nI ((fun i => (Rg i).2.2) o) ∧ 0 < (fun i => (Rg i).2.2) o ∧ (fun i => (Rg i).2.2) o ≤ 8 := fun o ho => ⟨(h.2 o ho).1, by have := (h.2 o ho).2.1; show 0 < (Rg o).2.2; omega, (h.1 o (by omega)).2.2⟩
theorem TP.zm {f : Nat → Nat → Int32} {pn : Nat} {pf pk : Nat → Int32} {zc : Nat → Nat} {zz : Nat → Nat → zr} (h : TP f pn pf pk zc zz) : ∀ o, o < pn → f 17 o = nI (zc o) ∧ zc o ≤ 8 := fun o ho => ⟨(h o ho).2.2.1, (h o ho).2.2.2.1⟩
/-- behind the class's call: its answer, and what the reference's call then does -/
def PR (l : Launch) (X : mp_X) (G : mp_G) (A : Nat → Prop) (bq h : Nat) (y : MethodName) (ws : List Cond) (rm : Room) (av : List Value) (v : Option Value) (M1 : mp_M) : Prop :=
  ∃ V : Int32, v = some (.int V) ∧ (∃ fs : List Value, M1 (9, 0, 0) = some (h, .inr (9, fs))) ∧ mp_Met l X G A y ws rm av M1 (fun v2 M2 => v2 = some (.int V) ∧ INV G X M2 bq h) 0 0
section PRS
variable {l : Launch} {X : mp_X} {G : mp_G} {A : Nat → Prop} {M M1 : mp_M} {bq h : Nat} {y yc : MethodName} {ws wsc : List Cond} {rm rmc : Room} {av avc : List Value} {ad : Nat → Nat} {n : Nat → Int32} {f : Nat → Nat → Int32} {mc ms : Nat}
theorem pr_ref {V : Int32} {post : Option Value → mp_M → Prop} (hM1 : M1 = md_M G M1 h ad n f) (hr : mp_Met l X G A y ws rm av (md_M G M1 h ad n f) post 0 0) (hq : ∀ v2 M2, post v2 M2 → v2 = some (.int V) ∧ INV G X M2 bq h) : PR l X G A bq h y ws rm av (some (.int V)) M1 := by
  refine ⟨V, rfl, ⟨_, (congrFun hM1 _).trans (md_obj G M1 h ad n f)⟩, ?_⟩
  rw [← hM1] at hr
  exact hr.imp1 hq
theorem rd_pair {V V' : Int32} (hI : INV G X M bq h) (hM : M = md_M G M h ad n f) (hc : mp_Met l X G A yc wsc rmc avc M (fun r M1 => r = some (.int V) ∧ M1 = M) mc ms) (hr : mp_Met l X G A y ws rm av (md_M G M h ad n f) (fun v M1 => v = some (.int V') ∧ M1 = md_M G M h ad n f) 0 0) (e : V' = V) : mp_Met l X G A yc wsc rmc avc M (PR l X G A bq h y ws rm av) mc ms :=
  hc.imp1 (fun v M1 hp => by
    rw [hp.1, hp.2]
    exact pr_ref hM hr (fun v2 M2 hq => ⟨by rw [hq.1, e], by rw [hq.2, ← hM]; exact hI⟩))
end PRS
/-! ===== answers of calls that only ask ===== -/
theorem t_ring {f : Nat → Nat → Int32} {pl : Nat} {Rg : Nat → rg_R} (h : TR f pl Rg) (hpl : pl ≤ 12) (q w : Int32) : md_ringV f pl (fun i => (Rg i).2.2) q w = cs_ring pl Rg q w := by
  unfold md_ringV cs_ring
  by_cases hq : isAt q pl
  · have hq' := (isAt_in (q := q) (k := pl) (by omega)).mp hq
    rw [pB_t hq, if_pos rfl]
    obtain ⟨i, hi, e⟩ := hq
    have hR := h.1 i (by omega)
    rw [e, nI_clamp (by omega)]
    by_cases hw : 0 ≤ w
    · rw [pB_t (show md_in (nI i) 0 (nI pl - 1) ∧ 0 ≤ w from ⟨by rw [← e]; exact hq', hw⟩), if_pos rfl]
      by_cases w0 : w = 0
      · rw [if_pos w0, if_pos w0]
        exact (h.2 i hi).1
      · rw [if_neg w0, if_neg w0]
        by_cases w1 : w = 1
        · rw [if_pos w1, if_pos w1]
          exact (rgE_area (h.E (by omega))).symm
        · rw [if_neg w1, if_neg w1]
          obtain ⟨u, hu, ew⟩ := nI_of (i_nlt.mpr hw)
          have u0 : u ≠ 0 := fun z => w0 (by rw [ew, z]; rfl)
          have u1 : u ≠ 1 := fun z => w1 (by rw [ew, z]; rfl)
          have e1 : nI u / 2 = nI (u / 2) := pk_div (a := u) (d := 2) hu (by omega) (by omega)
          have e2 : nI (u / 2) - 1 = nI (u / 2 - 1) := pk_sub (a := u / 2) (b := 1) (by omega)
          have e3 : nI u - 2 = nI (u - 2) := pk_sub (a := u) (b := 2) (by omega)
          have e4 : nI u - nI u / 2 * 2 = nI (u % 2) := pk_rem (a := u) (d := 2) hu (by omega) (by omega)
          have e5 : ¬ nI u < 2 := fun z => absurd ((nI_ltI (a := u) (b := 2) hu (by omega)).mp z) (by omega)
          rw [ew, if_neg e5, e4, e1, e2, e3, nI_clamp (by omega), rg_co, nI_clamp (by omega)]
          by_cases c1 : (Rg i).2.2 ≤ u / 2 - 1
          · rw [if_pos ((nI_leI (by omega) (by omega)).mpr c1), pB_f (fun ⟨j, hj, ej⟩ => by have := (nI_eq (by omega) (by omega)).mp ej; omega)]
            rfl
          · rw [if_neg (fun z => c1 ((nI_leI (by omega) (by omega)).mp z)), pB_t (show isAt (nI (u - 2)) (2 * (Rg i).2.2) from ⟨u - 2, by omega, rfl⟩), if_pos rfl, show (u - 2) / 2 = u / 2 - 1 by omega]
            have hj := hR.1 (u / 2 - 1) (by omega)
            by_cases c3 : (u - 2) % 2 = 0
            · rw [if_pos c3, if_pos (by rw [show u % 2 = 0 by omega]; rfl), hj.1]
            · rw [if_neg c3, if_neg (by rw [show u % 2 = 1 by omega]; decide), hj.2]
    · rw [pB_f (fun z => hw z.2), if_neg (by decide)]
      have w2 := (i_lt _ _).mp (i_nle.mp hw)
      have e0 : (0 : Int32).toInt = 0 := rfl
      rw [if_neg (fun z => hw (by rw [z]; decide)), if_neg (fun z => hw (by rw [z]; decide)), if_pos ((i_lt _ _).mpr (by have e2 : (2 : Int32).toInt = 2 := rfl; omega))]
  · rw [pB_f hq, pB_f (fun z => hq ((isAt_in (by omega)).mpr z.1))]
    rfl
theorem t_near {f : Nat → Nat → Int32} {pl : Nat} {Rg : Nat → rg_R} (h : TR f pl Rg) (hpl : pl ≤ 12) (a b d : Int32) : md_nearOK f pl (fun i => (Rg i).2.2) a b d ↔ cs_near pl Rg a b d := by
  unfold md_nearOK cs_near
  rw [← isAt_in (by omega), ← isAt_in (by omega)]
  constructor
  · rintro ⟨h1, h2, h3, h4, h5⟩
    refine ⟨h1, h2, h3, h4, ?_⟩
    obtain ⟨i, hi, e⟩ := h1
    obtain ⟨j, hj, e'⟩ := h2
    rw [e, e', nI_clamp (by omega), nI_clamp (by omega)] at h5 ⊢
    exact (near_cg (h.E (by omega)) (h.E (by omega)) (h.1 i (by omega)).2.1 (h.1 j (by omega)).2.1).mpr h5
  · rintro ⟨h1, h2, h3, h4, h5⟩
    refine ⟨h1, h2, h3, h4, ?_⟩
    obtain ⟨i, hi, e⟩ := h1
    obtain ⟨j, hj, e'⟩ := h2
    rw [e, e', nI_clamp (by omega), nI_clamp (by omega)] at h5 ⊢
    exact (near_cg (h.E (by omega)) (h.E (by omega)) (h.1 i (by omega)).2.1 (h.1 j (by omega)).2.1).mp h5
theorem t_bst {f : Nat → Nat → Int32} {pn : Nat} {pf pk : Nat → Int32} {zc : Nat → Nat} {zz : Nat → Nat → zr} (h : TP f pn pf pk zc zz) (d k : Int32) : bst (md_planP f d k) (f 15) pn = bst (cs_plP pf pk d k) pf pn :=
  bst_cg pn (fun i hi => by unfold md_planP cs_plP; rw [(h i hi).1, (h i hi).2.1]) (fun i hi => (h i hi).1)
theorem t_fst {f : Nat → Nat → Int32} {pn : Nat} {pf pk : Nat → Int32} {zc : Nat → Nat} {zz : Nat → Nat → zr} (h : TP f pn pf pk zc zz) {i r : Nat} (hi : i < pn) (hr : r < 16) : fst (fun j => zbit (f 18 (8 * i + j)) (nI r)) (zc i) = fst (cs_znP (zz i) (nI r)) (zc i) :=
  fst_cg _ (fun z hz => by unfold cs_znP; rw [((h i hi).2.2.2.2 z hz).1.1]; exact (bit_z hr).symm)
theorem t_plan {f : Nat → Nat → Int32} {pn : Nat} {pf pk : Nat → Int32} {zc : Nat → Nat} {zz : Nat → Nat → zr} (h : TP f pn pf pk zc zz) (d k : Int32) : md_plan f pn d k = if pB (md_in d 0 9999 ∧ md_in k 0 9999) then oI (bst (cs_plP pf pk d k) pf pn) else -1 := by
  rw [md_plan, t_bst h]
theorem zrv_u (r : zr) (u : Nat) : zrv r (u + 2) = r.2.2 u := rfl
theorem t_znT {f : Nat → Nat → Int32} {z i z0 : Nat} {r : zr} (h : zAt f z r) (hz : z = 8 * i + z0) (hz0 : z0 < 8) (w : Int32) : md_zoneV f z w = if w = 0 then nI z0 else znT (zrv r) w := by
  unfold md_zoneV
  by_cases w0 : w = 0
  · rw [if_pos w0, if_pos w0, show z % 8 = z0 by omega]
  · rw [if_neg w0, if_neg w0]
    unfold znT
    by_cases c1 : md_in w 1 4
    · rw [pB_t c1, if_pos rfl]
      obtain ⟨u, hu, ew⟩ := nI_of2 (x := w) (M := 4) (n := 4) rfl (i_nlt.mpr (by have a := (i_le _ _).mp c1.1; have e1 : (1 : Int32).toInt = 1 := rfl; exact (i_le _ _).mpr (by have e0 : (0 : Int32).toInt = 0 := rfl; omega))) c1.2
      have u0 : u ≠ 0 := fun y => w0 (by rw [ew, y]; rfl)
      rw [ew, nI_clamp (by omega)]
      have hu4 : u = 1 ∨ u = 2 ∨ u = 3 ∨ u = 4 := by omega
      rcases hu4 with rfl | rfl | rfl | rfl
      · rw [if_pos (show (nI 1 : Int32) = 1 from rfl)]; exact h.2.2 0 (by omega)
      · rw [if_neg (show ¬ (nI 2 : Int32) = 1 by decide), if_pos (show (nI 2 : Int32) = 2 from rfl)]; exact h.2.2 1 (by omega)
      · rw [if_neg (show ¬ (nI 3 : Int32) = 1 by decide), if_neg (show ¬ (nI 3 : Int32) = 2 by decide), if_pos (show (nI 3 : Int32) = 3 from rfl)]; exact h.2.2 2 (by omega)
      · rw [if_neg (show ¬ (nI 4 : Int32) = 1 by decide), if_neg (show ¬ (nI 4 : Int32) = 2 by decide), if_neg (show ¬ (nI 4 : Int32) = 3 by decide), if_pos (show (nI 4 : Int32) = 4 from rfl)]; exact h.2.2 3 (by omega)
    · rw [pB_f c1, if_neg (by decide), if_neg (show ¬ w = 1 from fun y => c1 (by rw [y]; exact ⟨by decide, by decide⟩)), if_neg (show ¬ w = 2 from fun y => c1 (by rw [y]; exact ⟨by decide, by decide⟩)), if_neg (show ¬ w = 3 from fun y => c1 (by rw [y]; exact ⟨by decide, by decide⟩)), if_neg (show ¬ w = 4 from fun y => c1 (by rw [y]; exact ⟨by decide, by decide⟩))]
      by_cases c3 : md_in w 10 17
      · rw [pB_t c3, if_pos rfl, if_pos rfl]
        have a := (i_le _ _).mp c3.1
        have b := (i_le _ _).mp c3.2
        have e1 : (10 : Int32).toInt = 10 := rfl
        have e2 : (17 : Int32).toInt = 17 := rfl
        obtain ⟨u, hu, ew⟩ := nI_of (x := w) (fun y => by have := (i_lt _ _).mp y; have e0 : (0 : Int32).toInt = 0 := rfl; omega)
        have hu2 : (nI u).toInt = u := nI_toInt hu
        rw [ew] at a b
        have e3 : nI u - 10 = nI (u - 10) := pk_sub (a := u) (b := 10) (by omega)
        rw [ew, e3, h.2.1]
        exact (bit_i (by omega)).symm
      · rw [pB_f c3, if_neg (by decide), if_neg (by decide)]
theorem t_zone {f : Nat → Nat → Int32} {pl pn : Nat} {pf pk : Nat → Int32} {zc : Nat → Nat} {zz : Nat → Nat → zr} (h : TP f pn pf pk zc zz) (hpl : pl ≤ 12) (hpn : pn ≤ 20) (q1 q2 w : Int32) : md_zone f pn pl zc q1 q2 w = cs_zone pl pn zc zz q1 q2 w := by
  unfold md_zone cs_zone
  rw [← isAt_in (by omega), ← isAt_in (by omega)]
  by_cases hq : isAt q1 pn ∧ isAt q2 pl
  · rw [pB_t hq, if_pos rfl, if_pos rfl]
    obtain ⟨⟨i, hi, e⟩, j, hj, e'⟩ := hq
    rw [e, e', nI_clamp (by omega), nI_clamp (by omega), md_zoneO, t_fst h hi (by omega)]
    cases hf : fst (cs_znP (zz i) (nI j)) (zc i) with
    | none => rfl
    | some z =>
      have hz := (fst_some hf).1
      have hz8 := (h i hi).2.2.2.1
      exact t_znT ((h i hi).2.2.2.2 z hz).1 rfl (by omega) w
  · rw [pB_f hq]
    rfl
theorem t_stood {f : Nat → Nat → Int32} {pl a : Nat} {v : Nat → Int32} {D : ds_D} (h : TA1 f pl a v D) (d k : Int32) : md_stood f a d k ↔ aS v d k := by
  obtain ⟨-, ⟨-, -, -, -, -, -, -, h8, h10, h11, -⟩, h4, -⟩ := h
  unfold md_stood aS
  rw [h8, h10]
  constructor
  · rintro ⟨a1, a2, a3, a4⟩
    refine ⟨h4.mpr a1, a2, a3, ?_⟩
    by_cases c1 : v 10 = -1
    · exact Or.inl c1
    · rw [h11 c1] at a4
      rcases a4 with z | z | z
      · exact Or.inl z
      · exact Or.inr (Or.inr z)
      · exact Or.inr (Or.inl z)
  · rintro ⟨a1, a2, a3, a4⟩
    refine ⟨h4.mp a1, a2, a3, ?_⟩
    by_cases c1 : v 10 = -1
    · exact Or.inl c1
    · rw [h11 c1]
      rcases a4 with z | z | z
      · exact Or.inl z
      · exact Or.inr (Or.inr z)
      · exact Or.inr (Or.inl z)
theorem t_how {n : Nat → Int32} {f : Nat → Nat → Int32} {pl a : Nat} {v : Nat → Int32} {D : ds_D} {td : Int32} (h : TA1 f pl a v D) (hn : n 0 = td) : md_how n f a = aH v td := by
  obtain ⟨-, ⟨-, -, h2, -, -, h6, h7, -⟩, -⟩ := h
  unfold md_how aH
  rw [h2, h6, h7, hn]
theorem t_told {n : Nat → Int32} {f : Nat → Nat → Int32} {pl ap : Nat} {av : Nat → Nat → Int32} {dv : Nat → ds_D} {td : Int32} (h : TA f pl ap av dv) (hap : ap ≤ 40) (hn : n 0 = td) (q w : Int32) : md_told n f ap q w = cs_told ap av dv td q w := by
  unfold md_told cs_told md_appOK
  rw [← isAt_in (by omega)]
  by_cases hq : isAt q ap
  · rw [pB_t hq, if_pos rfl, if_pos rfl]
    obtain ⟨i, hi, e⟩ := hq
    rw [e, nI_clamp (by omega)]
    have h1 := h.1 i hi
    have hh := t_how h1 hn
    obtain ⟨⟨g1, -⟩, ⟨h1', -, -, h5, h4, h6, h7, h8, -, -, h9⟩, -⟩ := h1
    unfold md_toldV aT aL
    rw [hh, h1', g1, h5, h4, h6, h7, h8, h9]
    by_cases c0 : w = 0
    · rw [if_pos c0, if_pos c0]
    by_cases c1 : w = 1
    · rw [if_neg c0, if_neg c0, if_pos c1, if_pos c1]
    by_cases k2_ : w = 2
    · rw [if_neg c0, if_neg c0, if_neg c1, if_neg c1, if_pos k2_, if_pos k2_]
    rw [if_neg c0, if_neg c0, if_neg c1, if_neg c1, if_neg k2_, if_neg k2_]
    by_cases c8 : w = 8
    · subst c8
      by_cases a0 : aH (av i) td = 0
      · simp [a0]
      · by_cases a1 : aH (av i) td = 1
        · simp [a1]
        · by_cases a3 : aH (av i) td = 3
          · simp [a3]
          · by_cases a2 : aH (av i) td = 2
            · by_cases a9 : av i 9 = 0
              · simp [a2, a9, pB_t (show (2 : Int32) = 2 ∧ True from ⟨rfl, trivial⟩), pB]
              · simp [a2, a9, pB]
            · simp [a0, a1, a3, a2, pB]
    · simp only [if_neg c8]
  · rw [pB_f hq]
    rfl
theorem t_stands {f : Nat → Nat → Int32} {pl ap : Nat} {av : Nat → Nat → Int32} {dv : Nat → ds_D} (h : TA f pl ap av dv) (hap : ap ≤ 40) (q d k : Int32) : md_stands f ap q d k ↔ cs_stands ap av q d k := by
  unfold md_stands cs_stands
  rw [← isAt_in (by omega)]
  constructor
  · rintro ⟨⟨i, hi, e⟩, h2, h3, h4⟩
    refine ⟨⟨i, hi, e⟩, h2, h3, ?_⟩
    rw [e, nI_clamp (by omega)] at h4 ⊢
    exact (t_stood (h.1 i hi) d k).mp h4
  · rintro ⟨⟨i, hi, e⟩, h2, h3, h4⟩
    refine ⟨⟨i, hi, e⟩, h2, h3, ?_⟩
    rw [e, nI_clamp (by omega)] at h4 ⊢
    exact (t_stood (h.1 i hi) d k).mpr h4
theorem t_meet {f : Nat → Nat → Int32} {pl a : Nat} {v : Nat → Int32} {D E : ds_D} (h : TA1 f pl a v D) (hx : E.2.1 < E.2.2.2.1) (hy : E.2.2.1 < E.2.2.2.2.1) : md_meets f a E.2.1 E.2.2.1 E.2.2.2.1 E.2.2.2.2.1 ↔ ds_meet E D := by
  obtain ⟨⟨-, g1, g2, g3, g4, -⟩, -⟩ := h
  unfold md_meets ds_meet
  rw [g1, g2, g3, g4]
  exact ⟨fun z => z.2.2, fun z => ⟨hx, hy, z⟩⟩
theorem t_clash {n : Nat → Int32} {f : Nat → Nat → Int32} {pl ap : Nat} {av : Nat → Nat → Int32} {dv : Nat → ds_D} {td : Int32} (h : TA f pl ap av dv) (hap : ap ≤ 40) (hn : n 0 = td) (q : Int32) : md_clash n f ap q = cs_clash ap av dv td q := by
  unfold md_clash cs_clash md_appOK
  rw [← isAt_in (by omega)]
  by_cases hq : isAt q ap
  · rw [pB_t hq, if_pos rfl, if_pos rfl]
    obtain ⟨i, hi, e⟩ := hq
    rw [e, nI_clamp (by omega)]
    refine cnt_cg ap (fun j hj => ?_)
    have hi1 := h.1 i hi
    have hj1 := h.1 j hj
    have hd := hi1.1.2.2.2.2.2.2.2
    unfold md_clashP cs_clP
    rw [hn, hi1.1.2.1, hi1.1.2.2.1, hi1.1.2.2.2.1, hi1.1.2.2.2.2.1, t_stood hj1, t_meet hj1 hd.2.2.2.1 hd.2.2.2.2.2.2.1]
  · rw [pB_f hq]
    rfl
theorem t_count {n : Nat → Int32} {f : Nat → Nat → Int32} {tz : Nat} {td fl : Int32} {tt : Nat → Int32} {pl : Nat} {Rg : Nat → rg_R} {pn ap nh : Nat} {av : Nat → Nat → Int32} {dv : Nat → ds_D} (hN : TN n f tz td fl tt pl Rg pn ap nh) (h : TA f pl ap av dv) (w : Int32) : md_count n f ap w = cs_count tz pl pn ap (Rg pl).2.2 av td w := by
  obtain ⟨⟨h0, -⟩, h1, h2, h3, h4, -, h11, -⟩ := hN
  unfold md_count cs_count
  rw [h0, h1, h2, h3, h4, h11, cnt_cg ap (fun i hi => t_stood (h.1 i hi) td td)]
theorem t_holder {f : Nat → Nat → Int32} {pl nh : Nat} {vh : Nat → Nat → Int32} (h : TH f nh vh) (hpl : pl ≤ 12) (q d k : Int32) : md_holder f pl nh q d k = cs_holder pl nh vh q d k := by
  unfold md_holder cs_holder
  rw [← isAt_in (by omega)]
  have e : bst (md_holdP f q d k) (f 43) nh = bst (cs_hoP vh q d k) (fun i => vh i 2) nh := bst_cg nh (fun i hi => by unfold md_holdP cs_hoP; rw [(h i hi).1, (h i hi).2.2.1, (h i hi).2.2.2]) (fun i hi => (h i hi).2.2.1)
  rw [e]
  cases hj : bst (cs_hoP vh q d k) (fun i => vh i 2) nh with
  | none => rfl
  | some j =>
    have := (h j (bst_some hj).1).2.1
    simp only [bfr, this]
