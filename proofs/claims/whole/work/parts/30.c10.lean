/-! ===== lists as rows of addresses; a plan's text as a whole ===== -/
theorem nI_ex {w : Int32} {k : Nat} (hk : k < 2 ^ 31) (h0 : ¬ w < 0) (h1 : w < nI k) : ∃ j, j < k ∧ w = nI j := by
  obtain ⟨j, hj, rfl⟩ := nI_of h0
  exact ⟨j, nn_lt hj hk h1, rfl⟩
def isAt (q : Int32) (k : Nat) : Prop := ∃ j, j < k ∧ q = nI j
theorem isAt_in {q : Int32} {k : Nat} (hk : k < 2 ^ 31) : isAt q k ↔ md_in q 0 (nI k - 1) := by
  constructor
  · intro ⟨j, hj, e⟩
    rw [e]
    refine ⟨i_nlt.mp (nI_pos (by omega)), ?_⟩
    rw [show nI k - 1 = nI (k - 1) from pk_sub (a := k) (b := 1) (by omega)]
    exact (nI_leI (by omega) (by omega)).mpr (by omega)
  · exact fun h => md_nat hk h
def Lst (G : mp_G) (X : mp_X) (M : mp_M) (kl kd : mp_N) (lq sz : Nat) (el : Nat → Nat) : Prop := ∃ (mo : Int32) (dq : Nat), M kl = some (lq, .inr (0, [.int mo, .ref dq, .int (nI sz)])) ∧ ((sz = 0 ∧ dq = X.1 ∧ M kd = none) ∨ ∃ (cap : Nat) (g : Nat → Option Nat), M kd = some (dq, .inl (G.2.2.2.2, cap, .inr (.inr (.inr (.inr g))))) ∧ 10 ≤ cap ∧ cap ≤ 150 ∧ sz ≤ cap ∧ ∀ i, i < sz → g i = some (el i))
theorem Lst.congr {G : mp_G} {X : mp_X} {M M1 : mp_M} {kl kd : mp_N} {lq sz : Nat} {el : Nat → Nat} (h : Lst G X M kl kd lq sz el) (h1 : M1 kl = M kl) (h2 : M1 kd = M kd) : Lst G X M1 kl kd lq sz el := by
  obtain ⟨mo, dq, a, b⟩ := h
  refine ⟨mo, dq, h1.trans a, ?_⟩
  rcases b with ⟨b1, b2, b3⟩ | ⟨cap, g, b1, b2⟩
  · exact Or.inl ⟨b1, b2, h2.trans b3⟩
  · exact Or.inr ⟨cap, g, h2.trans b1, b2⟩
theorem Lst.els {G : mp_G} {X : mp_X} {M : mp_M} {kl kd : mp_N} {lq sz : Nat} {el el2 : Nat → Nat} (h : Lst G X M kl kd lq sz el) (he : ∀ i, i < sz → el2 i = el i) : Lst G X M kl kd lq sz el2 := by
  obtain ⟨mo, dq, a, b⟩ := h
  refine ⟨mo, dq, a, ?_⟩
  rcases b with b1 | ⟨cap, g, b1, b2, b3, b4, b5⟩
  · exact Or.inl b1
  · exact Or.inr ⟨cap, g, b1, b2, b3, b4, fun i hi => by rw [he i hi]; exact b5 i hi⟩
theorem Lst.ob {G : mp_G} {X : mp_X} {M : mp_M} {kl kd : mp_N} {lq sz : Nat} {el : Nat → Nat} (h : Lst G X M kl kd lq sz el) : ∃ fs : List Value, M kl = some (lq, .inr (0, fs)) := by
  obtain ⟨mo, dq, a, b⟩ := h
  exact ⟨_, a⟩
theorem mp_recvL {s : State} {H : Heap} {A : Nat → Prop} {X : mp_X} {G : mp_G} {M : mp_M} {kl kd : mp_N} {lq sz : Nat} {el : Nat → Nat} (hK : va_K G.1 vwCl (mp_tys G) s) (hM : mp_P G.1 A M H) (h : Lst G X M kl kd lq sz el) : ∃ cell : Cell, H[lq]? = some cell ∧ cell.vm.isStatics = false ∧ s.vm.findClass RJx4a65c = some cell.cls := by
  obtain ⟨fs, a⟩ := h.ob
  exact mp_recv hK hM a (r := (RJx4a65c, TJx4a65c, 3)) rfl
theorem mp_recvR {s : State} {H : Heap} {A : Nat → Prop} {G : mp_G} {M : mp_M} {a : Nat} {R : rg_R} (hK : va_K G.1 vwCl (mp_tys G) s) (hM : mp_P G.1 A M H) (h : RingAt G M a R) : ∃ cell : Cell, H[a]? = some cell ∧ cell.vm.isStatics = false ∧ s.vm.findClass RX5 = some cell.cls := by
  obtain ⟨k, kx, ky, ax, ay, h1, h2, h3⟩ := h
  exact mp_recv hK hM h1 (r := (RX5, TX5, 3)) rfl
theorem c_size (l : Launch) (X : mp_X) (G : mp_G) (A : Nat → Prop) (M : mp_M) {kl kd : mp_N} {lq sz : Nat} {el : Nat → Nat} (h : Lst G X M kl kd lq sz el) : mp_Met l X G A yJx4a65c_size_8abf5 wsJx4a65c_size_8abf5 rmJx4a65c_size_8abf5 ([.ref lq] : List Value) M (fun r M1 => r = some (.int (nI sz)) ∧ M1 = M) 0 0 := by
  obtain ⟨mo, dq, a, b⟩ := h
  exact c_Jx4a65c_size_8abf5 l X G A M lq sz dq ⟨kl, mo, a⟩
theorem c_get (l : Launch) (X : mp_X) (G : mp_G) (A : Nat → Prop) (M : mp_M) {kl kd : mp_N} {lq sz : Nat} {el : Nat → Nat} (h : Lst G X M kl kd lq sz el) (i : Nat) (hi : i < sz) : mp_Met l X G A yJx4a65c_get_915e3 wsJx4a65c_get_915e3 rmJx4a65c_get_915e3 ([.ref lq, .int (nI i)] : List Value) M (fun r M1 => r = some (.ref (el i)) ∧ M1 = M) 0 0 := by
  obtain ⟨mo, dq, a, b⟩ := h
  rcases b with ⟨b1, _⟩ | ⟨cap, g, b1, b2, b3, b4, b5⟩
  · omega
  · exact c_Jx4a65c_get_915e3 l X G A M lq sz dq ⟨kl, mo, a⟩ cap g ⟨kd, b1⟩ (by omega) i (el i) hi b4 (b5 i hi)
def elU (el : Nat → Nat) (sz q : Nat) : Nat → Nat := fun i => if i = sz then q else el i
theorem elU_s (el : Nat → Nat) (sz q : Nat) : elU el sz q sz = q := if_pos rfl
theorem elU_n (el : Nat → Nat) (sz q : Nat) {i : Nat} (h : i ≠ sz) : elU el sz q i = el i := if_neg h
theorem lst_new {G : mp_G} {X : mp_X} {M M1 : mp_M} {kl kd : mp_N} {lq sz eq dq1 cap1 : Nat} {mo : Int32} {el : Nat → Nat} {g g1 : Nat → Option Nat} (hkk : kd ≠ kl) (e2 : M1 = mp_set (mp_set M kd (dq1, .inl (G.2.2.2.2, cap1, .inr (.inr (.inr (.inr g1)))))) kl (lq, .inr (0, [.int mo, .ref dq1, .int (nI (sz + 1))]))) (e3 : LG g g1 sz eq cap1) (hg : ∀ i, i < sz → g i = some (el i)) : Lst G X M1 kl kd lq (sz + 1) (elU el sz eq) := by
  subst e2
  obtain ⟨f1, f2, f3, f4, f5⟩ := e3
  refine ⟨mo, dq1, mp_set_s _ _ _, Or.inr ⟨cap1, g1, by rw [mp_set_n _ _ _ hkk, mp_set_s], f1, f2, f3, fun i hi => ?_⟩⟩
  by_cases e : i = sz
  · subst e
    rw [f4, elU_s]
  · rw [f5 i (by omega), hg i (by omega), elU_n _ _ _ e]
theorem c_add (l : Launch) (X : mp_X) (G : mp_G) (A : Nat → Prop) (M : mp_M) {kl kd : mp_N} {lq sz : Nat} {el : Nat → Nat} (h : Lst G X M kl kd lq sz el) (t : mp_N) (ht : M t = none) (hkk : kd ≠ kl) (hsz : sz < 100) (ci : Nat) (rr : vw_C) (hc : vwCl[ci]? = some rr) (hca : Cond.castable rr.1 "java/lang/Object" ∈ mp_nw) (hel : ∀ i, i < sz → ∃ (k : mp_N) (fs : List Value), M k = some (el i, .inr (ci, fs))) (ke : mp_N) (eq : Nat) (fe : List Value) (he : M ke = some (eq, .inr (ci, fe))) (hci : ci ≠ 0) :
    mp_Met l X G A yJx4a65c_add_9ea2d wsJx4a65c_add_9ea2d rmJx4a65c_add_9ea2d ([.ref lq, .ref eq] : List Value) M (fun r M1 => r = some (.int 1) ∧ ∃ x y : Nat × va_E, M1 = mp_set (mp_set M kd x) kl y ∧ Lst G X M1 kl kd lq (sz + 1) (elU el sz eq)) 1 150 := by
  obtain ⟨mo, dq, a, b⟩ := h
  rcases b with ⟨b1, b2, b3⟩ | ⟨cap, g, b1, b2, b3, b4, b5⟩
  · subst b1
    subst b2
    refine (c_Jx4a65c_add_9ea2d_a l X G A M lq mo kl kd a b3 hkk ci rr hc hca ke eq fe he hci).imp1 (fun v M1 hp => ?_)
    obtain ⟨e1, dq1, cap1, g1, e2, e3⟩ := hp
    exact ⟨e1, _, _, e2, lst_new hkk e2 e3 (fun i hi => absurd hi (Nat.not_lt_zero i))⟩
  · by_cases hz : sz = cap
    · refine (c_Jx4a65c_add_9ea2d l X G A M dq cap g kd t b1 ht lq sz mo kl a ci rr hc hca (fun i hi y hy => ?_) b2 b3 hz hsz hkk ke eq fe he hci).imp1 (fun v M1 hp => ?_)
      · rw [b5 i hi] at hy
        cases hy
        exact hel i hi
      · obtain ⟨e1, dq1, cap1, g1, e2, e3⟩ := hp
        exact ⟨e1, _, _, e2, lst_new hkk e2 e3 b5⟩
    · refine (c_Jx4a65c_add_9ea2d_c l X G A M dq cap g kd b1 lq sz mo kl a ci rr hc hca b2 b3 (by omega) hkk ke eq fe he hci).imp1 (fun v M1 hp => ?_)
      obtain ⟨e1, dq1, cap1, g1, e2, e3⟩ := hp
      exact ⟨e1, _, _, e2, lst_new hkk e2 e3 b5⟩
noncomputable def rg_co (R : rg_R) (w : Int32) : Int32 := if pB (isAt w (2 * R.2.2)) then (if w.toNatClampNeg % 2 = 0 then R.1 (w.toNatClampNeg / 2) else R.2.1 (w.toNatClampNeg / 2)) else -1
theorem stp_fix {t : Nat → Int32} {sz : Nat} : ∀ (k i : Nat) (b : Int32), i ≤ sz → (k = 0 → tb t sz i = i) → (stp t sz k i b).1 = false → tb t sz (stp t sz k i b).2.1 = (stp t sz k i b).2.1
  | 0, i, b, _, h2, _ => h2 rfl
  | k + 1, i, b, h1, _, h3 => by
    have h4 := tn_in (t := t) h1
    have h5 := tb_in (t := t) h4.2
    rw [stp] at h3 ⊢
    by_cases q : tnP t sz i
    · rw [pB_t q, if_pos rfl] at h3 ⊢
      by_cases q2 : tb t sz (tnN t sz i) < sz ∧ isD t (tb t sz (tnN t sz i))
      · rw [pB_t q2, if_pos rfl] at h3 ⊢
        exact stp_fix k _ _ h5.2 (fun _ => tb_tb h4.2) h3
      · rw [pB_f q2, if_neg (by decide)] at h3
        exact absurd h3 (fun z => Bool.noConfusion z)
    · rw [pB_f q, if_neg (by decide), rn_no h1 q]
      exact tb_tb h1
theorem itemS_fix {t : Nat → Int32} {sz i : Nat} {r : zr} (h : i ≤ sz) (h3 : (itemS t sz i r).1 = false) : tb t sz (itemS t sz i r).2.1 = (itemS t sz i r).2.1 := by
  have h1 := we_in (t := t) h
  have h2 := tn_in (t := t) h1.2.2
  have h4 := stp_in (t := t) 601 (we t sz i) 0 h1.2.2
  rw [itemS] at h3 ⊢
  by_cases k6 : itK (wd t sz i) = 6
  · rw [if_pos k6]
    exact tb_tb h
  · rw [if_neg k6] at h3 ⊢
    by_cases k4 : itK (wd t sz i) < 4
    · rw [if_pos k4] at h3 ⊢
      by_cases q : tnP t sz (we t sz i)
      · rw [pB_t q, if_pos rfl] at h3 ⊢
        have q2 : ¬ tkP t sz (tnN t sz (we t sz i)) 59 := pB_not.mp h3
        show tb t sz (tkN t sz (tnN t sz (we t sz i)) 59) = tkN t sz (tnN t sz (we t sz i)) 59
        rw [tkN_no q2, tb_tb h2.2]
      · rw [pB_f q, if_neg (by decide)]
        show tb t sz (tnN t sz (we t sz i)) = tnN t sz (we t sz i)
        rw [rn_no h1.2.2 q, tb_tb h1.2.2]
    · rw [if_neg k4] at h3 ⊢
      by_cases q : (stp t sz 601 (we t sz i) 0).1 = true
      · rw [if_pos q] at h3 ⊢
        have q2 : ¬ tkP t sz (stp t sz 601 (we t sz i) 0).2.1 59 := pB_not.mp h3
        show tb t sz (tkN t sz (stp t sz 601 (we t sz i) 0).2.1 59) = tkN t sz (stp t sz 601 (we t sz i) 0).2.1 59
        rw [tkN_no q2, tb_tb h4.2]
      · rw [if_neg q]
        exact stp_fix 601 _ _ h1.2.2 (fun z => absurd z (by decide)) (Bool.eq_false_iff.mpr q)
theorem itB_fix {t : Nat → Int32} {sz : Nat} : ∀ (k i : Nat) (r : zr), i ≤ sz → tb t sz i = i → (itB t sz k i r).1 = false → tb t sz (itB t sz k i r).2.1 = (itB t sz k i r).2.1
  | 0, i, r, _, h2, _ => h2
  | k + 1, i, r, h, _, h3 => by
    have h1 := itemS_in (t := t) r h
    have h4 := tk_in (t := t) 125 h1.2.1
    rw [itB] at h3 ⊢
    by_cases q : (itemS t sz i r).1 = true
    · rw [if_pos q] at h3 ⊢
      by_cases q2 : tkP t sz (itemS t sz i r).2.1 125
      · rw [pB_t q2, if_pos rfl] at h3
        exact absurd h3 (fun z => Bool.noConfusion z)
      · rw [pB_f q2, if_neg (by decide)] at h3 ⊢
        exact itB_fix k _ _ h4.2 (by rw [tkN_no q2, tb_tb h1.2.1]) h3
    · rw [if_neg q]
      exact itemS_fix h (Bool.eq_false_iff.mpr q)
theorem itA_fix {t : Nat → Int32} {sz i : Nat} {r : zr} (h : i ≤ sz) (h3 : (itA t sz i r).1 = false) : tb t sz (itA t sz i r).2.1 = (itA t sz i r).2.1 := by
  have h4 := tk_in (t := t) 125 h
  rw [itA] at h3 ⊢
  by_cases q2 : tkP t sz i 125
  · rw [pB_t q2, if_pos rfl] at h3
    exact absurd h3 (fun z => Bool.noConfusion z)
  · rw [pB_f q2, if_neg (by decide)] at h3 ⊢
    exact itB_fix 601 _ _ h4.2 (by rw [tkN_no q2, tb_tb h]) h3
theorem ctI_A {t : Nat → Int32} {sz j : Nat} {r : zr} : ctI t sz 601 j r = itA t sz j r := rfl
theorem zo1_A {t : Nat → Int32} {sz jc : Nat} (a : wd t sz jc = 2054123109) (b : tkP t sz (we t sz jc) 123) : zo1 t sz jc = itA t sz (tkN t sz (we t sz jc) 123) zr0 := by
  rw [zo1, pB_t a, if_pos rfl, pB_t b, if_pos rfl, ctI_A]
theorem zo1_B {t : Nat → Int32} {sz jc : Nat} (a : wd t sz jc = 2054123109) (b : ¬ tkP t sz (we t sz jc) 123) : zo1 t sz jc = (false, tb t sz (we t sz jc), zr0) := by
  rw [zo1, pB_t a, if_pos rfl, pB_f b, if_neg (by decide), tkN_no b]
theorem zo1_C {t : Nat → Int32} {sz jc : Nat} (a : ¬ wd t sz jc = 2054123109) : zo1 t sz jc = (false, tb t sz jc, zr0) := by
  rw [zo1, pB_f a, if_neg (by decide)]
theorem zo1_in {t : Nat → Int32} {sz jc : Nat} (h : jc ≤ sz) : tb t sz jc ≤ (zo1 t sz jc).2.1 ∧ (zo1 t sz jc).2.1 ≤ sz ∧ ((zo1 t sz jc).1 = true → tb t sz jc < (zo1 t sz jc).2.1) := by
  have h1 := we_in (t := t) h
  have h2 := tk_in (t := t) 123 h1.2.2
  have h3 := tb_in (t := t) h1.2.2
  have h4 := tb_in (t := t) h
  have h5 := itA_in (t := t) zr0 h2.2
  by_cases a : wd t sz jc = 2054123109
  · by_cases b : tkP t sz (we t sz jc) 123
    · have h6 := tk_gt h1.2.2 b
      rw [zo1_A a b]
      exact ⟨by omega, h5.2, fun _ => by omega⟩
    · rw [zo1_B a b]
      exact ⟨by show tb t sz jc ≤ tb t sz (we t sz jc); omega, h3.2, fun z => Bool.noConfusion z⟩
  · rw [zo1_C a]
    exact ⟨Nat.le_refl _, h4.2, fun z => Bool.noConfusion z⟩
theorem zoS_yes {t : Nat → Int32} {sz k jc m : Nat} {zs : Nat → zr} (hj : jc ≤ sz) (h1 : tb t sz jc < sz) (hm : m < 8) (h : (zo1 t sz jc).1 = true) : zoS t sz (k + 1) (tb t sz jc) m zs = zoS t sz k (tb t sz (zo1 t sz jc).2.1) (m + 1) (va_up zs m (zo1 t sz jc).2.2) := by
  rw [zoS, if_pos h1, wd_tb hj, we_tb hj]
  by_cases a : wd t sz jc = 2054123109
  · by_cases b : tkP t sz (we t sz jc) 123
    · rw [zo1_A a b] at h ⊢
      rw [pB_t (show wd t sz jc = 2054123109 ∧ m ≠ 8 from ⟨a, by omega⟩), if_pos rfl, pB_t b, if_pos rfl, if_pos h]
    · rw [zo1_B a b] at h
      exact Bool.noConfusion h
  · rw [zo1_C a] at h
    exact Bool.noConfusion h
theorem zoS_no {t : Nat → Int32} {sz k jc m : Nat} {zs : Nat → zr} (hj : jc ≤ sz) (h1 : tb t sz jc < sz) (hm : m < 8) (h : (zo1 t sz jc).1 = false) : (zoS t sz (k + 1) (tb t sz jc) m zs).1 = false ∧ (zoS t sz (k + 1) (tb t sz jc) m zs).2.1 = tb t sz (zo1 t sz jc).2.1 := by
  have g1 := we_in (t := t) hj
  have g2 := tk_in (t := t) 123 g1.2.2
  rw [zoS, if_pos h1, wd_tb hj, we_tb hj]
  by_cases a : wd t sz jc = 2054123109
  · rw [pB_t (show wd t sz jc = 2054123109 ∧ m ≠ 8 from ⟨a, by omega⟩), if_pos rfl]
    by_cases b : tkP t sz (we t sz jc) 123
    · rw [zo1_A a b] at h ⊢
      rw [pB_t b, if_pos rfl, h, if_neg (by decide)]
      exact ⟨rfl, (itA_fix g2.2 h).symm⟩
    · rw [zo1_B a b, pB_f b, if_neg (by decide), tkN_no b]
      exact ⟨rfl, (tb_tb g1.2.2).symm⟩
  · rw [zo1_C a, pB_f (show ¬ (wd t sz jc = 2054123109 ∧ m ≠ 8) from fun z => a z.1), if_neg (by decide)]
    exact ⟨rfl, rfl⟩
theorem zoS_end {t : Nat → Int32} {sz k i m : Nat} {zs : Nat → zr} (h1 : ¬ i < sz) : zoS t sz (k + 1) i m zs = (true, i, m, zs) := by
  rw [zoS, if_neg h1]
theorem zoS_full {t : Nat → Int32} {sz k i : Nat} {zs : Nat → zr} (h1 : i < sz) : zoS t sz (k + 1) i 8 zs = (false, tb t sz i, 8, zs) := by
  rw [zoS, if_pos h1, pB_f (fun z => z.2 rfl), if_neg (by decide)]
theorem zn0 : zn_fs (zrv zr0) = [.int (0 : Int32), .int (0 : Int32), .int (-1 : Int32), .int (-1 : Int32), .int (-1 : Int32), .int (-1 : Int32)] := rfl
/-- the cells that a plan's text may change or make -/
def PlX (p0 : Nat) (k : mp_N) : Prop := k = (14, 0, 0) ∨ k = (12, p0, 0) ∨ k = (13, p0, 0) ∨ (k.1 = 7 ∧ k.2.1 = p0)
abbrev rmX4_init : Room := { frames := 1, cells := 0, slots := 0, locals := 24 }
set_option maxHeartbeats 4000000 in
set_option maxRecDepth 100000 in
theorem c_X4_init (l : Launch) (X : mp_X) (G : mp_G) (A : Nat → Prop) (M : mp_M) (aq : Nat) (kn kt : mp_N) (tp sz : Nat) (t : Nat → Int32) (hT : M kt = some (tp, .inl (G.2.1, 600, .inl t))) (hkt : kt ≠ kn) (hsz : sz ≤ 600) (ha : M kn = some (aq, .inr (5, [.null, .int (0 : Int32), .int (0 : Int32), .int (0 : Int32)]))) : mp_Met l X G A yX4_init wsX4_init rmX4_init ([.ref aq, .ref tp, .int (nI sz)] : List Value) M (fun r M1 => r = none ∧ M1 = mp_set M kn (aq, .inr (5, [.ref tp, .int (nI sz), .int (nI 0), .int (nI 0)]))) 0 0 := by
  refine mp_ofW (cc := cX4_init) (maxL := 3) (ret := none) (by decide) rfl (Nat.le_of_ble_eq_true rfl) ?_
  intro p e s m below meth c ls hx hb hr hts hown hlocks hnm hml hC hM hS hl
  have hl : lv_has ls 3 [(0, .ref aq), (1, .ref tp), (2, .int (nI sz))] := hl
  have hown : s.vm.findClass RX4 = some m.cls := hown
  have oi_l := hts (.methodLink RX4 3 objectInit) (List.mem_of_getElem? (i := 1) rfl)
  have oi_i := hts (.instanceMethod objectInit) (List.mem_of_getElem? (i := 2) rfl)
  have oi_c := hts (.code objectInit ⟨#[0xb1]⟩ 1 none) (List.mem_of_getElem? (i := 3) rfl)
  have hin_wsX40 : ∀ w ∈ wsX40, w ∈ wsX4_init := fun _ h => List.mem_cons_of_mem _ (List.mem_append_right _ h)
  have fl_9 := hts (.fieldLink RX4 9 "PlanningBench$PlanReader" "start" "I") (List.mem_of_getElem? (i := 4) rfl)
  have fl_15 := hts (.fieldLink RX4 15 "PlanningBench$PlanReader" "end" "I") (List.mem_of_getElem? (i := 5) rfl)
  have fl_18 := hts (.fieldLink RX4 18 "PlanningBench$PlanReader" "text" "[B") (List.mem_of_getElem? (i := 6) rfl)
  have mm_l22 := hts (.methodLink RX4 22 Lib.Math.min.name) (List.mem_of_getElem? (i := 7) rfl)
  have mm_smin := hts (.static Lib.Math.min.name) (List.mem_of_getElem? (i := 8) rfl)
  have mm_i := hts (.initialized "java/lang/Math") (List.mem_of_getElem? (i := 9) rfl)
  have mm_cmin := hts (.code Lib.Math.min.name Lib.Math.min.code 2 (some .int)) (List.mem_of_getElem? (i := 10) rfl)
  have fl_28 := hts (.fieldLink RX4 28 "PlanningBench$PlanReader" "length" "I") (List.mem_of_getElem? (i := 11) rfl)
  refine lv_aload_n hx hb dX4_init_0 rfl (lv_at hl 0 rfl) ?_
  refine W.objInit hx hb hown oi_l oi_i oi_c rfl (hl.1.trans hml.symm) rfl dX4_init_1 (Nat.le_of_ble_eq_true rfl) (Nat.le_of_ble_eq_true rfl) ?_
  refine lv_aload_n hx hb dX4_init_4 rfl (lv_at hl 0 rfl) ?_
  refine lv_iconst (v := (0 : Int32)) hx hb dX4_init_5 (by decide) ?_
  refine mp_put (D := G.1) (C := RX4) (T := TX4) (N := 4) (ci := 5) hx hb hts hin_wsX40 tyX4 tyX4_ok nmX4 hown hC.1 hM hS ha rfl 2 (by decide) fl_9 (fun _ z => z) rfl rfl rfl (Nat.le_of_ble_eq_true rfl) dX4_init_6 (fs' := [.null, .int (0 : Int32), .int (0 : Int32), .int (0 : Int32)]) rfl (fun H locs hM hS => ?_)
  have hM : mp_P G.1 A (mp_set M kn (aq, .inr (5, [.null, .int (0 : Int32), .int (0 : Int32), .int (0 : Int32)]))) H := hM
  refine lv_aload_n hx hb dX4_init_9 rfl (lv_at hl 0 rfl) ?_
  refine lv_iconst (v := (0 : Int32)) hx hb dX4_init_10 (by decide) ?_
  refine mp_put (D := G.1) (C := RX4) (T := TX4) (N := 4) (ci := 5) hx hb hts hin_wsX40 tyX4 tyX4_ok nmX4 hown hC.1 hM hS (mp_set_s _ _ _) rfl 3 (by decide) fl_15 (fun _ z => z) rfl rfl rfl (Nat.le_of_ble_eq_true rfl) dX4_init_11 (fs' := [.null, .int (0 : Int32), .int (0 : Int32), .int (0 : Int32)]) rfl (fun H locs hM hS => ?_)
  rw [mp_set_set] at hM
  have hM : mp_P G.1 A (mp_set M kn (aq, .inr (5, [.null, .int (0 : Int32), .int (0 : Int32), .int (0 : Int32)]))) H := hM
  refine lv_aload_n hx hb dX4_init_14 rfl (lv_at hl 0 rfl) ?_
  refine lv_aload_n hx hb dX4_init_15 rfl (lv_at hl 1 rfl) ?_
  refine mp_putF (D := G.1) (C := RX4) (T := TX4) (N := 4) (ci := 5) hx hb hts hin_wsX40 tyX4 tyX4_ok nmX4 hown hC.1 hM hS (mp_set_s _ _ _) rfl 0 (by decide) fl_18 (fun _ z => z) rfl hnm rfl rfl rfl (Nat.le_of_ble_eq_true rfl) dX4_init_16 (fs' := [.ref tp, .int (0 : Int32), .int (0 : Int32), .int (0 : Int32)]) rfl (fun H locs hM hS => ?_)
  rw [mp_set_set] at hM
  have hM : mp_P G.1 A (mp_set M kn (aq, .inr (5, [.ref tp, .int (0 : Int32), .int (0 : Int32), .int (0 : Int32)]))) H := hM
  refine lv_aload_n hx hb dX4_init_19 rfl (lv_at hl 0 rfl) ?_
  refine lv_iload_n hx hb dX4_init_20 rfl (lv_at hl 2 rfl) ?_
  refine lv_aload_n hx hb dX4_init_21 rfl (lv_at hl 1 rfl) ?_
  refine va_alen hx hb hC.1 (hM.one ((mp_set_n _ _ _ (by first | assumption | exact Ne.symm (by assumption) | simp)).trans hT)) 0 0 rfl rfl (v := nI 600) rfl dX4_init_22 ?_
  refine va_mmin hx hb (hml.trans hl.1.symm) hown mm_l22 mm_smin mm_i mm_cmin (Nat.le_of_ble_eq_true rfl) (Nat.le_of_ble_eq_true rfl) (Nat.le_of_ble_eq_true rfl) ((Nat.le_of_ble_eq_true rfl)) dX4_init_23 ?_
  refine mp_top (nI (if 600 < sz then 600 else sz)) (cl_min (a := sz) (b := 600) (by omega) (by omega)) ?_
  refine mp_top (nI sz) (congrArg nI (if_neg (by omega))) ?_
  refine mp_putF (D := G.1) (C := RX4) (T := TX4) (N := 4) (ci := 5) hx hb hts hin_wsX40 tyX4 tyX4_ok nmX4 hown hC.1 hM hS (mp_set_s _ _ _) rfl 1 (by decide) fl_28 (fun _ z => z) rfl hnm rfl rfl rfl (Nat.le_of_ble_eq_true rfl) dX4_init_26 (fs' := [.ref tp, .int (nI sz), .int (0 : Int32), .int (0 : Int32)]) rfl (fun H locs hM hS => ?_)
  rw [mp_set_set] at hM
  have hM : mp_P G.1 A (mp_set M kn (aq, .inr (5, [.ref tp, .int (nI sz), .int (0 : Int32), .int (0 : Int32)]))) H := hM
  exact mp_vret hx hb hr hlocks (Nat.le_of_ble_eq_true rfl) (Nat.le_of_ble_eq_true rfl) hM hS dX4_init_29 (⟨rfl, rfl⟩)
abbrev rmX5_coordinate : Room := { frames := 0, cells := 0, slots := 0, locals := 0 }
set_option maxHeartbeats 4000000 in
set_option maxRecDepth 100000 in
theorem c_X5_coordinate (l : Launch) (X : mp_X) (G : mp_G) (A : Nat → Prop) (M : mp_M) (r1 : Nat) (R1 : rg_R) (h1 : RingAt G M r1 R1) (hs1 : R1.2.2 ≤ 8) (w : Int32) : mp_Met l X G A yX5_coordinate wsX5_coordinate rmX5_coordinate ([.ref r1, .int w] : List Value) M (fun r M1 => r = some (.int (rg_co R1 w)) ∧ M1 = M) 0 0 := by
  refine mp_ofW (cc := cX5_coordinate) (maxL := 2) (ret := (some .int)) (by decide) rfl (Nat.le_of_ble_eq_true rfl) ?_
  intro p e s m below meth c ls hx hb hr hts hown hlocks hnm hml hC hM hS hl
  have hl : lv_has ls 2 [(0, .ref r1), (1, .int w)] := hl
  have hown : s.vm.findClass RX5 = some m.cls := hown
  have hin_wsX50 : ∀ w ∈ wsX50, w ∈ wsX5_coordinate := fun _ h => List.mem_cons_of_mem _ (List.mem_append_right _ h)
  have fl_18 := hts (.fieldLink RX5 18 "PlanningBench$Ring" "size" "I") (List.mem_of_getElem? (i := 1) rfl)
  have fl_15 := hts (.fieldLink RX5 15 "PlanningBench$Ring" "ys" "[I") (List.mem_of_getElem? (i := 3) rfl)
  have fl_11 := hts (.fieldLink RX5 11 "PlanningBench$Ring" "xs" "[I") (List.mem_of_getElem? (i := 2) rfl)
  obtain ⟨k1, kx1, ky1, ax1, ay1, hR1, hX1, hY1⟩ := id h1
  by_cases hj : isAt w (2 * R1.2.2)
  · skip
    obtain ⟨j, hj1, e_j⟩ := id hj
    subst e_j
    refine lv_iload_n hx hb dX5_coordinate_0 rfl (lv_at hl 1 rfl) ?_
    refine lv_if_lt (tgt := 14) hx hb dX5_coordinate_1 (by decide) (fun c1 => ?_) (fun c1 => ?_)
    · have c1 := nn_lt (a := j) (b := 0) (by omega) (by omega) c1
      exact absurd c1 (Nat.not_lt_zero _)
    · have c1 := nn_nlt (a := j) (b := 0) (by omega) (by omega) c1
      refine lv_iload_n hx hb dX5_coordinate_4 rfl (lv_at hl 1 rfl) ?_
      refine lv_iconst (v := (2 : Int32)) hx hb dX5_coordinate_5 (by decide) ?_
      refine lv_aload_n hx hb dX5_coordinate_6 rfl (lv_at hl 0 rfl) ?_
      refine va_get (D := G.1) (C := RX5) (T := TX5) (N := 3) (ci := 6) hx hb hts hin_wsX50 hown hC.1 (hM.one hR1) 0 rfl rfl 2 (by decide) fl_18 (fun _ z => z) rfl dX5_coordinate_7 ?_
      refine lv_imul hx hb dX5_coordinate_10 ?_
      refine mp_top (nI (2 * R1.2.2)) (pk_mul 2 R1.2.2) ?_
      refine lv_icmp_lt (tgt := 16) hx hb dX5_coordinate_11 (by decide) (fun c3 => ?_) (fun c3 => ?_)
      · have c3 := nn_lt (a := j) (b := 2 * R1.2.2) (by omega) (by omega) c3
        refine lv_iload_n hx hb dX5_coordinate_16 rfl (lv_at hl 1 rfl) ?_
        refine lv_iconst (v := (2 : Int32)) hx hb dX5_coordinate_17 (by decide) ?_
        refine lv_irem hx hb dX5_coordinate_18 (nI_ne0 (n := 2) (by omega) (by omega)) ?_
        refine mp_top (nI (j % 2)) (pk_rem (a := j) (d := 2) (by omega) (by omega) (by omega)) ?_
        refine lv_if_ne (tgt := 33) hx hb dX5_coordinate_19 (by decide) (fun c4 => ?_) (fun c4 => ?_)
        · have c4 := nn_neq (a := j % 2) (b := 0) (by omega) (by omega) c4
          refine lv_aload_n hx hb dX5_coordinate_33 rfl (lv_at hl 0 rfl) ?_
          refine va_get (D := G.1) (C := RX5) (T := TX5) (N := 3) (ci := 6) hx hb hts hin_wsX50 hown hC.1 (hM.one hR1) 0 rfl rfl 1 (by decide) fl_15 (fun _ z => z) rfl dX5_coordinate_34 ?_
          refine lv_iload_n hx hb dX5_coordinate_37 rfl (lv_at hl 1 rfl) ?_
          refine lv_iconst (v := (2 : Int32)) hx hb dX5_coordinate_38 (by decide) ?_
          refine lv_idiv hx hb dX5_coordinate_39 (nI_ne0 (n := 2) (by omega) (by omega)) ?_
          refine mp_top (nI (j / 2)) (pk_div (a := j) (d := 2) (by omega) (by omega) (by omega)) ?_
          refine ca_iald hx hb hC hM hY1 (j := j / 2) (by omega) (by decide) dX5_coordinate_40 ?_
          exact mp_iret hx hb hr hlocks (Nat.le_of_ble_eq_true rfl) (Nat.le_of_ble_eq_true rfl) hM hS dX5_coordinate_41 (⟨by rw [rg_co, pB_t hj, if_pos rfl, nI_clamp (by omega), if_neg c4], rfl⟩)
        · have c4 := nn_eq (a := j % 2) (b := 0) (by omega) (by omega) c4
          refine lv_aload_n hx hb dX5_coordinate_22 rfl (lv_at hl 0 rfl) ?_
          refine va_get (D := G.1) (C := RX5) (T := TX5) (N := 3) (ci := 6) hx hb hts hin_wsX50 hown hC.1 (hM.one hR1) 0 rfl rfl 0 (by decide) fl_11 (fun _ z => z) rfl dX5_coordinate_23 ?_
          refine lv_iload_n hx hb dX5_coordinate_26 rfl (lv_at hl 1 rfl) ?_
          refine lv_iconst (v := (2 : Int32)) hx hb dX5_coordinate_27 (by decide) ?_
          refine lv_idiv hx hb dX5_coordinate_28 (nI_ne0 (n := 2) (by omega) (by omega)) ?_
          refine mp_top (nI (j / 2)) (pk_div (a := j) (d := 2) (by omega) (by omega) (by omega)) ?_
          refine ca_iald hx hb hC hM hX1 (j := j / 2) (by omega) (by decide) dX5_coordinate_29 ?_
          refine lv_goto (tgt := 41) hx hb dX5_coordinate_30 (by decide) ?_
          exact mp_iret hx hb hr hlocks (Nat.le_of_ble_eq_true rfl) (Nat.le_of_ble_eq_true rfl) hM hS dX5_coordinate_41 (⟨by rw [rg_co, pB_t hj, if_pos rfl, nI_clamp (by omega), if_pos c4], rfl⟩)
      · have c3 := nn_nlt (a := j) (b := 2 * R1.2.2) (by omega) (by omega) c3
        exact absurd c3 (by omega)
  · skip
    refine lv_iload_n hx hb dX5_coordinate_0 rfl (lv_at hl 1 rfl) ?_
    refine lv_if_lt (tgt := 14) hx hb dX5_coordinate_1 (by decide) (fun c1 => ?_) (fun c1 => ?_)
    · have c1 := c1
      refine lv_iconst (v := (-1 : Int32)) hx hb dX5_coordinate_14 (by decide) ?_
      exact mp_iret hx hb hr hlocks (Nat.le_of_ble_eq_true rfl) (Nat.le_of_ble_eq_true rfl) hM hS dX5_coordinate_15 (⟨by rw [rg_co, pB_f hj]; rfl, rfl⟩)
    · have c1 := c1
      refine lv_iload_n hx hb dX5_coordinate_4 rfl (lv_at hl 1 rfl) ?_
      refine lv_iconst (v := (2 : Int32)) hx hb dX5_coordinate_5 (by decide) ?_
      refine lv_aload_n hx hb dX5_coordinate_6 rfl (lv_at hl 0 rfl) ?_
      refine va_get (D := G.1) (C := RX5) (T := TX5) (N := 3) (ci := 6) hx hb hts hin_wsX50 hown hC.1 (hM.one hR1) 0 rfl rfl 2 (by decide) fl_18 (fun _ z => z) rfl dX5_coordinate_7 ?_
      refine lv_imul hx hb dX5_coordinate_10 ?_
      refine mp_top (nI (2 * R1.2.2)) (pk_mul 2 R1.2.2) ?_
      refine lv_icmp_lt (tgt := 16) hx hb dX5_coordinate_11 (by decide) (fun c3 => ?_) (fun c3 => ?_)
      · have c3 := c3
        exact absurd c3 (fun z => hj (nI_ex (by omega) c1 z))
      · have c3 := c3
        refine lv_iconst (v := (-1 : Int32)) hx hb dX5_coordinate_14 (by decide) ?_
        exact mp_iret hx hb hr hlocks (Nat.le_of_ble_eq_true rfl) (Nat.le_of_ble_eq_true rfl) hM hS dX5_coordinate_15 (⟨by rw [rg_co, pB_f hj]; rfl, rfl⟩)
abbrev rmX3_init : Room := { frames := 4, cells := 1, slots := 3, locals := 72 }
set_option maxHeartbeats 4000000 in
set_option maxRecDepth 100000 in
theorem c_X3_init (l : Launch) (X : mp_X) (G : mp_G) (A : Nat → Prop) (M : mp_M) (aq p0 : Nat) (fr kw : Int32) (ha : M (11, p0, 0) = some (aq, .inr (4, [.int (0 : Int32), .int (0 : Int32), .null]))) (hk : M (12, p0, 0) = none) : mp_Met l X G A yX3_init wsX3_init rmX3_init ([.ref aq, .int fr, .int kw] : List Value) M (fun r M1 => r = none ∧ ∃ zl : Nat, M1 = mp_set (mp_set M (12, p0, 0) (zl, .inr (0, [.int (0 : Int32), .ref X.1, .int (nI 0)]))) (11, p0, 0) (aq, .inr (4, [.int fr, .int kw, .ref zl]))) 1 3 := by
  refine mp_ofW (cc := cX3_init) (maxL := 3) (ret := none) (by decide) rfl (Nat.le_of_ble_eq_true rfl) ?_
  intro p e s m below meth c ls hx hb hr hts hown hlocks hnm hml hC hM hS hl
  have hl : lv_has ls 3 [(0, .ref aq), (1, .int fr), (2, .int kw)] := hl
  have hown : s.vm.findClass RX3 = some m.cls := hown
  have oi_l := hts (.methodLink RX3 3 objectInit) (List.mem_of_getElem? (i := 1) rfl)
  have oi_i := hts (.instanceMethod objectInit) (List.mem_of_getElem? (i := 2) rfl)
  have oi_c := hts (.code objectInit ⟨#[0xb1]⟩ 1 none) (List.mem_of_getElem? (i := 3) rfl)
  have cl_9 := hts (.classLink RX3 9 RJx4a65c) (List.mem_of_getElem? (i := 4) rfl)
  have in_Jx4a65c := hts (.instantiable RJx4a65c 3) (List.mem_of_getElem? (i := 5) rfl)
  have mi_RJx4a65c := hts (.initialized RJx4a65c) (List.mem_of_getElem? (i := 6) rfl)
  have hin_wsJx4a65c0 : ∀ w ∈ wsJx4a65c0, w ∈ wsX3_init := fun _ h => List.mem_cons_of_mem _ (List.mem_append_left _ (List.mem_append_right _ h))
  have mn_Jx4a65c_init_da8c8 := hts (.instanceMethod yJx4a65c_init_da8c8) (List.mem_of_getElem? (i := 11) rfl)
  have ml_11 := hts (.methodLink RX3 11 yJx4a65c_init_da8c8) (List.mem_of_getElem? (i := 10) rfl)
  have hin_wsX30 : ∀ w ∈ wsX30, w ∈ wsX3_init := fun _ h => List.mem_cons_of_mem _ (List.mem_append_right _ h)
  have fl_12 := hts (.fieldLink RX3 12 "PlanningBench$Plan" "zones" "Ljava/util/ArrayList;") (List.mem_of_getElem? (i := 7) rfl)
  have fl_18 := hts (.fieldLink RX3 18 "PlanningBench$Plan" "from" "I") (List.mem_of_getElem? (i := 8) rfl)
  have fl_22 := hts (.fieldLink RX3 22 "PlanningBench$Plan" "knownFrom" "I") (List.mem_of_getElem? (i := 9) rfl)
  refine lv_aload_n hx hb dX3_init_0 rfl (lv_at hl 0 rfl) ?_
  refine W.objInit hx hb hown oi_l oi_i oi_c rfl (hl.1.trans hml.symm) rfl dX3_init_1 (Nat.le_of_ble_eq_true rfl) (Nat.le_of_ble_eq_true rfl) ?_
  refine lv_aload_n hx hb dX3_init_4 rfl (lv_at hl 0 rfl) ?_
  refine mp_new (kn := (12, p0, 0)) (C := RJx4a65c) (T := TJx4a65c) (N := 3) (ci := 0) (fs := [.int (0 : Int32), .null, .int (0 : Int32)]) hx hb hts hin_wsJx4a65c0 tyJx4a65c tyJx4a65c_ok hown cl_9 in_Jx4a65c mi_RJx4a65c hC.1 hM hS hC.2.2.2 rfl (fun j hj => by rcases (show j = 0 ∨ j = 1 ∨ j = 2 by omega) with rfl | rfl | rfl <;> rfl) (Nat.le_of_ble_eq_true rfl) (Nat.le_of_ble_eq_true rfl) dX3_init_5 hk (fun zl H hM hS => ?_)
  have hM : mp_P G.1 A (mp_set M (12, p0, 0) (zl, .inr (0, [.int (0 : Int32), .null, .int (0 : Int32)]))) H := hM
  refine lv_dup hx hb dX3_init_8 rfl ?_
  refine mp_callv (va_runI (As := []) (rest := [.ref zl, .ref aq]) ⟨hx, hb, hml, hown, hts⟩ (c_Jx4a65c_init_da8c8 l X G A (mp_set M (12, p0, 0) (zl, .inr (0, [.int (0 : Int32), .null, .int (0 : Int32)]))) zl (12, p0, 0) (mp_set_s _ _ _)) (cwI 0 hts gX3_init_Jx4a65c_init_da8c8 rfl rfl rfl mi_RJx4a65c ml_11 mn_Jx4a65c_init_da8c8 rfl (by decide +kernel) ⟨Nat.le_of_ble_eq_true rfl, Nat.le_of_ble_eq_true rfl⟩) (mp_preS hC hS hM) rfl rfl hl.1 rfl (lv_room (Nat.le_of_ble_eq_true rfl)) dX3_init_9 ⟨Nat.le_of_ble_eq_true rfl, Nat.le_of_ble_eq_true rfl⟩) hS (fun H locs hM hS => ?_)
  rw [mp_set_set] at hM
  have hM : mp_P G.1 A (mp_set M (12, p0, 0) (zl, .inr (0, [.int (0 : Int32), .ref X.1, .int (0 : Int32)]))) H := hM
  refine mp_putF (D := G.1) (C := RX3) (T := TX3) (N := 3) (ci := 4) hx hb hts hin_wsX30 tyX3 tyX3_ok nmX3 hown hC.1 hM hS ((mp_set_n _ _ _ (cl_neN ha hk)).trans ha) rfl 2 (by decide) fl_12 (fun _ z => z) rfl hnm rfl rfl rfl (Nat.le_of_ble_eq_true rfl) dX3_init_12 (fs' := [.int (0 : Int32), .int (0 : Int32), .ref zl]) rfl (fun H locs hM hS => ?_)
  have hM : mp_P G.1 A (mp_set (mp_set M (12, p0, 0) (zl, .inr (0, [.int (0 : Int32), .ref X.1, .int (0 : Int32)]))) (11, p0, 0) (aq, .inr (4, [.int (0 : Int32), .int (0 : Int32), .ref zl]))) H := hM
  refine lv_aload_n hx hb dX3_init_15 rfl (lv_at hl 0 rfl) ?_
  refine lv_iload_n hx hb dX3_init_16 rfl (lv_at hl 1 rfl) ?_
  refine mp_putF (D := G.1) (C := RX3) (T := TX3) (N := 3) (ci := 4) hx hb hts hin_wsX30 tyX3 tyX3_ok nmX3 hown hC.1 hM hS (mp_set_s _ _ _) rfl 0 (by decide) fl_18 (fun _ z => z) rfl hnm rfl rfl rfl (Nat.le_of_ble_eq_true rfl) dX3_init_17 (fs' := [.int fr, .int (0 : Int32), .ref zl]) rfl (fun H locs hM hS => ?_)
  rw [mp_set_set] at hM
  have hM : mp_P G.1 A (mp_set (mp_set M (12, p0, 0) (zl, .inr (0, [.int (0 : Int32), .ref X.1, .int (0 : Int32)]))) (11, p0, 0) (aq, .inr (4, [.int fr, .int (0 : Int32), .ref zl]))) H := hM
  refine lv_aload_n hx hb dX3_init_20 rfl (lv_at hl 0 rfl) ?_
  refine lv_iload_n hx hb dX3_init_21 rfl (lv_at hl 2 rfl) ?_
  refine mp_putF (D := G.1) (C := RX3) (T := TX3) (N := 3) (ci := 4) hx hb hts hin_wsX30 tyX3 tyX3_ok nmX3 hown hC.1 hM hS (mp_set_s _ _ _) rfl 1 (by decide) fl_22 (fun _ z => z) rfl hnm rfl rfl rfl (Nat.le_of_ble_eq_true rfl) dX3_init_22 (fs' := [.int fr, .int kw, .ref zl]) rfl (fun H locs hM hS => ?_)
  rw [mp_set_set] at hM
  have hM : mp_P G.1 A (mp_set (mp_set M (12, p0, 0) (zl, .inr (0, [.int (0 : Int32), .ref X.1, .int (0 : Int32)]))) (11, p0, 0) (aq, .inr (4, [.int fr, .int kw, .ref zl]))) H := hM
  exact mp_vret hx hb hr hlocks (Nat.le_of_ble_eq_true rfl) (Nat.le_of_ble_eq_true rfl) hM hS dX3_init_25 (⟨rfl, zl, rfl⟩)
abbrev rmX3_zoneNaming : Room := { frames := 3, cells := 0, slots := 0, locals := 64 }
set_option maxHeartbeats 4000000 in
set_option maxRecDepth 100000 in
theorem c_X3_zoneNaming (l : Launch) (X : mp_X) (G : mp_G) (A : Nat → Prop) (M : mp_M) (pq zl zc : Nat) (fr kw : Int32) (za : Nat → Nat) (zz : Nat → zr) (kp kl kd : mp_N) (hP : M kp = some (pq, .inr (4, [.int fr, .int kw, .ref zl]))) (hL : Lst G X M kl kd zl zc za) (hzc : zc ≤ 8) (hZ : ∀ z, z < zc → ZnAt M (za z) (zrv (zz z))) (q : Int32) : mp_Met l X G A yX3_zoneNaming wsX3_zoneNaming rmX3_zoneNaming ([.ref pq, .int q] : List Value) M (fun r M1 => r = some (.int (oI (fst (fun z => ¬ zrv (zz z) 0 &&& btO q = 0) zc))) ∧ M1 = M) 0 0 := by
  refine mp_ofW (cc := cX3_zoneNaming) (maxL := 3) (ret := (some .int)) (by decide) rfl (Nat.le_of_ble_eq_true rfl) ?_
  intro p e s m below meth c ls hx hb hr hts hown hlocks hnm hml hC hM hS hl
  have hl : lv_has ls 3 [(0, .ref pq), (1, .int q)] := hl
  have hown : s.vm.findClass RX3 = some m.cls := hown
  have hin_wsX30 : ∀ w ∈ wsX30, w ∈ wsX3_zoneNaming := fun _ h => List.mem_cons_of_mem _ (List.mem_append_left _ (List.mem_append_left _ (List.mem_append_right _ h)))
  have fl_12 := hts (.fieldLink RX3 12 "PlanningBench$Plan" "zones" "Ljava/util/ArrayList;") (List.mem_of_getElem? (i := 1) rfl)
  have cl_33 := hts (.classLink RX3 33 "PlanningBench$Zone") (List.mem_of_getElem? (i := 2) rfl)
  refine lv_iconst (v := (0 : Int32)) hx hb dX3_zoneNaming_0 (by decide) ?_
  refine lv_istore_n (lv' := [(2, .int (0 : Int32)), (0, .ref pq), (1, .int q)]) hx hb dX3_zoneNaming_1 rfl hl (by decide) rfl (fun ls hl => ?_)
  have LP2 : ∀ (kk : Nat) (i : Nat) (ls : Array Slot) (H : Heap) (locs : List Loc), zc - i < kk → i ≤ zc → fst (fun z => ¬ zrv (zz z) 0 &&& btO q = 0) i = none → mp_P G.1 A M H → va_S A s.heap H locs → lv_has ls 3 [(0, .ref pq), (1, .int q), (2, .int (nI i))] → W p l e rmX3_zoneNaming s m ([.ref pq, .int q] : List Value).toArray below meth c H locs 0 0 (MQ below (mp_Q G.1 A (fun r M1 => r = some (.int (oI (fst (fun z => ¬ zrv (zz z) 0 &&& btO q = 0) zc))) ∧ M1 = M)) ([.ref pq, .int q] : List Value).toArray s 0 0 A) (F0 m 2 ls []) := by
    intro kk
    induction kk with
    | zero => intro i ls H locs hk; exact absurd hk (Nat.not_lt_zero _)
    | succ kk ih =>
      intro i ls H locs hk hi hinv hM hS hl
      refine lv_iload_n hx hb dX3_zoneNaming_2 rfl (lv_at hl 2 rfl) ?_
      refine lv_aload_n hx hb dX3_zoneNaming_3 rfl (lv_at hl 0 rfl) ?_
      refine va_get (D := G.1) (C := RX3) (T := TX3) (N := 3) (ci := 4) hx hb hts hin_wsX30 hown hC.1 (hM.one hP) 0 rfl rfl 2 (by decide) fl_12 (fun _ z => z) rfl dX3_zoneNaming_4 ?_
      refine mp_calli (va_runV (As := []) (rest := [.int (nI i)]) ⟨hx, hb, hml, hown, hts⟩ (c_size l X G A (M) hL) (cwV 0 hts gX3_zoneNaming_Jx4a65c_size_8abf5 rfl rfl rfl (by decide +kernel) ⟨Nat.le_of_ble_eq_true rfl, Nat.le_of_ble_eq_true rfl⟩) (mp_preV hC hS hM (mp_recvL hC.1 hM hL)) rfl rfl hl.1 rfl (lv_room (Nat.le_of_ble_eq_true rfl)) dX3_zoneNaming_7 ⟨Nat.le_of_ble_eq_true rfl, Nat.le_of_ble_eq_true rfl⟩) hS (fun H locs hM hS => ?_)
      refine lv_icmp_ge (tgt := 39) hx hb dX3_zoneNaming_10 (by decide) (fun c1 => ?_) (fun c1 => ?_)
      · have c1 := nn_le (a := zc) (b := i) (by omega) (by omega) c1
        refine lv_iconst (v := (-1 : Int32)) hx hb dX3_zoneNaming_39 (by decide) ?_
        exact mp_iret hx hb hr hlocks (Nat.le_of_ble_eq_true rfl) (Nat.le_of_ble_eq_true rfl) hM hS dX3_zoneNaming_40 (⟨by rw [show zc = i by omega, hinv]; rfl, rfl⟩)
      · have c1 := nn_nle (a := zc) (b := i) (by omega) (by omega) c1
        refine lv_aload_n hx hb dX3_zoneNaming_13 rfl (lv_at hl 0 rfl) ?_
        refine va_get (D := G.1) (C := RX3) (T := TX3) (N := 3) (ci := 4) hx hb hts hin_wsX30 hown hC.1 (hM.one hP) 0 rfl rfl 2 (by decide) fl_12 (fun _ z => z) rfl dX3_zoneNaming_14 ?_
        refine lv_iload_n hx hb dX3_zoneNaming_17 rfl (lv_at hl 2 rfl) ?_
        refine mp_callr (va_runV (As := [.int (nI i)]) (rest := []) ⟨hx, hb, hml, hown, hts⟩ (c_get l X G A (M) hL i (by omega)) (cwV 1 hts gX3_zoneNaming_Jx4a65c_get_915e3 rfl rfl rfl (by decide +kernel) ⟨Nat.le_of_ble_eq_true rfl, Nat.le_of_ble_eq_true rfl⟩) (mp_preV hC hS hM (mp_recvL hC.1 hM hL)) rfl rfl hl.1 rfl (lv_room (Nat.le_of_ble_eq_true rfl)) dX3_zoneNaming_18 ⟨Nat.le_of_ble_eq_true rfl, Nat.le_of_ble_eq_true rfl⟩) hS (fun H locs hM hS => ?_)
        obtain ⟨kz1, hz1⟩ := hZ i (by omega)
        refine va_castS hx hb hown cl_33 (hC.1.1 7 (RX6, TX6, 6) rfl).2 (mp_recv hC.1 hM hz1 (r := (RX6, TX6, 6)) rfl) dX3_zoneNaming_21 ?_
        refine lv_iload_n hx hb dX3_zoneNaming_24 rfl (lv_at hl 1 rfl) ?_
        refine mp_calli (va_runV (As := [.int q]) (rest := []) ⟨hx, hb, hml, hown, hts⟩ (c_X6_names l X G A (M) (za i) (zrv (zz i)) (hZ i (by omega)) q) (cwV 1 hts gX3_zoneNaming_X6_names rfl rfl rfl (by decide +kernel) ⟨Nat.le_of_ble_eq_true rfl, Nat.le_of_ble_eq_true rfl⟩) (mp_preV hC hS hM (mp_recv hC.1 hM hz1 (r := (RX6, TX6, 6)) rfl)) rfl rfl hl.1 rfl (lv_room (Nat.le_of_ble_eq_true rfl)) dX3_zoneNaming_25 ⟨Nat.le_of_ble_eq_true rfl, Nat.le_of_ble_eq_true rfl⟩) hS (fun H locs hM hS => ?_)
        refine lv_if_eq (tgt := 33) hx hb dX3_zoneNaming_28 (by decide) (fun c3 => ?_) (fun c3 => ?_)
        · have c3 : (pB (¬ (zrv (zz i)) 0 &&& btO q = 0)) = false := bI_0.mp c3
          refine lv_iinc (v := nI (i + 1)) (lv' := [(2, .int (nI (i + 1))), (0, .ref pq), (1, .int q)]) hx hb dX3_zoneNaming_33 hl (k := 2) rfl (nI_1 i) (by decide) rfl (fun ls hl => ?_)
          refine lv_goto (tgt := 2) hx hb dX3_zoneNaming_36 (by decide) ?_
          exact ih (i + 1) ls _ _ (by omega) (by omega) (fst_no hinv (pB_not.mp c3)) hM hS (lv_sub hl [1, 2, 0] rfl)
        · have c3 : (pB (¬ (zrv (zz i)) 0 &&& btO q = 0)) = true := bI_1.mp c3
          refine lv_iload_n hx hb dX3_zoneNaming_31 rfl (lv_at hl 2 rfl) ?_
          exact mp_iret hx hb hr hlocks (Nat.le_of_ble_eq_true rfl) (Nat.le_of_ble_eq_true rfl) hM hS dX3_zoneNaming_32 (⟨by rw [fst_up (fst_yes hinv (pB_iff.mp c3)) (by omega)]; rfl, rfl⟩)
  exact LP2 _ 0 ls _ _ (Nat.lt_succ_self _) (Nat.zero_le _) rfl hM hS (lv_sub hl [1, 2, 0] rfl)
abbrev rmX3_zoneAt : Room := { frames := 3, cells := 0, slots := 0, locals := 64 }
set_option maxHeartbeats 4000000 in
set_option maxRecDepth 100000 in
theorem c_X3_zoneAt (l : Launch) (X : mp_X) (G : mp_G) (A : Nat → Prop) (M : mp_M) (pq zl zc : Nat) (fr kw : Int32) (za : Nat → Nat) (zz : Nat → zr) (kp kl kd : mp_N) (hP : M kp = some (pq, .inr (4, [.int fr, .int kw, .ref zl]))) (hL : Lst G X M kl kd zl zc za) (hzc : zc ≤ 8) (hZ : ∀ z, z < zc → ZnAt M (za z) (zrv (zz z))) (j : Nat) (hj : j < zc) : mp_Met l X G A yX3_zoneAt wsX3_zoneAt rmX3_zoneAt ([.ref pq, .int (nI j)] : List Value) M (fun r M1 => r = some (.ref (za j)) ∧ M1 = M) 0 0 := by
  refine mp_ofW (cc := cX3_zoneAt) (maxL := 2) (ret := (some (.object "PlanningBench$Zone"))) (by decide) rfl (Nat.le_of_ble_eq_true rfl) ?_
  intro p e s m below meth c ls hx hb hr hts hown hlocks hnm hml hC hM hS hl
  have hl : lv_has ls 2 [(0, .ref pq), (1, .int (nI j))] := hl
  have hown : s.vm.findClass RX3 = some m.cls := hown
  have hin_wsX30 : ∀ w ∈ wsX30, w ∈ wsX3_zoneAt := fun _ h => List.mem_cons_of_mem _ (List.mem_append_left _ (List.mem_append_right _ h))
  have fl_12 := hts (.fieldLink RX3 12 "PlanningBench$Plan" "zones" "Ljava/util/ArrayList;") (List.mem_of_getElem? (i := 1) rfl)
  have cl_33 := hts (.classLink RX3 33 "PlanningBench$Zone") (List.mem_of_getElem? (i := 2) rfl)
  refine lv_iload_n hx hb dX3_zoneAt_0 rfl (lv_at hl 1 rfl) ?_
  refine lv_if_lt (tgt := 29) hx hb dX3_zoneAt_1 (by decide) (fun c_1 => ?_) (fun c_1 => ?_)
  · have c_1 := nn_lt (a := j) (b := 0) (by omega) (by omega) c_1
    exact absurd c_1 (Nat.not_lt_zero _)
  · have c_1 := nn_nlt (a := j) (b := 0) (by omega) (by omega) c_1
    refine lv_iload_n hx hb dX3_zoneAt_4 rfl (lv_at hl 1 rfl) ?_
    refine lv_aload_n hx hb dX3_zoneAt_5 rfl (lv_at hl 0 rfl) ?_
    refine va_get (D := G.1) (C := RX3) (T := TX3) (N := 3) (ci := 4) hx hb hts hin_wsX30 hown hC.1 (hM.one hP) 0 rfl rfl 2 (by decide) fl_12 (fun _ z => z) rfl dX3_zoneAt_6 ?_
    refine mp_calli (va_runV (As := []) (rest := [.int (nI j)]) ⟨hx, hb, hml, hown, hts⟩ (c_size l X G A (M) hL) (cwV 0 hts gX3_zoneAt_Jx4a65c_size_8abf5 rfl rfl rfl (by decide +kernel) ⟨Nat.le_of_ble_eq_true rfl, Nat.le_of_ble_eq_true rfl⟩) (mp_preV hC hS hM (mp_recvL hC.1 hM hL)) rfl rfl hl.1 rfl (lv_room (Nat.le_of_ble_eq_true rfl)) dX3_zoneAt_9 ⟨Nat.le_of_ble_eq_true rfl, Nat.le_of_ble_eq_true rfl⟩) hS (fun H locs hM hS => ?_)
    refine lv_icmp_ge (tgt := 29) hx hb dX3_zoneAt_12 (by decide) (fun c_2 => ?_) (fun c_2 => ?_)
    · have c_2 := nn_le (a := zc) (b := j) (by omega) (by omega) c_2
      exact absurd c_2 (by omega)
    · have c_2 := nn_nle (a := zc) (b := j) (by omega) (by omega) c_2
      refine lv_aload_n hx hb dX3_zoneAt_15 rfl (lv_at hl 0 rfl) ?_
      refine va_get (D := G.1) (C := RX3) (T := TX3) (N := 3) (ci := 4) hx hb hts hin_wsX30 hown hC.1 (hM.one hP) 0 rfl rfl 2 (by decide) fl_12 (fun _ z => z) rfl dX3_zoneAt_16 ?_
      refine lv_iload_n hx hb dX3_zoneAt_19 rfl (lv_at hl 1 rfl) ?_
      refine mp_callr (va_runV (As := [.int (nI j)]) (rest := []) ⟨hx, hb, hml, hown, hts⟩ (c_get l X G A (M) hL j (by omega)) (cwV 1 hts gX3_zoneAt_Jx4a65c_get_915e3 rfl rfl rfl (by decide +kernel) ⟨Nat.le_of_ble_eq_true rfl, Nat.le_of_ble_eq_true rfl⟩) (mp_preV hC hS hM (mp_recvL hC.1 hM hL)) rfl rfl hl.1 rfl (lv_room (Nat.le_of_ble_eq_true rfl)) dX3_zoneAt_20 ⟨Nat.le_of_ble_eq_true rfl, Nat.le_of_ble_eq_true rfl⟩) hS (fun H locs hM hS => ?_)
      obtain ⟨kz1, hz1⟩ := hZ j (by omega)
      refine va_castS hx hb hown cl_33 (hC.1.1 7 (RX6, TX6, 6) rfl).2 (mp_recv hC.1 hM hz1 (r := (RX6, TX6, 6)) rfl) dX3_zoneAt_23 ?_
      refine lv_goto (tgt := 30) hx hb dX3_zoneAt_26 (by decide) ?_
      exact mp_aret hx hb hr hlocks (Nat.le_of_ble_eq_true rfl) (Nat.le_of_ble_eq_true rfl) hM hS dX3_zoneAt_30 (by first | exact Or.inl ⟨_, rfl⟩ | exact Or.inr ⟨_, rfl⟩) (by first | exact Or.inl rfl | exact Or.inr ⟨_, rfl⟩) (⟨rfl, rfl⟩)
set_option maxHeartbeats 4000000 in
set_option maxRecDepth 100000 in
theorem c_X3_zoneAt_n (l : Launch) (X : mp_X) (G : mp_G) (A : Nat → Prop) (M : mp_M) (pq zl zc : Nat) (fr kw : Int32) (za : Nat → Nat) (zz : Nat → zr) (kp kl kd : mp_N) (hP : M kp = some (pq, .inr (4, [.int fr, .int kw, .ref zl]))) (hL : Lst G X M kl kd zl zc za) (hzc : zc ≤ 8) (hZ : ∀ z, z < zc → ZnAt M (za z) (zrv (zz z))) (w : Int32) (hw : ¬ isAt w zc) : mp_Met l X G A yX3_zoneAt wsX3_zoneAt rmX3_zoneAt ([.ref pq, .int w] : List Value) M (fun r M1 => r = some .null ∧ M1 = M) 0 0 := by
  refine mp_ofW (cc := cX3_zoneAt) (maxL := 2) (ret := (some (.object "PlanningBench$Zone"))) (by decide) rfl (Nat.le_of_ble_eq_true rfl) ?_
  intro p e s m below meth c ls hx hb hr hts hown hlocks hnm hml hC hM hS hl
  have hl : lv_has ls 2 [(0, .ref pq), (1, .int w)] := hl
  have hown : s.vm.findClass RX3 = some m.cls := hown
  have hin_wsX30 : ∀ w ∈ wsX30, w ∈ wsX3_zoneAt := fun _ h => List.mem_cons_of_mem _ (List.mem_append_left _ (List.mem_append_right _ h))
  have fl_12 := hts (.fieldLink RX3 12 "PlanningBench$Plan" "zones" "Ljava/util/ArrayList;") (List.mem_of_getElem? (i := 1) rfl)
  refine lv_iload_n hx hb dX3_zoneAt_0 rfl (lv_at hl 1 rfl) ?_
  refine lv_if_lt (tgt := 29) hx hb dX3_zoneAt_1 (by decide) (fun c1 => ?_) (fun c1 => ?_)
  · have c1 := c1
    refine lv_null hx hb dX3_zoneAt_29 ?_
    exact mp_aret hx hb hr hlocks (Nat.le_of_ble_eq_true rfl) (Nat.le_of_ble_eq_true rfl) hM hS dX3_zoneAt_30 (by first | exact Or.inl ⟨_, rfl⟩ | exact Or.inr ⟨_, rfl⟩) (by first | exact Or.inl rfl | exact Or.inr ⟨_, rfl⟩) (⟨rfl, rfl⟩)
  · have c1 := c1
    refine lv_iload_n hx hb dX3_zoneAt_4 rfl (lv_at hl 1 rfl) ?_
    refine lv_aload_n hx hb dX3_zoneAt_5 rfl (lv_at hl 0 rfl) ?_
    refine va_get (D := G.1) (C := RX3) (T := TX3) (N := 3) (ci := 4) hx hb hts hin_wsX30 hown hC.1 (hM.one hP) 0 rfl rfl 2 (by decide) fl_12 (fun _ z => z) rfl dX3_zoneAt_6 ?_
    refine mp_calli (va_runV (As := []) (rest := [.int w]) ⟨hx, hb, hml, hown, hts⟩ (c_size l X G A (M) hL) (cwV 0 hts gX3_zoneAt_Jx4a65c_size_8abf5 rfl rfl rfl (by decide +kernel) ⟨Nat.le_of_ble_eq_true rfl, Nat.le_of_ble_eq_true rfl⟩) (mp_preV hC hS hM (mp_recvL hC.1 hM hL)) rfl rfl hl.1 rfl (lv_room (Nat.le_of_ble_eq_true rfl)) dX3_zoneAt_9 ⟨Nat.le_of_ble_eq_true rfl, Nat.le_of_ble_eq_true rfl⟩) hS (fun H locs hM hS => ?_)
    refine lv_icmp_ge (tgt := 29) hx hb dX3_zoneAt_12 (by decide) (fun c3 => ?_) (fun c3 => ?_)
    · have c3 := c3
      refine lv_null hx hb dX3_zoneAt_29 ?_
      exact mp_aret hx hb hr hlocks (Nat.le_of_ble_eq_true rfl) (Nat.le_of_ble_eq_true rfl) hM hS dX3_zoneAt_30 (by first | exact Or.inl ⟨_, rfl⟩ | exact Or.inr ⟨_, rfl⟩) (by first | exact Or.inl rfl | exact Or.inr ⟨_, rfl⟩) (⟨rfl, rfl⟩)
    · have c3 := c3
      exact absurd c3 (fun z => hw (nI_ex (by omega) c1 (i_nle.mp z)))
abbrev rmX4_readInto : Room := { frames := 8, cells := 16, slots := 1248, locals := 173 }
set_option maxHeartbeats 4000000 in
set_option maxRecDepth 100000 in
theorem c_X4_readInto (l : Launch) (X : mp_X) (G : mp_G) (A : Nat → Prop) (M : mp_M) (rq tp sz : Nat) (t : Nat → Int32) (hT : M (15, 0, 0) = some (tp, .inl (G.2.1, 600, .inl t))) (hsz : sz ≤ 600) (hO : M (14, 0, 0) = some (rq, .inr (5, [.ref tp, .int (nI sz), .int (nI 0), .int (nI 0)]))) (p0 pq zl : Nat) (fr kw : Int32) (hP : M (11, p0, 0) = some (pq, .inr (4, [.int fr, .int kw, .ref zl]))) (hL : Lst G X M (12, p0, 0) (13, p0, 0) zl 0 (fun _ => 0)) (hZ : ∀ j, M (7, p0, j) = none) (h16 : M (16, 0, 0) = none) : mp_Met l X G A yX4_readInto wsX4_readInto rmX4_readInto ([.ref rq, .ref pq] : List Value) M (fun r M1 => r = some (.int (if (adX t sz).1 = true then -1 else nI (adX t sz).2.1)) ∧ (∀ k, ¬ PlX p0 k → M1 k = M k) ∧ ((adX t sz).1 = true → (adX t sz).2.2.1 ≤ 8 ∧ ∃ za : Nat → Nat, Lst G X M1 (12, p0, 0) (13, p0, 0) zl (adX t sz).2.2.1 za ∧ (∀ j, j < (adX t sz).2.2.1 → M1 (7, p0, j) = some (za j, .inr (7, zn_fs (zrv ((adX t sz).2.2.2 j))))) ∧ ∀ j, (adX t sz).2.2.1 ≤ j → M1 (7, p0, j) = none)) 16 1248 := by
  refine mp_ofW (cc := cX4_readInto) (maxL := 4) (ret := (some .int)) (by decide) rfl (Nat.le_of_ble_eq_true rfl) ?_
  intro p e s m below meth c ls hx hb hr hts hown hlocks hnm hml hC hM hS hl
  have hl : lv_has ls 4 [(0, .ref rq), (1, .ref pq)] := hl
  have hown : s.vm.findClass RX4 = some m.cls := hown
  have hin_wsX40 : ∀ w ∈ wsX40, w ∈ wsX4_readInto := fun _ h => List.mem_cons_of_mem _ (List.mem_append_left _ (List.mem_append_left _ (List.mem_append_left _ (List.mem_append_right _ h))))
  have fl_9 := hts (.fieldLink RX4 9 "PlanningBench$PlanReader" "start" "I") (List.mem_of_getElem? (i := 1) rfl)
  have fl_28 := hts (.fieldLink RX4 28 "PlanningBench$PlanReader" "length" "I") (List.mem_of_getElem? (i := 2) rfl)
  have cl_34 := hts (.classLink RX4 34 RX6) (List.mem_of_getElem? (i := 3) rfl)
  have in_X6 := hts (.instantiable RX6 6) (List.mem_of_getElem? (i := 4) rfl)
  have mi_RX6 := hts (.initialized RX6) (List.mem_of_getElem? (i := 5) rfl)
  have hin_wsX60 : ∀ w ∈ wsX60, w ∈ wsX4_readInto := fun _ h => List.mem_cons_of_mem _ (List.mem_append_left _ (List.mem_append_left _ (List.mem_append_right _ h)))
  have mn_X6_init := hts (.instanceMethod yX6_init) (List.mem_of_getElem? (i := 22) rfl)
  have nw_36 := hC.2.1 (.methodLinkNest RX4 36 yX6_init "PlanningBench") (List.mem_of_getElem? (i := 1) rfl)
  have hin_wsX30 : ∀ w ∈ wsX30, w ∈ wsX4_readInto := fun _ h => List.mem_cons_of_mem _ (List.mem_append_left _ (List.mem_append_right _ h))
  have nf_41 := hC.2.1 (.fieldLinkNest RX4 41 "PlanningBench$Plan" "zones" "Ljava/util/ArrayList;" "PlanningBench") (List.mem_of_getElem? (i := 6) rfl)
  refine lv_aload_n hx hb dX4_readInto_0 rfl (lv_at hl 0 rfl) ?_
  refine mp_callv (va_runV (As := []) (rest := []) ⟨hx, hb, hml, hown, hts⟩ (c_X4_advance l X G A M rq tp sz t (14, 0, 0) (15, 0, 0) hT (by simp) hsz 0 0 (by omega) hO) (cwV 0 hts gX4_readInto_X4_advance rfl rfl rfl (by decide +kernel) ⟨Nat.le_of_ble_eq_true rfl, Nat.le_of_ble_eq_true rfl⟩) (mp_preV hC hS hM (mp_recv hC.1 hM hO (r := (RX4, TX4, 4)) rfl)) rfl rfl hl.1 rfl (lv_room (Nat.le_of_ble_eq_true rfl)) dX4_readInto_1 ⟨Nat.le_of_ble_eq_true rfl, Nat.le_of_ble_eq_true rfl⟩) hS (fun H locs hM hS => ?_)
  refine lv_iconst (v := (0 : Int32)) hx hb dX4_readInto_4 (by decide) ?_
  refine lv_istore_n (lv' := [(2, .int (0 : Int32)), (0, .ref rq), (1, .ref pq)]) hx hb dX4_readInto_5 rfl hl (by decide) rfl (fun ls hl => ?_)
  have LP6 : ∀ (kk : Nat) (Mc : mp_M) (mz jc : Nat) (zs : Nat → zr) (za : Nat → Nat) (ls : Array Slot) (H : Heap) (locs : List Loc), 8 - mz < kk → mz ≤ 8 → jc ≤ sz → (∃ k, adX t sz = zoS t sz k (tb t sz jc) mz zs ∧ sz - tb t sz jc < k) → (∀ k, ¬ PlX p0 k → Mc k = M k) → Mc (14, 0, 0) = some (rq, .inr (5, [.ref tp, .int (nI sz), .int (nI (tb t sz jc)), .int (nI (te t sz jc))])) → Lst G X Mc (12, p0, 0) (13, p0, 0) zl mz za → (∀ j, j < mz → Mc (7, p0, j) = some (za j, .inr (7, zn_fs (zrv (zs j))))) → (∀ j, mz ≤ j → Mc (7, p0, j) = none) → mp_P G.1 A Mc H → va_S A s.heap H locs → lv_has ls 4 [(0, .ref rq), (1, .ref pq), (2, .int (nI mz))] → W p l e rmX4_readInto s m ([.ref rq, .ref pq] : List Value).toArray below meth c H locs (2 * mz) (156 * mz) (MQ below (mp_Q G.1 A (fun r M1 => r = some (.int (if (adX t sz).1 = true then -1 else nI (adX t sz).2.1)) ∧ (∀ k, ¬ PlX p0 k → M1 k = M k) ∧ ((adX t sz).1 = true → (adX t sz).2.2.1 ≤ 8 ∧ ∃ za : Nat → Nat, Lst G X M1 (12, p0, 0) (13, p0, 0) zl (adX t sz).2.2.1 za ∧ (∀ j, j < (adX t sz).2.2.1 → M1 (7, p0, j) = some (za j, .inr (7, zn_fs (zrv ((adX t sz).2.2.2 j))))) ∧ ∀ j, (adX t sz).2.2.1 ≤ j → M1 (7, p0, j) = none))) ([.ref rq, .ref pq] : List Value).toArray s 16 1248 A) (F0 m 6 ls []) := by
    intro kk
    induction kk with
    | zero => intro Mc mz jc zs za ls H locs hk; exact absurd hk (Nat.not_lt_zero _)
    | succ kk ih =>
      intro Mc mz jc zs za ls H locs hk hm hjc hctx hFc hOc hLc hZc hZn hM hS hl
      obtain ⟨k1_, hct, hk1⟩ := hctx
      obtain ⟨k2_, rfl⟩ : ∃ k2_, k1_ = k2_ + 1 := ⟨k1_ - 1, by omega⟩
      have htj := te_in (t := t) hjc
      have hTc : Mc (15, 0, 0) = some (tp, .inl (G.2.1, 600, .inl t)) := (hFc _ (by simp [PlX])).trans hT
      have hPc : Mc (11, p0, 0) = some (pq, .inr (4, [.int fr, .int kw, .ref zl])) := (hFc _ (by simp [PlX])).trans hP
      have h16c : Mc (16, 0, 0) = none := (hFc _ (by simp [PlX])).trans h16
      refine lv_iload_n hx hb dX4_readInto_6 rfl (lv_at hl 2 rfl) ?_
      refine lv_bipush (v := (8 : Int32)) hx hb dX4_readInto_7 (by decide) ?_
      refine lv_icmp_ge (tgt := 59) hx hb dX4_readInto_9 (by decide) (fun c1 => ?_) (fun c1 => ?_)
      · have c1 := nn_le (a := 8) (b := mz) (by omega) (by omega) c1
        refine lv_aload_n hx hb dX4_readInto_59 rfl (lv_at hl 0 rfl) ?_
        refine va_get (D := G.1) (C := RX4) (T := TX4) (N := 4) (ci := 5) hx hb hts hin_wsX40 hown hC.1 (hM.one hOc) 0 rfl rfl 2 (by decide) fl_9 (fun _ z => z) rfl dX4_readInto_60 ?_
        refine lv_aload_n hx hb dX4_readInto_63 rfl (lv_at hl 0 rfl) ?_
        refine va_get (D := G.1) (C := RX4) (T := TX4) (N := 4) (ci := 5) hx hb hts hin_wsX40 hown hC.1 (hM.one hOc) 0 rfl rfl 1 (by decide) fl_28 (fun _ z => z) rfl dX4_readInto_64 ?_
        refine lv_icmp_ge (tgt := 77) hx hb dX4_readInto_67 (by decide) (fun c5 => ?_) (fun c5 => ?_)
        · have c5 := nn_le (a := sz) (b := tb t sz jc) (by omega) (by omega) c5
          refine lv_iconst (v := (-1 : Int32)) hx hb dX4_readInto_77 (by decide) ?_
          have hen : adX t sz = (true, tb t sz jc, mz, zs) := hct.trans (zoS_end (by omega))
          exact mp_iret hx hb hr hlocks (by show _ ≤ 16; omega) (by show _ ≤ 1248; omega) hM hS dX4_readInto_78 (⟨by rw [hen]; rfl, hFc, fun _ => by rw [hen]; exact ⟨hm, za, hLc, hZc, hZn⟩⟩)
        · have c5 := nn_nle (a := sz) (b := tb t sz jc) (by omega) (by omega) c5
          refine lv_aload_n hx hb dX4_readInto_70 rfl (lv_at hl 0 rfl) ?_
          refine va_get (D := G.1) (C := RX4) (T := TX4) (N := 4) (ci := 5) hx hb hts hin_wsX40 hown hC.1 (hM.one hOc) 0 rfl rfl 2 (by decide) fl_9 (fun _ z => z) rfl dX4_readInto_71 ?_
          refine lv_goto (tgt := 78) hx hb dX4_readInto_74 (by decide) ?_
          have hm8 : mz = 8 := by omega
          have hen : adX t sz = (false, tb t sz jc, 8, zs) := by rw [hct, hm8, zoS_full (by omega), tb_tb hjc]
          exact mp_iret hx hb hr hlocks (by show _ ≤ 16; omega) (by show _ ≤ 1248; omega) hM hS dX4_readInto_78 (⟨by rw [hen]; rfl, hFc, fun z => by rw [hen] at z; cases z⟩)
      · have c1 := nn_nle (a := 8) (b := mz) (by omega) (by omega) c1
        refine lv_aload_n hx hb dX4_readInto_12 rfl (lv_at hl 0 rfl) ?_
        refine va_get (D := G.1) (C := RX4) (T := TX4) (N := 4) (ci := 5) hx hb hts hin_wsX40 hown hC.1 (hM.one hOc) 0 rfl rfl 2 (by decide) fl_9 (fun _ z => z) rfl dX4_readInto_13 ?_
        refine lv_aload_n hx hb dX4_readInto_16 rfl (lv_at hl 0 rfl) ?_
        refine va_get (D := G.1) (C := RX4) (T := TX4) (N := 4) (ci := 5) hx hb hts hin_wsX40 hown hC.1 (hM.one hOc) 0 rfl rfl 1 (by decide) fl_28 (fun _ z => z) rfl dX4_readInto_17 ?_
        refine lv_icmp_ge (tgt := 59) hx hb dX4_readInto_20 (by decide) (fun c3 => ?_) (fun c3 => ?_)
        · have c3 := nn_le (a := sz) (b := tb t sz jc) (by omega) (by omega) c3
          refine lv_aload_n hx hb dX4_readInto_59 rfl (lv_at hl 0 rfl) ?_
          refine va_get (D := G.1) (C := RX4) (T := TX4) (N := 4) (ci := 5) hx hb hts hin_wsX40 hown hC.1 (hM.one hOc) 0 rfl rfl 2 (by decide) fl_9 (fun _ z => z) rfl dX4_readInto_60 ?_
          refine lv_aload_n hx hb dX4_readInto_63 rfl (lv_at hl 0 rfl) ?_
          refine va_get (D := G.1) (C := RX4) (T := TX4) (N := 4) (ci := 5) hx hb hts hin_wsX40 hown hC.1 (hM.one hOc) 0 rfl rfl 1 (by decide) fl_28 (fun _ z => z) rfl dX4_readInto_64 ?_
          refine lv_icmp_ge (tgt := 77) hx hb dX4_readInto_67 (by decide) (fun c5 => ?_) (fun c5 => ?_)
          · have c5 := nn_le (a := sz) (b := tb t sz jc) (by omega) (by omega) c5
            refine lv_iconst (v := (-1 : Int32)) hx hb dX4_readInto_77 (by decide) ?_
            have hen : adX t sz = (true, tb t sz jc, mz, zs) := hct.trans (zoS_end (by omega))
            exact mp_iret hx hb hr hlocks (by show _ ≤ 16; omega) (by show _ ≤ 1248; omega) hM hS dX4_readInto_78 (⟨by rw [hen]; rfl, hFc, fun _ => by rw [hen]; exact ⟨hm, za, hLc, hZc, hZn⟩⟩)
          · have c5 := nn_nle (a := sz) (b := tb t sz jc) (by omega) (by omega) c5
            exact absurd c5 (by omega)
        · have c3 := nn_nle (a := sz) (b := tb t sz jc) (by omega) (by omega) c3
          refine mp_new (kn := (7, p0, mz)) (C := RX6) (T := TX6) (N := 6) (ci := 7) (fs := [.int (0 : Int32), .int (0 : Int32), .int (0 : Int32), .int (0 : Int32), .int (0 : Int32), .int (0 : Int32)]) hx hb hts hin_wsX60 tyX6 tyX6_ok hown cl_34 in_X6 mi_RX6 hC.1 hM hS hC.2.2.2 rfl (fun j hj => by rcases (show j = 0 ∨ j = 1 ∨ j = 2 ∨ j = 3 ∨ j = 4 ∨ j = 5 by omega) with rfl | rfl | rfl | rfl | rfl | rfl <;> rfl) (by show _ ≤ 16; omega) (by show _ ≤ 1248; omega) dX4_readInto_23 (hZn mz (Nat.le_refl mz)) (fun zq H hM hS => ?_)
          have hM : mp_P G.1 A (mp_set Mc (7, p0, mz) (zq, .inr (7, [.int (0 : Int32), .int (0 : Int32), .int (0 : Int32), .int (0 : Int32), .int (0 : Int32), .int (0 : Int32)]))) H := hM
          refine lv_dup hx hb dX4_readInto_26 rfl ?_
          refine mp_callv (va_runIN (As := []) (rest := [.ref zq]) ⟨hx, hb, hml, hown, hts⟩ (c_X6_init l X G A (mp_set Mc (7, p0, mz) (zq, .inr (7, [.int (0 : Int32), .int (0 : Int32), .int (0 : Int32), .int (0 : Int32), .int (0 : Int32), .int (0 : Int32)]))) zq (7, p0, mz) (mp_set_s _ _ _)) ⟨va_cnB 0 hts gX4_readInto_X6_init_n36 rfl rfl rfl nw_36 mi_RX6 (by decide +kernel) ⟨Nat.le_of_ble_eq_true rfl, Nat.le_of_ble_eq_true rfl⟩, rfl, mn_X6_init⟩ (mp_preS hC hS hM) rfl rfl hl.1 rfl (lv_room (Nat.le_of_ble_eq_true rfl)) dX4_readInto_27 ⟨(by show _ ≤ 16; omega), (by show _ ≤ 1248; omega)⟩) hS (fun H locs hM hS => ?_)
          rw [mp_set_set, ← zn0] at hM
          have hM : mp_P G.1 A (mp_set Mc (7, p0, mz) (zq, .inr (7, zn_fs (zrv zr0)))) H := hM
          refine lv_astore_n (lv' := [(3, .ref zq), (0, .ref rq), (1, .ref pq), (2, .int (nI mz))]) hx hb dX4_readInto_30 rfl hl (by decide) rfl (fun ls hl => ?_)
          refine lv_aload_n hx hb dX4_readInto_31 rfl (lv_at hl 1 rfl) ?_
          refine lv_aload_n hx hb dX4_readInto_32 rfl (lv_at hl 0 rfl) ?_
          refine mp_call (va_runV (As := [.ref zq]) (rest := []) ⟨hx, hb, hml, hown, hts⟩ (c_X4_readZone l X G A (mp_set Mc (7, p0, mz) (zq, .inr (7, zn_fs (zrv zr0)))) rq tp sz t (14, 0, 0) (15, 0, 0) ((mp_set_n _ _ _ (by simp)).trans hTc) (by simp) hsz jc hjc ((mp_set_n _ _ _ (by simp)).trans hOc) zq (7, p0, mz) (mp_set_s _ _ _) (by simp) (by simp)) (cwV 1 hts gX4_readInto_X4_readZone rfl rfl rfl (by decide +kernel) ⟨Nat.le_of_ble_eq_true rfl, Nat.le_of_ble_eq_true rfl⟩) (mp_preV hC hS hM (mp_recv hC.1 hM ((mp_set_n _ _ _ (cl_neN hOc (hZn mz (Nat.le_refl mz)))).trans hOc) (r := (RX4, TX4, 4)) rfl)) rfl rfl hl.1 rfl (lv_room (Nat.le_of_ble_eq_true rfl)) dX4_readInto_33 ⟨(by show _ ≤ 16; omega), (by show _ ≤ 1248; omega)⟩) hS (fun v M1 H locs hp hM hS => ?_)
          obtain ⟨rfl, r1, hM1, hr1⟩ := hp
          have hOd : M1 (14, 0, 0) = some (rq, .inr (5, [.ref tp, .int (nI sz), .int (nI (tb t sz ((zo1 t sz jc).2.1))), .int (nI (te t sz ((zo1 t sz jc).2.1)))])) := by rw [hM1]; simp [mp_set]
          have hZd : M1 (7, p0, mz) = some (zq, .inr (7, zn_fs (zrv r1))) := by rw [hM1]; simp [mp_set]
          have hFd : ∀ k, k ≠ (14, 0, 0) → k ≠ (7, p0, mz) → M1 k = Mc k := fun k a b => by rw [hM1, mp_set_n _ _ _ b, mp_set_n _ _ _ a, mp_set_n _ _ _ b]
          have hPd : M1 (11, p0, 0) = some (pq, .inr (4, [.int fr, .int kw, .ref zl])) := (hFd _ (by simp) (by simp)).trans hPc
          have hLd : Lst G X M1 (12, p0, 0) (13, p0, 0) zl mz za := hLc.congr (hFd _ (by simp) (by simp)) (hFd _ (by simp) (by simp))
          refine lv_if_ne (tgt := 44) hx hb dX4_readInto_36 (by decide) (fun c4 => ?_) (fun c4 => ?_)
          · have c4 : (zo1 t sz jc).1 = true := bI_1.mp c4
            refine lv_aload_n hx hb dX4_readInto_44 rfl (lv_at hl 2 rfl) ?_
            refine va_getN (D := G.1) (C := RX3) (T := TX3) (N := 3) (ci := 4) hx hb hts hin_wsX30 hown hC.1 (hM.one hPd) 0 rfl rfl 2 (by decide) (va_Nw.use rfl nf_41) (fun _ z => z) rfl dX4_readInto_45 ?_
            refine lv_aload_n hx hb dX4_readInto_48 rfl (lv_at hl 0 rfl) ?_
            refine mp_call (va_runV (As := [.ref zq]) (rest := []) ⟨hx, hb, hml, hown, hts⟩ (c_add l X G A M1 hLd (16, 0, 0) ((hFd _ (by simp) (by simp)).trans h16c) (by simp) (by omega) 7 (RX6, TX6, 6) rfl (List.mem_of_getElem? (i := 33) rfl) (fun i hi => ⟨(7, p0, i), _, (hFd _ (by simp) (by simp; omega)).trans (hZc i hi)⟩) (7, p0, mz) zq _ hZd (by decide)) (cwV 1 hts gX4_readInto_Jx4a65c_add_9ea2d rfl rfl rfl (by decide +kernel) ⟨Nat.le_of_ble_eq_true rfl, Nat.le_of_ble_eq_true rfl⟩) (mp_preV hC hS hM (mp_recvL hC.1 hM hLd)) rfl rfl hl.1 rfl (lv_room (Nat.le_of_ble_eq_true rfl)) dX4_readInto_49 ⟨(by show _ ≤ 16; omega), (by show _ ≤ 1248; omega)⟩) hS (fun v M2 H locs hp hM hS => ?_)
            obtain ⟨rfl, x9, y9, hM2, hL2⟩ := hp
            refine lv_pop hx hb dX4_readInto_52 rfl ?_
            refine lv_iinc (v := nI (mz + 1)) (lv' := [(2, .int (nI (mz + 1))), (3, .ref zq), (0, .ref rq), (1, .ref pq)]) hx hb dX4_readInto_53 hl (k := 3) rfl (nI_1 mz) (by decide) rfl (fun ls hl => ?_)
            refine lv_goto (tgt := 6) hx hb dX4_readInto_56 (by decide) ?_
            refine W.widen (k := 2 * (mz + 1)) (n := 156 * (mz + 1)) (by omega) (by omega) ?_
            have hG : ∀ k, k ≠ (12, p0, 0) → k ≠ (13, p0, 0) → M2 k = M1 k := fun k a b => by rw [hM2, mp_set_n _ _ _ a, mp_set_n _ _ _ b]
            have hz3 := zo1_in (t := t) hjc
            have hz4 := tb_in (t := t) hz3.2.1
            exact ih M2 (mz + 1) (zo1 t sz jc).2.1 (va_up zs mz (zo1 t sz jc).2.2) (elU za mz zq) ls _ _ (by omega) (by omega) hz3.2.1 ⟨k2_, hct.trans (zoS_yes hjc c3 c1 c4), by have := hz3.2.2 c4; omega⟩ (fun k hk => by rw [hG k (fun z => hk (Or.inr (Or.inl z))) (fun z => hk (Or.inr (Or.inr (Or.inl z)))), hFd k (fun z => hk (Or.inl z)) (fun z => hk (Or.inr (Or.inr (Or.inr (by rw [z]; exact ⟨rfl, rfl⟩)))))]; exact hFc k hk) ((hG _ (by simp) (by simp)).trans hOd) hL2 (fun j hj => by
              by_cases e : j = mz
              · rw [e, elU_s, va_up_self, hG _ (by simp) (by simp), hZd, hr1 c4]
              · rw [elU_n _ _ _ e, va_up_ne _ _ e, hG _ (by simp) (by simp), hFd _ (by simp) (by simp; exact e)]; exact hZc j (by omega)) (fun j hj => by rw [hG _ (by simp) (by simp), hFd _ (by simp) (by simp; omega)]; exact hZn j (by omega)) hM hS (lv_sub hl [2, 3, 0] rfl)
          · have c4 : (zo1 t sz jc).1 = false := bI_0.mp c4
            refine lv_aload_n hx hb dX4_readInto_39 rfl (lv_at hl 1 rfl) ?_
            refine va_get (D := G.1) (C := RX4) (T := TX4) (N := 4) (ci := 5) hx hb hts hin_wsX40 hown hC.1 (hM.one hOd) 0 rfl rfl 2 (by decide) fl_9 (fun _ z => z) rfl dX4_readInto_40 ?_
            have hno := zoS_no (k := k2_) (zs := zs) hjc c3 c1 c4
            rw [← hct] at hno
            exact mp_iret hx hb hr hlocks (by show _ ≤ 16; omega) (by show _ ≤ 1248; omega) hM hS dX4_readInto_43 (⟨by rw [hno.1, hno.2]; rfl, fun k hk => by rw [hFd k (fun z => hk (Or.inl z)) (fun z => hk (Or.inr (Or.inr (Or.inr (by rw [z]; exact ⟨rfl, rfl⟩)))))]; exact hFc k hk, fun z => by rw [hno.1] at z; cases z⟩)
  exact LP6 _ (mp_set M (14, 0, 0) (rq, .inr (5, [.ref tp, .int (nI sz), .int (nI (tb t sz 0)), .int (nI (te t sz 0))]))) 0 0 (fun _ => zr0) (fun _ => 0) ls _ _ (Nat.lt_succ_self _) (by omega) (by omega) ⟨601, rfl, by omega⟩ (fun k hk => mp_set_n _ _ _ (fun z => hk (Or.inl z))) (mp_set_s _ _ _) (hL.congr (mp_set_n _ _ _ (by simp)) (mp_set_n _ _ _ (by simp))) (fun j hj => absurd hj (Nat.not_lt_zero j)) (fun j _ => (mp_set_n _ _ _ (by simp)).trans (hZ j)) hM hS (lv_sub hl [1, 2, 0] rfl)
