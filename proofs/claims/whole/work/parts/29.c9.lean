/-! ===== a zone's text ===== -/
theorem mp_Met.imp {l : Launch} {X : mp_X} {G : mp_G} {A : Nat → Prop} {y : MethodName} {ws : List Cond} {rm : Room} {av : List Value} {M : mp_M} {post post2 : Option Value → mp_M → Prop} {mc ms : Nat} (h : mp_Met l X G A y ws rm av M post mc ms) (hi : ∀ (v : Option Value) (M1 : mp_M) (H : Heap), post v M1 → mp_P G.1 A M1 H → ∃ M2 : mp_M, post2 v M2 ∧ mp_P G.1 A M2 H) : mp_Met l X G A y ws rm av M post2 mc ms := by
  intro p e ha hf hc s m args below hs hsp hP hK
  obtain ⟨n, o, h1, h2, h3, ⟨⟨v, M1, e1, e2, e3⟩, e4⟩, e5⟩ := h p e ha hf hc s m args below hs hsp hP hK
  obtain ⟨M2, e6, e7⟩ := hi v M1 _ e2 e3
  exact ⟨n, o, h1, h2, h3, ⟨⟨v, M2, e1, e6, e7⟩, e4⟩, e5⟩
theorem mp_Met.imp1 {l : Launch} {X : mp_X} {G : mp_G} {A : Nat → Prop} {y : MethodName} {ws : List Cond} {rm : Room} {av : List Value} {M : mp_M} {post post2 : Option Value → mp_M → Prop} {mc ms : Nat} (h : mp_Met l X G A y ws rm av M post mc ms) (hi : ∀ (v : Option Value) (M1 : mp_M), post v M1 → post2 v M1) : mp_Met l X G A y ws rm av M post2 mc ms :=
  h.imp (fun v M1 _ h1 h2 => ⟨M1, hi v M1 h1, h2⟩)
theorem mp_P.sub {D : va_G} {A : Nat → Prop} {M M2 : mp_M} {H : Heap} (h : mp_P D A M H) (hs : ∀ (k : mp_N) (q : Nat × va_E), M2 k = some q → M k = some q) : mp_P D A M2 H :=
  ⟨fun k q hk => h.1 k q (hs k q hk), fun i j x y hi hj => h.2.1 i j x y (hs i x hi) (hs j y hj), fun k q hk => h.2.2 k q (hs k q hk)⟩
theorem wd_tb {t : Nat → Int32} {sz i : Nat} (h : i ≤ sz) : wd t sz (tb t sz i) = wd t sz i := by rw [wd, wd, tb_tb h, we_tb h]
theorem itemS_tb {t : Nat → Int32} {sz i : Nat} {r : zr} (h : i ≤ sz) : itemS t sz (tb t sz i) r = itemS t sz i r := by rw [itemS, itemS, wd_tb h, tb_tb h, we_tb h]
noncomputable def ctI (t : Nat → Int32) (sz k j : Nat) (r : zr) : Bool × Nat × zr := if pB (tkP t sz j 125) then (true, tkN t sz j 125, r) else itB t sz k (tkN t sz j 125) r
theorem itB_s {t : Nat → Int32} {sz k i : Nat} {r : zr} : itB t sz (k + 1) i r = if (itemS t sz i r).1 then ctI t sz k (itemS t sz i r).2.1 (itemS t sz i r).2.2 else (false, (itemS t sz i r).2.1, (itemS t sz i r).2.2) := rfl
theorem tkN_no {t : Nat → Int32} {sz j : Nat} {q : Int32} (h : ¬ tkP t sz j q) : tkN t sz j q = tb t sz j := by rw [tkN, pB_f h]; rfl
theorem ctI_go {t : Nat → Int32} {sz k j : Nat} {r : zr} (hj : j ≤ sz) (h : ¬ tkP t sz j 125) (hs : (itemS t sz j r).1 = true) : ctI t sz (k + 1) j r = ctI t sz k (itemS t sz j r).2.1 (itemS t sz j r).2.2 := by
  rw [ctI, pB_f h, if_neg (by decide), tkN_no h, itB_s, itemS_tb hj, hs, if_pos rfl]
theorem ctI_no {t : Nat → Int32} {sz k j : Nat} {r : zr} (hj : j ≤ sz) (h : ¬ tkP t sz j 125) (hs : (itemS t sz j r).1 = false) : ctI t sz (k + 1) j r = (false, (itemS t sz j r).2.1, (itemS t sz j r).2.2) := by
  rw [ctI, pB_f h, if_neg (by decide), tkN_no h, itB_s, itemS_tb hj, hs, if_neg (by decide)]
theorem ctI_end {t : Nat → Int32} {sz k j : Nat} {r : zr} (h : tkP t sz j 125) : ctI t sz k j r = (true, tkN t sz j 125, r) := by
  rw [ctI, pB_t h, if_pos rfl]
noncomputable def zo1 (t : Nat → Int32) (sz i : Nat) : Bool × Nat × zr := if pB (wd t sz i = 2054123109) then (if pB (tkP t sz (we t sz i) 123) then ctI t sz 601 (tkN t sz (we t sz i) 123) zr0 else (false, tkN t sz (we t sz i) 123, zr0)) else (false, tb t sz i, zr0)
abbrev rmX4_readZone : Room := { frames := 7, cells := 0, slots := 0, locals := 151 }
set_option maxHeartbeats 4000000 in
set_option maxRecDepth 100000 in
theorem c_X4_readZone (l : Launch) (X : mp_X) (G : mp_G) (A : Nat → Prop) (M : mp_M) (rq tp sz : Nat) (t : Nat → Int32) (kn kt : mp_N) (hT : M kt = some (tp, .inl (G.2.1, 600, .inl t))) (hkt : kt ≠ kn) (hsz : sz ≤ 600) (i : Nat) (hi : i ≤ sz) (hO : M kn = some (rq, .inr (5, [.ref tp, .int (nI sz), .int (nI (tb t sz i)), .int (nI (te t sz i))]))) (zq : Nat) (kz : mp_N) (hZ : M kz = some (zq, .inr (7, zn_fs (zrv zr0)))) (hkz : kz ≠ kn) (hkzt : kz ≠ kt)  : mp_Met l X G A yX4_readZone wsX4_readZone rmX4_readZone ([.ref rq, .ref zq] : List Value) M (fun r M1 => r = some (.int (bI (zo1 t sz i).1)) ∧ ∃ r1 : zr, M1 = mp_set (mp_set M kn (rq, .inr (5, [.ref tp, .int (nI sz), .int (nI (tb t sz ((zo1 t sz i).2.1))), .int (nI (te t sz ((zo1 t sz i).2.1)))]))) kz (zq, .inr (7, zn_fs (zrv r1))) ∧ ((zo1 t sz i).1 = true → r1 = (zo1 t sz i).2.2)) 0 0 := by
  refine mp_ofW (cc := cX4_readZone) (maxL := 3) (ret := (some .boolean)) (by decide) rfl (Nat.le_of_ble_eq_true rfl) ?_
  intro p e s m below meth c ls hx hb hr hts hown hlocks hnm hml hC hM hS hl
  have hl : lv_has ls 3 [(0, .ref rq), (1, .ref zq)] := hl
  have hown : s.vm.findClass RX4 = some m.cls := hown
  have hin_wsX40 : ∀ w ∈ wsX40, w ∈ wsX4_readZone := fun _ h => List.mem_cons_of_mem _ (List.mem_append_left _ (List.mem_append_right _ h))
  have fl_28 := hts (.fieldLink RX4 28 "PlanningBench$PlanReader" "length" "I") (List.mem_of_getElem? (i := 1) rfl)
  have hte := te_in (t := t) hi
  have hwi := we_in (t := t) hi
  have hji := tk_in (t := t) 123 hwi.2.2
  refine lv_aload_n hx hb dX4_readZone_0 rfl (lv_at hl 0 rfl) ?_
  refine va_ldcS hx hb hown (hC.2.2.1.2.2.2.2.2.2.2.1 0 (53, "zone") rfl) dX4_readZone_1 ?_
  by_cases hz : wd t sz i = 2054123109
  · skip
    refine mp_calli (va_runV (As := [.ref (X.2.2.1 0)]) (rest := []) ⟨hx, hb, hml, hown, hts⟩ (c_takeZ l X G A (M) rq tp sz t kn kt hT hkt hsz i (by omega) hO hz) (cwV 1 hts gX4_readZone_X4_take rfl rfl rfl (by decide +kernel) ⟨Nat.le_of_ble_eq_true rfl, Nat.le_of_ble_eq_true rfl⟩) (mp_preV hC hS hM (mp_recv hC.1 hM hO (r := (RX4, TX4, 4)) rfl)) rfl rfl hl.1 rfl (lv_room (Nat.le_of_ble_eq_true rfl)) dX4_readZone_3 ⟨Nat.le_of_ble_eq_true rfl, Nat.le_of_ble_eq_true rfl⟩) hS (fun H locs hM hS => ?_)
    refine lv_if_eq (tgt := 18) hx hb dX4_readZone_6 (by decide) (fun c_1 => ?_) (fun c_1 => ?_)
    · have c_1 := c_1
      exact absurd c_1 (by decide)
    · have c_1 := c_1
      refine lv_aload_n hx hb dX4_readZone_9 rfl (lv_at hl 0 rfl) ?_
      refine va_ldcS hx hb hown (hC.2.2.1.2.2.2.2.2.2.2.1 1 (59, "{") rfl) dX4_readZone_10 ?_
      by_cases hb9 : tkP t sz (we t sz i) 123
      · skip
        refine mp_calli (va_runV (As := [.ref (X.2.2.1 1)]) (rest := []) ⟨hx, hb, hml, hown, hts⟩ (c_takeY l X G A (mp_set M kn (rq, .inr (5, [.ref tp, .int (nI sz), .int (nI (tb t sz (we t sz i))), .int (nI (te t sz (we t sz i)))]))) rq tp sz t kn kt ((mp_set_n _ _ _ (by first | assumption | exact Ne.symm (by assumption) | simp)).trans hT) hkt hsz (we t sz i) (by omega) (mp_set_s _ _ _) 1 (by decide) 123 rfl rfl sg123.1 sg123.2 hb9) (cwV 1 hts gX4_readZone_X4_take rfl rfl rfl (by decide +kernel) ⟨Nat.le_of_ble_eq_true rfl, Nat.le_of_ble_eq_true rfl⟩) (mp_preV hC hS hM (mp_recv hC.1 hM (mp_set_s _ _ _) (r := (RX4, TX4, 4)) rfl)) rfl rfl hl.1 rfl (lv_room (Nat.le_of_ble_eq_true rfl)) dX4_readZone_12 ⟨Nat.le_of_ble_eq_true rfl, Nat.le_of_ble_eq_true rfl⟩) hS (fun H locs hM hS => ?_)
        rw [mp_set_set] at hM
        refine lv_if_ne (tgt := 20) hx hb dX4_readZone_15 (by decide) (fun c_2 => ?_) (fun c_2 => ?_)
        · have c_2 := c_2
          have hzo : zo1 t sz i = ctI t sz 601 (tkN t sz (we t sz i) 123) zr0 := by rw [zo1, pB_t hz, if_pos rfl, pB_t hb9, if_pos rfl]
          have hj0 : 0 < tkN t sz (we t sz i) 123 := by rw [tkN, pB_t hb9]; show 0 < tb t sz (we t sz i) + 1; omega
          refine lv_iconst (v := (0 : Int32)) hx hb dX4_readZone_20 (by decide) ?_
          refine lv_istore_n (lv' := [(2, .int (0 : Int32)), (0, .ref rq), (1, .ref zq)]) hx hb dX4_readZone_21 rfl hl (by decide) rfl (fun ls hl => ?_)
          have LP22 : ∀ (kk : Nat) (u jc : Nat) (rr : zr) (ls : Array Slot) (H : Heap) (locs : List Loc), sz - jc < kk → u < jc → jc ≤ sz → (∃ k, ctI t sz 601 (tkN t sz (we t sz i) 123) zr0 = ctI t sz k jc rr ∧ sz - jc < k) → mp_P G.1 A (mp_set (mp_set M kn (rq, .inr (5, [.ref tp, .int (nI sz), .int (nI (tb t sz jc)), .int (nI (te t sz jc))]))) kz (zq, .inr (7, zn_fs (zrv rr)))) H → va_S A s.heap H locs → lv_has ls 3 [(0, .ref rq), (1, .ref zq), (2, .int (nI u))] → W p l e rmX4_readZone s m ([.ref rq, .ref zq] : List Value).toArray below meth c H locs 0 0 (MQ below (mp_Q G.1 A (fun r M1 => r = some (.int (bI (zo1 t sz i).1)) ∧ ∃ r1 : zr, M1 = mp_set (mp_set M kn (rq, .inr (5, [.ref tp, .int (nI sz), .int (nI (tb t sz ((zo1 t sz i).2.1))), .int (nI (te t sz ((zo1 t sz i).2.1)))]))) kz (zq, .inr (7, zn_fs (zrv r1))) ∧ ((zo1 t sz i).1 = true → r1 = (zo1 t sz i).2.2))) ([.ref rq, .ref zq] : List Value).toArray s 0 0 A) (F0 m 22 ls []) := by
            intro kk
            induction kk with
            | zero => intro u jc rr ls H locs hk; exact absurd hk (Nat.not_lt_zero _)
            | succ kk ih =>
              intro u jc rr ls H locs hk hu hjc hctx hM hS hl
              obtain ⟨k1_, hct, hk1⟩ := hctx
              obtain ⟨k2_, rfl⟩ : ∃ k2_, k1_ = k2_ + 1 := ⟨k1_ - 1, by omega⟩
              have htj := te_in (t := t) hjc
              refine lv_iload_n hx hb dX4_readZone_22 rfl (lv_at hl 2 rfl) ?_
              refine lv_aload_n hx hb dX4_readZone_23 rfl (lv_at hl 0 rfl) ?_
              refine va_get (D := G.1) (C := RX4) (T := TX4) (N := 4) (ci := 5) hx hb hts hin_wsX40 hown hC.1 (hM.one ((mp_set_n _ _ _ (Ne.symm hkz)).trans (mp_set_s _ _ _))) 0 rfl rfl 1 (by decide) fl_28 (fun _ z => z) rfl dX4_readZone_24 ?_
              refine lv_icmp_ge (tgt := 55) hx hb dX4_readZone_27 (by decide) (fun c1 => ?_) (fun c1 => ?_)
              · have c1 := nn_le (a := sz) (b := u) (by omega) (by omega) c1
                exact absurd c1 (by omega)
              · have c1 := nn_nle (a := sz) (b := u) (by omega) (by omega) c1
                refine lv_aload_n hx hb dX4_readZone_30 rfl (lv_at hl 0 rfl) ?_
                refine va_ldcS hx hb hown (hC.2.2.1.2.2.2.2.2.2.2.1 2 (61, "}") rfl) dX4_readZone_31 ?_
                refine mp_calli (va_runV (As := [.ref (X.2.2.1 2)]) (rest := []) ⟨hx, hb, hml, hown, hts⟩ (c_hereY l X G A (mp_set (mp_set M kn (rq, .inr (5, [.ref tp, .int (nI sz), .int (nI (tb t sz jc)), .int (nI (te t sz jc))]))) kz (zq, .inr (7, zn_fs (zrv rr)))) rq tp sz t kn kt ((mp_set_n _ _ _ (Ne.symm hkzt)).trans ((mp_set_n _ _ _ hkt).trans hT)) hkt hsz jc (by omega) ((mp_set_n _ _ _ (Ne.symm hkz)).trans (mp_set_s _ _ _)) 2 (by decide) 125 rfl rfl sg125.1 sg125.2) (cwV 1 hts gX4_readZone_X4_isHere rfl rfl rfl (by decide +kernel) ⟨Nat.le_of_ble_eq_true rfl, Nat.le_of_ble_eq_true rfl⟩) (mp_preV hC hS hM (mp_recv hC.1 hM ((mp_set_n _ _ _ (Ne.symm hkz)).trans (mp_set_s _ _ _)) (r := (RX4, TX4, 4)) rfl)) rfl rfl hl.1 rfl (lv_room (Nat.le_of_ble_eq_true rfl)) dX4_readZone_33 ⟨Nat.le_of_ble_eq_true rfl, Nat.le_of_ble_eq_true rfl⟩) hS (fun H locs hM hS => ?_)
                refine lv_if_ne (tgt := 55) hx hb dX4_readZone_36 (by decide) (fun c3 => ?_) (fun c3 => ?_)
                · have c3 : (pB (tkP t sz jc 125)) = true := bI_1.mp c3
                  refine lv_aload_n hx hb dX4_readZone_55 rfl (lv_at hl 0 rfl) ?_
                  refine va_ldcS hx hb hown (hC.2.2.1.2.2.2.2.2.2.2.1 2 (61, "}") rfl) dX4_readZone_56 ?_
                  refine mp_calli (va_runV (As := [.ref (X.2.2.1 2)]) (rest := []) ⟨hx, hb, hml, hown, hts⟩ (c_takeY l X G A (mp_set (mp_set M kn (rq, .inr (5, [.ref tp, .int (nI sz), .int (nI (tb t sz jc)), .int (nI (te t sz jc))]))) kz (zq, .inr (7, zn_fs (zrv rr)))) rq tp sz t kn kt ((mp_set_n _ _ _ (Ne.symm hkzt)).trans ((mp_set_n _ _ _ hkt).trans hT)) hkt hsz jc (by omega) ((mp_set_n _ _ _ (Ne.symm hkz)).trans (mp_set_s _ _ _)) 2 (by decide) 125 rfl rfl sg125.1 sg125.2 (pB_iff.mp c3)) (cwV 1 hts gX4_readZone_X4_take rfl rfl rfl (by decide +kernel) ⟨Nat.le_of_ble_eq_true rfl, Nat.le_of_ble_eq_true rfl⟩) (mp_preV hC hS hM (mp_recv hC.1 hM ((mp_set_n _ _ _ (Ne.symm hkz)).trans (mp_set_s _ _ _)) (r := (RX4, TX4, 4)) rfl)) rfl rfl hl.1 rfl (lv_room (Nat.le_of_ble_eq_true rfl)) dX4_readZone_58 ⟨Nat.le_of_ble_eq_true rfl, Nat.le_of_ble_eq_true rfl⟩) hS (fun H locs hM hS => ?_)
                  rw [mp_set_comm _ _ _ hkz, mp_set_set] at hM
                  have hI : zo1 t sz i = (true, tkN t sz jc 125, rr) := by rw [hzo, hct, ctI_end (pB_iff.mp c3)]
                  exact mp_zret hx hb hr hlocks (Nat.le_of_ble_eq_true rfl) (Nat.le_of_ble_eq_true rfl) hM hS dX4_readZone_61 (by first | rfl | exact bI_nar _) (⟨by rw [hI]; rfl, rr, by rw [hI], fun _ => by rw [hI]⟩)
                · have c3 : (pB (tkP t sz jc 125)) = false := bI_0.mp c3
                  have hii := itemS_in (t := t) rr hjc
                  refine lv_aload_n hx hb dX4_readZone_39 rfl (lv_at hl 0 rfl) ?_
                  refine lv_aload_n hx hb dX4_readZone_40 rfl (lv_at hl 1 rfl) ?_
                  refine mp_calli (va_runV (As := [.ref zq]) (rest := []) ⟨hx, hb, hml, hown, hts⟩ (c_X4_readItem l X G A (mp_set (mp_set M kn (rq, .inr (5, [.ref tp, .int (nI sz), .int (nI (tb t sz jc)), .int (nI (te t sz jc))]))) kz (zq, .inr (7, zn_fs (zrv rr)))) rq tp sz t kn kt ((mp_set_n _ _ _ (Ne.symm hkzt)).trans ((mp_set_n _ _ _ hkt).trans hT)) hkt hsz jc (by omega) ((mp_set_n _ _ _ (Ne.symm hkz)).trans (mp_set_s _ _ _)) zq kz rr (mp_set_s _ _ _) hkz hkzt) (cwV 1 hts gX4_readZone_X4_readItem rfl rfl rfl (by decide +kernel) ⟨Nat.le_of_ble_eq_true rfl, Nat.le_of_ble_eq_true rfl⟩) (mp_preV hC hS hM (mp_recv hC.1 hM ((mp_set_n _ _ _ (Ne.symm hkz)).trans (mp_set_s _ _ _)) (r := (RX4, TX4, 4)) rfl)) rfl rfl hl.1 rfl (lv_room (Nat.le_of_ble_eq_true rfl)) dX4_readZone_41 ⟨Nat.le_of_ble_eq_true rfl, Nat.le_of_ble_eq_true rfl⟩) hS (fun H locs hM hS => ?_)
                  rw [mp_set_comm _ _ _ hkz, mp_set_set, mp_set_set] at hM
                  refine lv_if_ne (tgt := 49) hx hb dX4_readZone_44 (by decide) (fun c4 => ?_) (fun c4 => ?_)
                  · have c4 : (itemS t sz jc rr).1 = true := bI_1.mp c4
                    have hig := hii.2.2 c4
                    refine lv_iinc (v := nI (u + 1)) (lv' := [(2, .int (nI (u + 1))), (0, .ref rq), (1, .ref zq)]) hx hb dX4_readZone_49 hl (k := 2) rfl (nI_1 u) (by decide) rfl (fun ls hl => ?_)
                    refine lv_goto (tgt := 22) hx hb dX4_readZone_52 (by decide) ?_
                    exact ih (u + 1) (itemS t sz jc rr).2.1 (itemS t sz jc rr).2.2 ls _ _ (by omega) (by omega) (by omega) ⟨k2_, hct.trans (ctI_go hjc (pB_not.mp c3) c4), by omega⟩ (by rw [c4, if_pos rfl] at hM; exact hM) hS (lv_sub hl [1, 2, 0] rfl)
                  · have c4 : (itemS t sz jc rr).1 = false := bI_0.mp c4
                    refine lv_iconst (v := (0 : Int32)) hx hb dX4_readZone_47 (by decide) ?_
                    have hI : zo1 t sz i = (false, (itemS t sz jc rr).2.1, (itemS t sz jc rr).2.2) := by rw [hzo, hct, ctI_no hjc (pB_not.mp c3) c4]
                    exact mp_zret hx hb hr hlocks (Nat.le_of_ble_eq_true rfl) (Nat.le_of_ble_eq_true rfl) hM hS dX4_readZone_48 (by first | rfl | exact bI_nar _) (⟨by rw [hI]; rfl, _, by rw [hI], fun z => by rw [hI] at z; cases z⟩)
          exact LP22 _ 0 (tkN t sz (we t sz i) 123) zr0 ls _ _ (Nat.lt_succ_self _) (by omega) (by omega) ⟨601, rfl, by omega⟩ (by rw [mp_set_same ((mp_set_n _ _ _ hkz).trans hZ)]; exact hM) hS (lv_sub hl [1, 2, 0] rfl)
        · have c_2 := c_2
          exact absurd c_2 (by decide)
      · skip
        refine mp_calli (va_runV (As := [.ref (X.2.2.1 1)]) (rest := []) ⟨hx, hb, hml, hown, hts⟩ (c_takeN l X G A (mp_set M kn (rq, .inr (5, [.ref tp, .int (nI sz), .int (nI (tb t sz (we t sz i))), .int (nI (te t sz (we t sz i)))]))) rq tp sz t kn kt ((mp_set_n _ _ _ (by first | assumption | exact Ne.symm (by assumption) | simp)).trans hT) hkt hsz (we t sz i) (by omega) (mp_set_s _ _ _) 1 (by decide) 123 rfl rfl sg123.1 sg123.2 hb9) (cwV 1 hts gX4_readZone_X4_take rfl rfl rfl (by decide +kernel) ⟨Nat.le_of_ble_eq_true rfl, Nat.le_of_ble_eq_true rfl⟩) (mp_preV hC hS hM (mp_recv hC.1 hM (mp_set_s _ _ _) (r := (RX4, TX4, 4)) rfl)) rfl rfl hl.1 rfl (lv_room (Nat.le_of_ble_eq_true rfl)) dX4_readZone_12 ⟨Nat.le_of_ble_eq_true rfl, Nat.le_of_ble_eq_true rfl⟩) hS (fun H locs hM hS => ?_)
        refine lv_if_ne (tgt := 20) hx hb dX4_readZone_15 (by decide) (fun c_3 => ?_) (fun c_3 => ?_)
        · have c_3 := c_3
          exact absurd c_3 (by decide)
        · have c_3 := c_3
          refine lv_iconst (v := (0 : Int32)) hx hb dX4_readZone_18 (by decide) ?_
          have hI : zo1 t sz i = (false, tb t sz (we t sz i), zr0) := by rw [zo1, pB_t hz, if_pos rfl, pB_f hb9, if_neg (by decide), tkN_no hb9]
          exact mp_zret hx hb hr hlocks (Nat.le_of_ble_eq_true rfl) (Nat.le_of_ble_eq_true rfl) hM hS dX4_readZone_19 (by first | rfl | exact bI_nar _) (⟨by rw [hI]; rfl, zr0, by rw [hI]; simp only [tb_tb hwi.2.2, te_tb hwi.2.2]; exact (mp_set_same ((mp_set_n _ _ _ hkz).trans hZ)).symm, fun z => by rw [hI] at z; cases z⟩)
  · skip
    refine mp_calli (va_runV (As := [.ref (X.2.2.1 0)]) (rest := []) ⟨hx, hb, hml, hown, hts⟩ (c_takeZn l X G A (M) rq tp sz t kn kt hT hkt hsz i (by omega) hO hz) (cwV 1 hts gX4_readZone_X4_take rfl rfl rfl (by decide +kernel) ⟨Nat.le_of_ble_eq_true rfl, Nat.le_of_ble_eq_true rfl⟩) (mp_preV hC hS hM (mp_recv hC.1 hM hO (r := (RX4, TX4, 4)) rfl)) rfl rfl hl.1 rfl (lv_room (Nat.le_of_ble_eq_true rfl)) dX4_readZone_3 ⟨Nat.le_of_ble_eq_true rfl, Nat.le_of_ble_eq_true rfl⟩) hS (fun H locs hM hS => ?_)
    refine lv_if_eq (tgt := 18) hx hb dX4_readZone_6 (by decide) (fun c_4 => ?_) (fun c_4 => ?_)
    · have c_4 := c_4
      refine lv_iconst (v := (0 : Int32)) hx hb dX4_readZone_18 (by decide) ?_
      have hI : zo1 t sz i = (false, tb t sz i, zr0) := by rw [zo1, pB_f hz]; rfl
      exact mp_zret hx hb hr hlocks (Nat.le_of_ble_eq_true rfl) (Nat.le_of_ble_eq_true rfl) hM hS dX4_readZone_19 (by first | rfl | exact bI_nar _) (⟨by rw [hI]; rfl, zr0, by rw [hI]; simp only [tb_tb hi, te_tb hi]; exact (cm_id hO hZ).symm, fun z => by rw [hI] at z; cases z⟩)
    · have c_4 := c_4
      exact absurd c_4 (by decide)
