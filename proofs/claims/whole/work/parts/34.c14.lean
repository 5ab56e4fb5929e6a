/-! ===== a plan is adopted; the bench is made ===== -/
theorem zoS_le {t : Nat → Int32} {sz : Nat} : ∀ (k i m : Nat) (zs : Nat → zr), i ≤ sz → (zoS t sz k i m zs).2.1 ≤ sz
  | 0, i, m, zs, h => h
  | k + 1, i, m, zs, h => by
    have h1 := we_in (t := t) h
    have h2 := tk_in (t := t) 123 h1.2.2
    have h3 := itA_in (t := t) zr0 h2.2
    have h4 := tb_in (t := t) h
    rw [zoS]
    by_cases c1 : i < sz
    · rw [if_pos c1]
      by_cases c2_ : wd t sz i = 2054123109 ∧ m ≠ 8
      · rw [pB_t c2_, if_pos rfl]
        by_cases c3 : tkP t sz (we t sz i) 123
        · rw [pB_t c3, if_pos rfl]
          by_cases c4 : (itA t sz (tkN t sz (we t sz i) 123) zr0).1 = true
          · rw [if_pos c4]
            exact zoS_le k _ _ _ (tb_in h3.2).2
          · rw [if_neg c4]
            exact h3.2
        · rw [pB_f c3, if_neg (by decide)]
          exact h2.2
      · rw [pB_f c2_, if_neg (by decide)]
        exact h4.2
    · rw [if_neg c1]
      exact h
theorem adX_le {t : Nat → Int32} {sz : Nat} : (adX t sz).2.1 ≤ sz := zoS_le 601 _ 0 _ (tb_in (Nat.zero_le sz)).2
theorem bn_first {G : mp_G} {X : mp_X} {M1 : mp_M} {bq q0 q1 q2 q3 qt qr ax ay : Nat} (hO : M1 (8, 0, 0) = some (bq, .inr (8, [.ref q0, .ref q1, .ref q2, .ref q3, .ref qt, .ref qr, .int (nI 0), .int 0, .int (-1)]))) (hT : M1 (15, 0, 0) = some (qt, .inl (G.2.1, 600, .inl (fun _ => 0)))) (h0 : M1 (17, 0, 0) = some (q0, .inr (0, [.int 0, .ref X.1, .int (nI 0)]))) (h1 : M1 (19, 0, 0) = some (q1, .inr (0, [.int 0, .ref X.1, .int (nI 0)]))) (h2 : M1 (21, 0, 0) = some (q2, .inr (0, [.int 0, .ref X.1, .int (nI 0)]))) (h3 : M1 (23, 0, 0) = some (q3, .inr (0, [.int 0, .ref X.1, .int (nI 0)]))) (h4 : M1 (4, 0, 0) = some (qr, .inr (6, [.ref ax, .ref ay, .int (nI 0)]))) (h5 : M1 (5, 0, 0) = some (ax, .inl (G.2.2.1, 8, .inl (fun _ => 0)))) (h6 : M1 (6, 0, 0) = some (ay, .inl (G.2.2.1, 8, .inl (fun _ => 0)))) (hn : ∀ k : mp_N, k ≠ (8, 0, 0) → k ≠ (17, 0, 0) → k ≠ (19, 0, 0) → k ≠ (21, 0, 0) → k ≠ (23, 0, 0) → k ≠ (15, 0, 0) → k ≠ (4, 0, 0) → k ≠ (5, 0, 0) → k ≠ (6, 0, 0) → k.1 ≠ 9 → M1 k = none) : BN G X M1 bq q0 q1 q2 q3 qt 0 0 (-1) (fun _ => 0) 0 (fun _ => qr) (fun _ => (fun _ => 0, fun _ => 0, 0)) 0 (fun _ => 0) (fun _ => 0) (fun _ => 0) (fun _ => 0) (fun _ _ => zr0) 0 (fun _ => 0) (fun _ => 0) (fun _ _ => 0) (fun _ => (0, 0, 0, 0, 0, 0, 0)) 0 (fun _ => 0) (fun _ _ => 0) := by
  refine ⟨hO, hT, by omega, hn _ (by simp) (by simp) (by simp) (by simp) (by simp) (by simp) (by simp) (by simp) (by simp) (by simp), hn _ (by simp) (by simp) (by simp) (by simp) (by simp) (by simp) (by simp) (by simp) (by simp) (by simp), ⟨⟨0, X.1, h0, Or.inl ⟨rfl, rfl, hn _ (by simp) (by simp) (by simp) (by simp) (by simp) (by simp) (by simp) (by simp) (by simp) (by simp)⟩⟩, by omega, fun i hi => ?_, fun i hi => ?_⟩, ⟨⟨0, X.1, h1, Or.inl ⟨rfl, rfl, hn _ (by simp) (by simp) (by simp) (by simp) (by simp) (by simp) (by simp) (by simp) (by simp) (by simp)⟩⟩, by omega, fun i hi => absurd hi (Nat.not_lt_zero i), fun k hk _ => ?_⟩, ⟨⟨0, X.1, h2, Or.inl ⟨rfl, rfl, hn _ (by simp) (by simp) (by simp) (by simp) (by simp) (by simp) (by simp) (by simp) (by simp) (by simp)⟩⟩, by omega, fun i hi => absurd hi (Nat.not_lt_zero i), fun i _ => ⟨hn _ (by simp) (by simp) (by simp) (by simp) (by simp) (by simp) (by simp) (by simp) (by simp) (by simp), hn _ (by simp) (by simp) (by simp) (by simp) (by simp) (by simp) (by simp) (by simp) (by simp) (by simp)⟩⟩, ⟨⟨0, X.1, h3, Or.inl ⟨rfl, rfl, hn _ (by simp) (by simp) (by simp) (by simp) (by simp) (by simp) (by simp) (by simp) (by simp) (by simp)⟩⟩, by omega, fun i hi => absurd hi (Nat.not_lt_zero i), fun i _ => hn _ (by simp) (by simp) (by simp) (by simp) (by simp) (by simp) (by simp) (by simp) (by simp) (by simp)⟩⟩
  · obtain rfl : i = 0 := by omega
    exact ⟨ax, ay, h4, h5, h6, by simp⟩
  · have hi2 : i ≠ 0 := by omega
    exact ⟨hn _ (by simp) (by simp) (by simp) (by simp) (by simp) (by simp) (by simp [hi2]) (by simp) (by simp) (by simp), hn _ (by simp) (by simp) (by simp) (by simp) (by simp) (by simp) (by simp) (by simp [hi2]) (by simp) (by simp), hn _ (by simp) (by simp) (by simp) (by simp) (by simp) (by simp) (by simp) (by simp) (by simp [hi2]) (by simp)⟩
  · refine hn k ?_ ?_ ?_ ?_ ?_ ?_ ?_ ?_ ?_ ?_ <;> intro z <;> rw [z] at hk <;> simp at hk
abbrev rmX7_adopt : Room := { frames := 9, cells := 20, slots := 1408, locals := 196 }
set_option maxHeartbeats 4000000 in
set_option maxRecDepth 100000 in
theorem c_X7_adopt (l : Launch) (X : mp_X) (G : mp_G) (A : Nat → Prop) (M : mp_M) (bq : Nat) (l0 : Nat) (l1 : Nat) (l2 : Nat) (l3 : Nat) (tp : Nat) (tz : Nat) (td : Int32) (fl : Int32) (tt : Nat → Int32) (pl : Nat) (ra : Nat → Nat) (Rg : Nat → rg_R) (pn : Nat) (pa : Nat → Nat) (pf : Nat → Int32) (pk : Nat → Int32) (zc : Nat → Nat) (zz : Nat → Nat → zr) (ap : Nat) (aa : Nat → Nat) (dq : Nat → Nat) (av : Nat → Nat → Int32) (dv : Nat → ds_D) (nh : Nat) (ah : Nat → Nat) (vh : Nat → Nat → Int32) (hB : BN G X M bq l0 l1 l2 l3 tp tz td fl tt pl ra Rg pn pa pf pk zc zz ap aa dq av dv nh ah vh) (q w : Int32) : mp_Met l X G A yX7_adopt wsX7_adopt rmX7_adopt ([.ref bq, .int q, .int w] : List Value) M (fun r M1 => (¬ (md_in q 0 (nI tz) ∧ md_in w 0 9999) ∧ r = some (.int (-2)) ∧ M1 = M) ∨ ((md_in q 0 (nI tz) ∧ md_in w 0 9999) ∧ pn = 20 ∧ r = some (.int (-3)) ∧ M1 = M) ∨ ∃ sz, sz ≤ tz ∧ q = nI sz ∧ md_in w 0 9999 ∧ pn ≠ 20 ∧ (∀ k : mp_N, k.1 = 9 → M1 k = M k) ∧ (((adX tt sz).1 = false ∧ r = some (.int (-1)) ∧ BN G X M1 bq l0 l1 l2 l3 tp 0 td (nI (adX tt sz).2.1) tt pl ra Rg pn pa pf pk zc zz ap aa dq av dv nh ah vh) ∨ ((adX tt sz).1 = true ∧ r = some (.int (nI pn)) ∧ ∃ pa2, BN G X M1 bq l0 l1 l2 l3 tp 0 td (-1) tt pl ra Rg (pn + 1) pa2 (upd pf pn w) (upd pk pn td) (elU zc pn (adX tt sz).2.2.1) (va_up zz pn (adX tt sz).2.2.2) ap aa dq av dv nh ah vh))) 20 1408 := by
  refine mp_ofW (cc := cX7_adopt) (maxL := 4) (ret := (some .int)) (by decide) rfl (Nat.le_of_ble_eq_true rfl) ?_
  intro p e s m below meth c ls hx hb hr hts hown hlocks hnm hml hC hM hS hl
  have hl : lv_has ls 4 [(0, .ref bq), (1, .int q), (2, .int w)] := hl
  have hown : s.vm.findClass RX7 = some m.cls := hown
  have hin_wsX70 : ∀ w ∈ wsX70, w ∈ wsX7_adopt := fun _ h => List.mem_cons_of_mem _ (List.mem_append_left _ (List.mem_append_left _ (List.mem_append_left _ (List.mem_append_left _ (List.mem_append_right _ h)))))
  have fl_36 := hts (.fieldLink RX7 36 "PlanningBench" "taped" "I") (List.mem_of_getElem? (i := 1) rfl)
  have fl_16 := hts (.fieldLink RX7 16 "PlanningBench" "plans" "Ljava/util/ArrayList;") (List.mem_of_getElem? (i := 2) rfl)
  have cl_108 := hts (.classLink RX7 108 RX3) (List.mem_of_getElem? (i := 3) rfl)
  have in_X3 := hts (.instantiable RX3 3) (List.mem_of_getElem? (i := 4) rfl)
  have mi_RX3 := hts (.initialized RX3) (List.mem_of_getElem? (i := 5) rfl)
  have hin_wsX30 : ∀ w ∈ wsX30, w ∈ wsX7_adopt := fun _ h => List.mem_cons_of_mem _ (List.mem_append_left _ (List.mem_append_left _ (List.mem_append_left _ (List.mem_append_right _ h))))
  have fl_40 := hts (.fieldLink RX7 40 "PlanningBench" "today" "I") (List.mem_of_getElem? (i := 6) rfl)
  have mn_X3_init := hts (.instanceMethod yX3_init) (List.mem_of_getElem? (i := 26) rfl)
  have ml_110 := hts (.methodLink RX7 110 yX3_init) (List.mem_of_getElem? (i := 25) rfl)
  have cl_113 := hts (.classLink RX7 113 RX4) (List.mem_of_getElem? (i := 7) rfl)
  have in_X4 := hts (.instantiable RX4 4) (List.mem_of_getElem? (i := 8) rfl)
  have mi_RX4 := hts (.initialized RX4) (List.mem_of_getElem? (i := 9) rfl)
  have hin_wsX40 : ∀ w ∈ wsX40, w ∈ wsX7_adopt := fun _ h => List.mem_cons_of_mem _ (List.mem_append_left _ (List.mem_append_left _ (List.mem_append_right _ h)))
  have fl_25 := hts (.fieldLink RX7 25 "PlanningBench" "tape" "[B") (List.mem_of_getElem? (i := 10) rfl)
  have mn_X4_init := hts (.instanceMethod yX4_init) (List.mem_of_getElem? (i := 52) rfl)
  have ml_115 := hts (.methodLink RX7 115 yX4_init) (List.mem_of_getElem? (i := 51) rfl)
  have fl_43 := hts (.fieldLink RX7 43 "PlanningBench" "faultPlace" "I") (List.mem_of_getElem? (i := 11) rfl)
  have hb9 := hB.b
  by_cases hN : md_in q 0 (nI tz)
  · skip
    obtain ⟨sz, hsz, esz⟩ := nI_of2 (x := q) (M := nI tz) (n := tz) (nI_toInt (by omega)) (i_nlt.mpr hN.1) hN.2
    subst esz
    refine lv_iload_n hx hb dX7_adopt_0 rfl (lv_at hl 1 rfl) ?_
    refine lv_if_lt (tgt := 19) hx hb dX7_adopt_1 (by decide) (fun c1 => ?_) (fun c1 => ?_)
    · have c1 := nn_lt (a := sz) (b := 0) (by omega) (by omega) c1
      exact absurd c1 (Nat.not_lt_zero _)
    · have c1 := nn_nlt (a := sz) (b := 0) (by omega) (by omega) c1
      refine lv_iload_n hx hb dX7_adopt_4 rfl (lv_at hl 1 rfl) ?_
      refine lv_aload_n hx hb dX7_adopt_5 rfl (lv_at hl 0 rfl) ?_
      refine va_get (D := G.1) (C := RX7) (T := TX7) (N := 9) (ci := 8) hx hb hts hin_wsX70 hown hC.1 (hM.one hB.O) 0 rfl rfl 6 (by decide) fl_36 (fun _ z => z) rfl dX7_adopt_6 ?_
      refine lv_icmp_gt (tgt := 19) hx hb dX7_adopt_9 (by decide) (fun c3 => ?_) (fun c3 => ?_)
      · have c3 := nn_lt (a := tz) (b := sz) (by omega) (by omega) c3
        exact absurd c3 (by omega)
      · have c3 := nn_nlt (a := tz) (b := sz) (by omega) (by omega) c3
        refine lv_iload_n hx hb dX7_adopt_12 rfl (lv_at hl 2 rfl) ?_
        refine mp_calli (va_runS (As := [.int w]) (rest := []) ⟨hx, hb, hml, hown, hts⟩ (c_X7_isDay l X G A (M) w) (va_cwS 1 hts gX7_adopt_X7_isDay rfl rfl rfl (by decide +kernel) ⟨Nat.le_of_ble_eq_true rfl, Nat.le_of_ble_eq_true rfl⟩) (mp_preS hC hS hM) rfl rfl hl.1 rfl (lv_room (Nat.le_of_ble_eq_true rfl)) dX7_adopt_13 ⟨Nat.le_of_ble_eq_true rfl, Nat.le_of_ble_eq_true rfl⟩) hS (fun H locs hM hS => ?_)
        refine lv_if_ne (tgt := 22) hx hb dX7_adopt_16 (by decide) (fun c4 => ?_) (fun c4 => ?_)
        · have c4 : (pB (md_in w 0 9999)) = true := bI_1.mp c4
          refine lv_aload_n hx hb dX7_adopt_22 rfl (lv_at hl 0 rfl) ?_
          refine va_get (D := G.1) (C := RX7) (T := TX7) (N := 9) (ci := 8) hx hb hts hin_wsX70 hown hC.1 (hM.one hB.O) 0 rfl rfl 1 (by decide) fl_16 (fun _ z => z) rfl dX7_adopt_23 ?_
          refine mp_calli (va_runV (As := []) (rest := []) ⟨hx, hb, hml, hown, hts⟩ (c_size l X G A (M) hB.L1) (cwV 0 hts gX7_adopt_Jx4a65c_size_8abf5 rfl rfl rfl (by decide +kernel) ⟨Nat.le_of_ble_eq_true rfl, Nat.le_of_ble_eq_true rfl⟩) (mp_preV hC hS hM (mp_recvL hC.1 hM hB.L1)) rfl rfl hl.1 rfl (lv_room (Nat.le_of_ble_eq_true rfl)) dX7_adopt_26 ⟨Nat.le_of_ble_eq_true rfl, Nat.le_of_ble_eq_true rfl⟩) hS (fun H locs hM hS => ?_)
          refine lv_bipush (v := (20 : Int32)) hx hb dX7_adopt_29 (by decide) ?_
          refine lv_icmp_lt (tgt := 37) hx hb dX7_adopt_31 (by decide) (fun c5 => ?_) (fun c5 => ?_)
          · have c5 := nn_lt (a := pn) (b := 20) (by omega) (by omega) c5
            refine lv_aload_n hx hb dX7_adopt_37 rfl (lv_at hl 0 rfl) ?_
            refine lv_iconst (v := (0 : Int32)) hx hb dX7_adopt_38 (by decide) ?_
            refine mp_put (D := G.1) (C := RX7) (T := TX7) (N := 9) (ci := 8) hx hb hts hin_wsX70 tyX7 tyX7_ok nmX7 hown hC.1 hM hS hB.O rfl 6 (by decide) fl_36 (fun _ z => z) rfl rfl rfl (Nat.le_of_ble_eq_true rfl) dX7_adopt_39 (fs' := [.ref l0, .ref l1, .ref l2, .ref l3, .ref tp, .ref (ra pl), .int (0 : Int32), .int td, .int fl]) rfl (fun H locs hM hS => ?_)
            have hM : mp_P G.1 A (mp_set M (8, 0, 0) (bq, .inr (8, [.ref l0, .ref l1, .ref l2, .ref l3, .ref tp, .ref (ra pl), .int (0 : Int32), .int td, .int fl]))) H := hM
            refine mp_new (kn := (11, pn, 0)) (C := RX3) (T := TX3) (N := 3) (ci := 4) (fs := [.int (0 : Int32), .int (0 : Int32), .null]) hx hb hts hin_wsX30 tyX3 tyX3_ok hown cl_108 in_X3 mi_RX3 hC.1 hM hS hC.2.2.2 rfl (fun j hj => by rcases (show j = 0 ∨ j = 1 ∨ j = 2 by omega) with rfl | rfl | rfl <;> rfl) (Nat.le_of_ble_eq_true rfl) (Nat.le_of_ble_eq_true rfl) dX7_adopt_42 ((mp_set_n _ _ _ (by simp)).trans (hB.p.2.2.2 (11, pn, 0) (by simp) (Nat.le_refl pn))) (fun qp H hM hS => ?_)
            have hM : mp_P G.1 A (mp_set (mp_set M (8, 0, 0) (bq, .inr (8, [.ref l0, .ref l1, .ref l2, .ref l3, .ref tp, .ref (ra pl), .int (0 : Int32), .int td, .int fl]))) (11, pn, 0) (qp, .inr (4, [.int (0 : Int32), .int (0 : Int32), .null]))) H := hM
            refine lv_dup hx hb dX7_adopt_45 rfl ?_
            refine lv_iload_n hx hb dX7_adopt_46 rfl (lv_at hl 2 rfl) ?_
            refine lv_aload_n hx hb dX7_adopt_47 rfl (lv_at hl 0 rfl) ?_
            refine va_get (D := G.1) (C := RX7) (T := TX7) (N := 9) (ci := 8) hx hb hts hin_wsX70 hown hC.1 (hM.one ((mp_set_n _ _ _ (by simp)).trans (mp_set_s _ _ _))) 0 rfl rfl 7 (by decide) fl_40 (fun _ z => z) rfl dX7_adopt_48 ?_
            refine mp_call (va_runI (As := [.int w, .int td]) (rest := [.ref qp]) ⟨hx, hb, hml, hown, hts⟩ (c_X3_init l X G A (mp_set (mp_set M (8, 0, 0) (bq, .inr (8, [.ref l0, .ref l1, .ref l2, .ref l3, .ref tp, .ref (ra pl), .int (0 : Int32), .int td, .int fl]))) (11, pn, 0) (qp, .inr (4, [.int (0 : Int32), .int (0 : Int32), .null]))) qp pn w td (mp_set_s _ _ _) ((mp_set_n _ _ _ (by simp)).trans ((mp_set_n _ _ _ (by simp)).trans (hB.p.2.2.2 (12, pn, 0) (by simp) (Nat.le_refl pn))))) (cwI 2 hts gX7_adopt_X3_init rfl rfl rfl mi_RX3 ml_110 mn_X3_init rfl (by decide +kernel) ⟨Nat.le_of_ble_eq_true rfl, Nat.le_of_ble_eq_true rfl⟩) (mp_preS hC hS hM) rfl rfl hl.1 rfl (lv_room (Nat.le_of_ble_eq_true rfl)) dX7_adopt_51 ⟨Nat.le_of_ble_eq_true rfl, Nat.le_of_ble_eq_true rfl⟩) hS (fun v M2 H locs hp hM hS => ?_)
            obtain ⟨rfl, zl, hM2⟩ := hp
            have hF2 : ∀ k : mp_N, k ≠ (8, 0, 0) → ¬ (k.1 ∈ [7, 11, 12, 13] ∧ k.2.1 = pn) → M2 k = M k := fun k z1 z2 => by rw [hM2, mp_set_n _ _ _ (fun z => z2 (by rw [z]; simp)), mp_set_n _ _ _ (fun z => z2 (by rw [z]; simp)), mp_set_n _ _ _ (fun z => z2 (by rw [z]; simp)), mp_set_n _ _ _ z1]
            have hO2 : M2 (8, 0, 0) = some (bq, .inr (8, [.ref l0, .ref l1, .ref l2, .ref l3, .ref tp, .ref (ra pl), .int (nI 0), .int td, .int fl])) := by rw [hM2]; simp [mp_set]; rfl
            have hP2 : M2 (11, pn, 0) = some (qp, .inr (4, [.int w, .int td, .ref zl])) := by rw [hM2]; simp [mp_set]
            have hL2 : Lst G X M2 (12, pn, 0) (13, pn, 0) zl 0 (fun _ => 0) := ⟨0, X.1, by rw [hM2]; simp [mp_set], Or.inl ⟨rfl, rfl, by rw [hM2, mp_set_n _ _ _ (by simp), mp_set_n _ _ _ (by simp), mp_set_n _ _ _ (by simp), mp_set_n _ _ _ (by simp)]; exact hB.p.2.2.2 (13, pn, 0) (by simp) (Nat.le_refl pn)⟩⟩
            have hZ2 : ∀ j, M2 (7, pn, j) = none := fun j => by rw [hM2, mp_set_n _ _ _ (by simp), mp_set_n _ _ _ (by simp), mp_set_n _ _ _ (by simp), mp_set_n _ _ _ (by simp)]; exact hB.p.2.2.2 (7, pn, j) (by simp) (Nat.le_refl pn)
            refine lv_astore_n (lv' := [(3, .ref qp), (0, .ref bq), (1, .int (nI sz)), (2, .int w)]) hx hb dX7_adopt_54 rfl hl (by decide) rfl (fun ls hl => ?_)
            refine lv_aload_n hx hb dX7_adopt_55 rfl (lv_at hl 1 rfl) ?_
            refine mp_new (kn := (14, 0, 0)) (C := RX4) (T := TX4) (N := 4) (ci := 5) (fs := [.null, .int (0 : Int32), .int (0 : Int32), .int (0 : Int32)]) hx hb hts hin_wsX40 tyX4 tyX4_ok hown cl_113 in_X4 mi_RX4 hC.1 hM hS hC.2.2.2 rfl (fun j hj => by rcases (show j = 0 ∨ j = 1 ∨ j = 2 ∨ j = 3 by omega) with rfl | rfl | rfl | rfl <;> rfl) (Nat.le_of_ble_eq_true rfl) (Nat.le_of_ble_eq_true rfl) dX7_adopt_56 ((hF2 (14, 0, 0) (by simp) (by simp)).trans hB.n14) (fun qr H hM hS => ?_)
            have hM : mp_P G.1 A (mp_set M2 (14, 0, 0) (qr, .inr (5, [.null, .int (0 : Int32), .int (0 : Int32), .int (0 : Int32)]))) H := hM
            refine lv_dup hx hb dX7_adopt_59 rfl ?_
            refine lv_aload_n hx hb dX7_adopt_60 rfl (lv_at hl 1 rfl) ?_
            refine va_get (D := G.1) (C := RX7) (T := TX7) (N := 9) (ci := 8) hx hb hts hin_wsX70 hown hC.1 (hM.one ((mp_set_n _ _ _ (by simp)).trans hO2)) 0 rfl rfl 4 (by decide) fl_25 (fun _ z => z) rfl dX7_adopt_61 ?_
            refine lv_iload_n hx hb dX7_adopt_64 rfl (lv_at hl 2 rfl) ?_
            refine mp_callv (va_runI (As := [.ref tp, .int (nI sz)]) (rest := [.ref qr, .ref bq]) ⟨hx, hb, hml, hown, hts⟩ (c_X4_init l X G A (mp_set M2 (14, 0, 0) (qr, .inr (5, [.null, .int (0 : Int32), .int (0 : Int32), .int (0 : Int32)]))) qr (14, 0, 0) (15, 0, 0) tp sz tt ((mp_set_n _ _ _ (by simp)).trans ((hF2 (15, 0, 0) (by simp) (by simp)).trans hB.T)) (by simp) (by omega) (mp_set_s _ _ _)) (cwI 2 hts gX7_adopt_X4_init rfl rfl rfl mi_RX4 ml_115 mn_X4_init rfl (by decide +kernel) ⟨Nat.le_of_ble_eq_true rfl, Nat.le_of_ble_eq_true rfl⟩) (mp_preS hC hS hM) rfl rfl hl.1 rfl (lv_room (Nat.le_of_ble_eq_true rfl)) dX7_adopt_65 ⟨Nat.le_of_ble_eq_true rfl, Nat.le_of_ble_eq_true rfl⟩) hS (fun H locs hM hS => ?_)
            rw [mp_set_set] at hM
            have hM : mp_P G.1 A (mp_set M2 (14, 0, 0) (qr, .inr (5, [.ref tp, .int (nI sz), .int (nI 0), .int (nI 0)]))) H := hM
            refine lv_aload_n hx hb dX7_adopt_68 rfl (lv_at hl 0 rfl) ?_
            refine mp_call (va_runV (As := [.ref qp]) (rest := [.ref bq]) ⟨hx, hb, hml, hown, hts⟩ (c_X4_readInto l X G A (mp_set M2 (14, 0, 0) (qr, .inr (5, [.ref tp, .int (nI sz), .int (nI 0), .int (nI 0)]))) qr tp sz tt ((mp_set_n _ _ _ (by simp)).trans ((hF2 (15, 0, 0) (by simp) (by simp)).trans hB.T)) (by omega) (mp_set_s _ _ _) pn qp zl w td ((mp_set_n _ _ _ (by simp)).trans hP2) (hL2.congr (mp_set_n _ _ _ (by simp)) (mp_set_n _ _ _ (by simp))) (fun j => (mp_set_n _ _ _ (by simp)).trans (hZ2 j)) ((mp_set_n _ _ _ (by simp)).trans ((hF2 (16, 0, 0) (by simp) (by simp)).trans hB.n16))) (cwV 1 hts gX7_adopt_X4_readInto rfl rfl rfl (by decide +kernel) ⟨Nat.le_of_ble_eq_true rfl, Nat.le_of_ble_eq_true rfl⟩) (mp_preV hC hS hM (mp_recv hC.1 hM (mp_set_s _ _ _) (r := (RX4, TX4, 4)) rfl)) rfl rfl hl.1 rfl (lv_room (Nat.le_of_ble_eq_true rfl)) dX7_adopt_69 ⟨Nat.le_of_ble_eq_true rfl, Nat.le_of_ble_eq_true rfl⟩) hS (fun v M5 H locs hp hM hS => ?_)
            obtain ⟨rfl, hF5, hA5⟩ := hp
            have hO5 : M5 (8, 0, 0) = some (bq, .inr (8, [.ref l0, .ref l1, .ref l2, .ref l3, .ref tp, .ref (ra pl), .int (nI 0), .int td, .int fl])) := (hF5 _ (by simp [PlX])).trans ((mp_set_n _ _ _ (by simp)).trans hO2)
            have hP5 : M5 (11, pn, 0) = some (qp, .inr (4, [.int w, .int td, .ref zl])) := (hF5 _ (by simp [PlX])).trans ((mp_set_n _ _ _ (by simp)).trans hP2)
            have hG5 : ∀ k : mp_N, k ≠ (8, 0, 0) → k ≠ (14, 0, 0) → ¬ (k.1 ∈ [7, 11, 12, 13] ∧ k.2.1 = pn) → M5 k = M k := fun k z1 z2 z3 => by rw [hF5 k (fun z => z.elim z2 (fun z => z.elim (fun z => z3 (by rw [z]; simp)) (fun z => z.elim (fun z => z3 (by rw [z]; simp)) (fun z => z3 ⟨by rw [z.1]; simp, z.2⟩)))), mp_set_n _ _ _ z2]; exact hF2 k z1 z3
            by_cases hA : (adX tt sz).1 = true
            · refine mp_top (-1 : Int32) (if_pos hA) ?_
              refine mp_put (D := G.1) (C := RX7) (T := TX7) (N := 9) (ci := 8) hx hb hts hin_wsX70 tyX7 tyX7_ok nmX7 hown hC.1 hM hS hO5 rfl 8 (by decide) fl_43 (fun _ z => z) rfl rfl rfl (Nat.le_of_ble_eq_true rfl) dX7_adopt_72 (fs' := [.ref l0, .ref l1, .ref l2, .ref l3, .ref tp, .ref (ra pl), .int (nI 0), .int td, .int (-1 : Int32)]) rfl (fun H locs hM hS => ?_)
              have hM : mp_P G.1 A (mp_set M5 (8, 0, 0) (bq, .inr (8, [.ref l0, .ref l1, .ref l2, .ref l3, .ref tp, .ref (ra pl), .int (nI 0), .int td, .int (-1 : Int32)]))) H := hM
              refine lv_aload_n hx hb dX7_adopt_75 rfl (lv_at hl 1 rfl) ?_
              refine va_get (D := G.1) (C := RX7) (T := TX7) (N := 9) (ci := 8) hx hb hts hin_wsX70 hown hC.1 (hM.one (mp_set_s _ _ _)) 0 rfl rfl 8 (by decide) fl_43 (fun _ z => z) rfl dX7_adopt_76 ?_
              refine lv_iconst (v := (-1 : Int32)) hx hb dX7_adopt_79 (by decide) ?_
              refine lv_icmp_eq (tgt := 85) hx hb dX7_adopt_80 (by decide) (fun c6 => ?_) (fun c6 => ?_)
              · have c6 := c6
                refine lv_aload_n hx hb dX7_adopt_85 rfl (lv_at hl 1 rfl) ?_
                refine va_get (D := G.1) (C := RX7) (T := TX7) (N := 9) (ci := 8) hx hb hts hin_wsX70 hown hC.1 (hM.one (mp_set_s _ _ _)) 0 rfl rfl 1 (by decide) fl_16 (fun _ z => z) rfl dX7_adopt_86 ?_
                refine lv_aload_n hx hb dX7_adopt_89 rfl (lv_at hl 0 rfl) ?_
                refine mp_call (va_runV (As := [.ref qp]) (rest := []) ⟨hx, hb, hml, hown, hts⟩ (c_add l X G A (mp_set M5 (8, 0, 0) (bq, .inr (8, [.ref l0, .ref l1, .ref l2, .ref l3, .ref tp, .ref (ra pl), .int (nI 0), .int td, .int (-1 : Int32)]))) ((hB.L1.congr (hG5 _ (by simp) (by simp) (by simp)) (hG5 _ (by simp) (by simp) (by simp))).congr (mp_set_n _ _ _ (by simp)) (mp_set_n _ _ _ (by simp))) (16, 0, 0) ((mp_set_n _ _ _ (by simp)).trans ((hG5 _ (by simp) (by simp) (by simp)).trans hB.n16)) (by simp) (by omega) 4 (RX3, TX3, 3) rfl (List.mem_of_getElem? (i := 31) rfl) (fun i hi => by obtain ⟨zl2, za2, e1, _⟩ := hB.P hi; exact ⟨(11, i, 0), _, (mp_set_n _ _ _ (by simp)).trans ((hG5 _ (by simp) (by simp) (by simp; omega)).trans e1)⟩) (11, pn, 0) qp _ ((mp_set_n _ _ _ (by simp)).trans hP5) (by decide)) (cwV 1 hts gX7_adopt_Jx4a65c_add_9ea2d rfl rfl rfl (by decide +kernel) ⟨Nat.le_of_ble_eq_true rfl, Nat.le_of_ble_eq_true rfl⟩) (mp_preV hC hS hM (mp_recvL hC.1 hM ((hB.L1.congr (hG5 _ (by simp) (by simp) (by simp)) (hG5 _ (by simp) (by simp) (by simp))).congr (mp_set_n _ _ _ (by simp)) (mp_set_n _ _ _ (by simp))))) rfl rfl hl.1 rfl (lv_room (Nat.le_of_ble_eq_true rfl)) dX7_adopt_90 ⟨Nat.le_of_ble_eq_true rfl, Nat.le_of_ble_eq_true rfl⟩) hS (fun v M7 H locs hp hM hS => ?_)
                obtain ⟨rfl, x9, y9, hM7, hL7⟩ := hp
                have hF7 : ∀ k : mp_N, k.1 ≠ 19 → k.1 ≠ 20 → M7 k = (mp_set M5 (8, 0, 0) (bq, .inr (8, [.ref l0, .ref l1, .ref l2, .ref l3, .ref tp, .ref (ra pl), .int (nI 0), .int td, .int (-1 : Int32)]))) k := fun k z1 z2 => by rw [hM7, mp_set_n _ _ _ (fun z => z1 (by rw [z])), mp_set_n _ _ _ (fun z => z2 (by rw [z]))]
                refine lv_pop hx hb dX7_adopt_93 rfl ?_
                refine lv_aload_n hx hb dX7_adopt_94 rfl (lv_at hl 1 rfl) ?_
                refine va_get (D := G.1) (C := RX7) (T := TX7) (N := 9) (ci := 8) hx hb hts hin_wsX70 hown hC.1 (hM.one ((hF7 (8, 0, 0) (by simp) (by simp)).trans (mp_set_s _ _ _))) 0 rfl rfl 1 (by decide) fl_16 (fun _ z => z) rfl dX7_adopt_95 ?_
                refine mp_calli (va_runV (As := []) (rest := []) ⟨hx, hb, hml, hown, hts⟩ (c_size l X G A (M7) hL7) (cwV 0 hts gX7_adopt_Jx4a65c_size_8abf5 rfl rfl rfl (by decide +kernel) ⟨Nat.le_of_ble_eq_true rfl, Nat.le_of_ble_eq_true rfl⟩) (mp_preV hC hS hM (mp_recvL hC.1 hM hL7)) rfl rfl hl.1 rfl (lv_room (Nat.le_of_ble_eq_true rfl)) dX7_adopt_98 ⟨Nat.le_of_ble_eq_true rfl, Nat.le_of_ble_eq_true rfl⟩) hS (fun H locs hM hS => ?_)
                refine lv_iconst (v := (1 : Int32)) hx hb dX7_adopt_101 (by decide) ?_
                refine lv_isub hx hb dX7_adopt_102 ?_
                refine mp_top (nI ((pn + 1) - 1)) (pk_sub (a := pn + 1) (b := 1) (by omega)) ?_
                obtain ⟨hz8, za, hLz, hZz, hZn⟩ := hA5 hA
                obtain ⟨M8, hM8⟩ : ∃ M8 : mp_M, M8 = (fun k => if k = (14, 0, 0) then none else M7 k : mp_M) := ⟨_, rfl⟩
                have hE : ∀ k : mp_N, k ≠ (14, 0, 0) → M8 k = M7 k := fun k z => by rw [hM8]; exact if_neg z
                have hE0 : M8 (14, 0, 0) = none := by rw [hM8]; exact if_pos rfl
                have hM : mp_P G.1 A M8 H := hM.sub (fun k z hk => by
                  by_cases e14 : k = (14, 0, 0)
                  · rw [e14, hE0] at hk; cases hk
                  · rw [hE k e14] at hk; exact hk)
                have h7 : ∀ k : mp_N, k.1 ∈ [7, 11, 12, 13] → M8 k = M5 k := fun k z => by rw [hE k (fun y => by rw [y] at z; simp at z), hF7 k (fun y => by rw [y] at z; simp at z) (fun y => by rw [y] at z; simp at z), mp_set_n _ _ _ (fun y => by rw [y] at z; simp at z)]
                exact mp_iret hx hb hr hlocks (Nat.le_of_ble_eq_true rfl) (Nat.le_of_ble_eq_true rfl) hM hS dX7_adopt_103 (Or.inr (Or.inr ⟨sz, hsz, rfl, pB_iff.mp c4, by omega, fun k hk => by rw [hE k (fun y => by rw [y] at hk; simp at hk), hF7 k (by rw [hk]; decide) (by rw [hk]; decide), fr9 (by simp) k hk, hG5 k (fun y => by rw [y] at hk; simp at hk) (fun y => by rw [y] at hk; simp at hk) (fun y => by rw [hk] at y; simp at y)], Or.inr ⟨hA, by rw [show pn + 1 - 1 = pn by omega], _, hB.nplan (by omega) (pB_iff.mp c4) ((hE _ (by simp)).trans ((hF7 _ (by simp) (by simp)).trans (mp_set_s _ _ _))) (hL7.congr (hE _ (by simp)) (hE _ (by simp))) ⟨zl, za, (h7 _ (by simp)).trans hP5, hLz.congr (h7 _ (by simp)) (h7 _ (by simp)), hz8, fun z hz => (h7 _ (by simp)).trans (hZz z hz)⟩ hE0 (fun z hz => (h7 _ (by simp)).trans (hZn z hz)) (fun j h1 h2 => by rw [hE j (fun y => h1 (by rw [y]; simp)), hF7 j (fun y => h1 (by rw [y]; simp)) (fun y => h1 (by rw [y]; simp)), mp_set_n _ _ _ (fun y => h1 (by rw [y]; simp)), hG5 j (fun y => h1 (by rw [y]; simp)) (fun y => h1 (by rw [y]; simp)) (fun y => h2 y.1 y.2)])⟩⟩))
              · have c6 := c6
                exact absurd c6 (fun z => z rfl)
            · refine mp_top (nI ((adX tt sz).2.1)) (if_neg hA) ?_
              refine mp_put (D := G.1) (C := RX7) (T := TX7) (N := 9) (ci := 8) hx hb hts hin_wsX70 tyX7 tyX7_ok nmX7 hown hC.1 hM hS hO5 rfl 8 (by decide) fl_43 (fun _ z => z) rfl rfl rfl (Nat.le_of_ble_eq_true rfl) dX7_adopt_72 (fs' := [.ref l0, .ref l1, .ref l2, .ref l3, .ref tp, .ref (ra pl), .int (nI 0), .int td, .int (nI ((adX tt sz).2.1))]) rfl (fun H locs hM hS => ?_)
              have hM : mp_P G.1 A (mp_set M5 (8, 0, 0) (bq, .inr (8, [.ref l0, .ref l1, .ref l2, .ref l3, .ref tp, .ref (ra pl), .int (nI 0), .int td, .int (nI ((adX tt sz).2.1))]))) H := hM
              refine lv_aload_n hx hb dX7_adopt_75 rfl (lv_at hl 1 rfl) ?_
              refine va_get (D := G.1) (C := RX7) (T := TX7) (N := 9) (ci := 8) hx hb hts hin_wsX70 hown hC.1 (hM.one (mp_set_s _ _ _)) 0 rfl rfl 8 (by decide) fl_43 (fun _ z => z) rfl dX7_adopt_76 ?_
              refine lv_iconst (v := (-1 : Int32)) hx hb dX7_adopt_79 (by decide) ?_
              refine lv_icmp_eq (tgt := 85) hx hb dX7_adopt_80 (by decide) (fun c6 => ?_) (fun c6 => ?_)
              · have c6 := c6
                exact absurd c6 (nI_nm1 (by have := adX_le (t := tt) (sz := sz); omega))
              · have c6 := c6
                refine lv_iconst (v := (-1 : Int32)) hx hb dX7_adopt_83 (by decide) ?_
                have hM : mp_P G.1 A (mp_set M (8, 0, 0) (bq, .inr (8, [.ref l0, .ref l1, .ref l2, .ref l3, .ref tp, .ref (ra pl), .int (nI 0), .int td, .int (nI (adX tt sz).2.1)]))) H := hM.sub (fun k z hk => by
                  by_cases e8 : k = (8, 0, 0)
                  · rw [e8, mp_set_s] at hk ⊢; exact hk
                  · rw [mp_set_n _ _ _ e8] at hk ⊢
                    rw [hG5 k e8 (cl_neN hk hB.n14) (fun y => by rw [hB.p.2.2.2 k y.1 (by omega)] at hk; cases hk)]; exact hk)
                exact mp_iret hx hb hr hlocks (Nat.le_of_ble_eq_true rfl) (Nat.le_of_ble_eq_true rfl) hM hS dX7_adopt_84 (Or.inr (Or.inr ⟨sz, hsz, rfl, pB_iff.mp c4, by omega, fr9 (by simp), Or.inl ⟨Bool.eq_false_iff.mpr hA, rfl, hB.obj 0 td _ (by omega)⟩⟩))
          · have c5 := nn_nlt (a := pn) (b := 20) (by omega) (by omega) c5
            refine lv_bipush (v := (-3 : Int32)) hx hb dX7_adopt_34 (by decide) ?_
            exact mp_iret hx hb hr hlocks (Nat.le_of_ble_eq_true rfl) (Nat.le_of_ble_eq_true rfl) hM hS dX7_adopt_36 (Or.inr (Or.inl ⟨⟨hN, pB_iff.mp c4⟩, by omega, rfl, rfl⟩))
        · have c4 : (pB (md_in w 0 9999)) = false := bI_0.mp c4
          refine lv_bipush (v := (-2 : Int32)) hx hb dX7_adopt_19 (by decide) ?_
          exact mp_iret hx hb hr hlocks (Nat.le_of_ble_eq_true rfl) (Nat.le_of_ble_eq_true rfl) hM hS dX7_adopt_21 (Or.inl ⟨fun z => pB_not.mp c4 z.2, rfl, rfl⟩)
  · skip
    refine lv_iload_n hx hb dX7_adopt_0 rfl (lv_at hl 1 rfl) ?_
    refine lv_if_lt (tgt := 19) hx hb dX7_adopt_1 (by decide) (fun c1 => ?_) (fun c1 => ?_)
    · have c1 := c1
      refine lv_bipush (v := (-2 : Int32)) hx hb dX7_adopt_19 (by decide) ?_
      exact mp_iret hx hb hr hlocks (Nat.le_of_ble_eq_true rfl) (Nat.le_of_ble_eq_true rfl) hM hS dX7_adopt_21 (Or.inl ⟨fun z => hN z.1, rfl, rfl⟩)
    · have c1 := c1
      refine lv_iload_n hx hb dX7_adopt_4 rfl (lv_at hl 1 rfl) ?_
      refine lv_aload_n hx hb dX7_adopt_5 rfl (lv_at hl 0 rfl) ?_
      refine va_get (D := G.1) (C := RX7) (T := TX7) (N := 9) (ci := 8) hx hb hts hin_wsX70 hown hC.1 (hM.one hB.O) 0 rfl rfl 6 (by decide) fl_36 (fun _ z => z) rfl dX7_adopt_6 ?_
      refine lv_icmp_gt (tgt := 19) hx hb dX7_adopt_9 (by decide) (fun c3 => ?_) (fun c3 => ?_)
      · have c3 := c3
        refine lv_bipush (v := (-2 : Int32)) hx hb dX7_adopt_19 (by decide) ?_
        exact mp_iret hx hb hr hlocks (Nat.le_of_ble_eq_true rfl) (Nat.le_of_ble_eq_true rfl) hM hS dX7_adopt_21 (Or.inl ⟨fun z => hN z.1, rfl, rfl⟩)
      · have c3 := c3
        exact absurd c3 (fun z => hN ⟨i_nlt.mp c1, i_nlt.mp z⟩)
abbrev rmX7_init : Room := { frames := 4, cells := 8, slots := 631, locals := 72 }
set_option maxHeartbeats 4000000 in
set_option maxRecDepth 100000 in
theorem c_X7_init (l : Launch) (X : mp_X) (G : mp_G) (A : Nat → Prop) (M : mp_M) (bq : Nat) (ha : M (8, 0, 0) = some (bq, .inr (8, [.null, .null, .null, .null, .null, .null, .int (0 : Int32), .int (0 : Int32), .int (0 : Int32)]))) (hn : ∀ k : mp_N, k ≠ (8, 0, 0) → k.1 ≠ 9 → M k = none) : mp_Met l X G A yX7_init wsX7_init rmX7_init ([.ref bq] : List Value) M (fun r M1 => r = none ∧ (∃ q0 q1 q2 q3 qt ra0, BN G X M1 bq q0 q1 q2 q3 qt 0 0 (-1) (fun _ => 0) 0 ra0 (fun _ => (fun _ => 0, fun _ => 0, 0)) 0 (fun _ => 0) (fun _ => 0) (fun _ => 0) (fun _ => 0) (fun _ _ => zr0) 0 (fun _ => 0) (fun _ => 0) (fun _ _ => 0) (fun _ => (0, 0, 0, 0, 0, 0, 0)) 0 (fun _ => 0) (fun _ _ => 0)) ∧ (∀ k : mp_N, k.1 = 9 → M1 k = M k)) 8 631 := by
  refine mp_ofW (cc := cX7_init) (maxL := 1) (ret := none) (by decide) rfl (Nat.le_of_ble_eq_true rfl) ?_
  intro p e s m below meth c ls hx hb hr hts hown hlocks hnm hml hC hM hS hl
  have hl : lv_has ls 1 [(0, .ref bq)] := hl
  have hown : s.vm.findClass RX7 = some m.cls := hown
  have oi_l := hts (.methodLink RX7 1 objectInit) (List.mem_of_getElem? (i := 1) rfl)
  have oi_i := hts (.instanceMethod objectInit) (List.mem_of_getElem? (i := 2) rfl)
  have oi_c := hts (.code objectInit ⟨#[0xb1]⟩ 1 none) (List.mem_of_getElem? (i := 3) rfl)
  have cl_7 := hts (.classLink RX7 7 RJx4a65c) (List.mem_of_getElem? (i := 4) rfl)
  have in_Jx4a65c := hts (.instantiable RJx4a65c 3) (List.mem_of_getElem? (i := 5) rfl)
  have mi_RJx4a65c := hts (.initialized RJx4a65c) (List.mem_of_getElem? (i := 6) rfl)
  have hin_wsJx4a65c0 : ∀ w ∈ wsJx4a65c0, w ∈ wsX7_init := fun _ h => List.mem_cons_of_mem _ (List.mem_append_left _ (List.mem_append_left _ (List.mem_append_right _ h)))
  have mn_Jx4a65c_init_da8c8 := hts (.instanceMethod yJx4a65c_init_da8c8) (List.mem_of_getElem? (i := 21) rfl)
  have ml_9 := hts (.methodLink RX7 9 yJx4a65c_init_da8c8) (List.mem_of_getElem? (i := 20) rfl)
  have hin_wsX70 : ∀ w ∈ wsX70, w ∈ wsX7_init := fun _ h => List.mem_cons_of_mem _ (List.mem_append_left _ (List.mem_append_right _ h))
  have fl_10 := hts (.fieldLink RX7 10 "PlanningBench" "plots" "Ljava/util/ArrayList;") (List.mem_of_getElem? (i := 7) rfl)
  have fl_16 := hts (.fieldLink RX7 16 "PlanningBench" "plans" "Ljava/util/ArrayList;") (List.mem_of_getElem? (i := 8) rfl)
  have fl_19 := hts (.fieldLink RX7 19 "PlanningBench" "applications" "Ljava/util/ArrayList;") (List.mem_of_getElem? (i := 9) rfl)
  have fl_22 := hts (.fieldLink RX7 22 "PlanningBench" "holdings" "Ljava/util/ArrayList;") (List.mem_of_getElem? (i := 10) rfl)
  have ac_byte := hts (.arrayClass .byte) (List.mem_of_getElem? (i := 11) rfl)
  have fl_25 := hts (.fieldLink RX7 25 "PlanningBench" "tape" "[B") (List.mem_of_getElem? (i := 12) rfl)
  have cl_29 := hts (.classLink RX7 29 RX5) (List.mem_of_getElem? (i := 13) rfl)
  have in_X5 := hts (.instantiable RX5 3) (List.mem_of_getElem? (i := 14) rfl)
  have mi_RX5 := hts (.initialized RX5) (List.mem_of_getElem? (i := 15) rfl)
  have hin_wsX50 : ∀ w ∈ wsX50, w ∈ wsX7_init := fun _ h => List.mem_cons_of_mem _ (List.mem_append_right _ h)
  have mn_X5_init := hts (.instanceMethod yX5_init) (List.mem_of_getElem? (i := 35) rfl)
  have nw_31 := hC.2.1 (.methodLinkNest RX7 31 yX5_init "PlanningBench") (List.mem_of_getElem? (i := 0) rfl)
  have fl_32 := hts (.fieldLink RX7 32 "PlanningBench" "draft" "LPlanningBench$Ring;") (List.mem_of_getElem? (i := 16) rfl)
  have fl_36 := hts (.fieldLink RX7 36 "PlanningBench" "taped" "I") (List.mem_of_getElem? (i := 17) rfl)
  have fl_40 := hts (.fieldLink RX7 40 "PlanningBench" "today" "I") (List.mem_of_getElem? (i := 18) rfl)
  have fl_43 := hts (.fieldLink RX7 43 "PlanningBench" "faultPlace" "I") (List.mem_of_getElem? (i := 19) rfl)
  refine lv_aload_n hx hb dX7_init_0 rfl (lv_at hl 0 rfl) ?_
  refine W.objInit hx hb hown oi_l oi_i oi_c rfl (hl.1.trans hml.symm) rfl dX7_init_1 (Nat.le_of_ble_eq_true rfl) (Nat.le_of_ble_eq_true rfl) ?_
  refine lv_aload_n hx hb dX7_init_4 rfl (lv_at hl 0 rfl) ?_
  refine mp_new (kn := (17, 0, 0)) (C := RJx4a65c) (T := TJx4a65c) (N := 3) (ci := 0) (fs := [.int (0 : Int32), .null, .int (0 : Int32)]) hx hb hts hin_wsJx4a65c0 tyJx4a65c tyJx4a65c_ok hown cl_7 in_Jx4a65c mi_RJx4a65c hC.1 hM hS hC.2.2.2 rfl (fun j hj => by rcases (show j = 0 ∨ j = 1 ∨ j = 2 by omega) with rfl | rfl | rfl <;> rfl) (Nat.le_of_ble_eq_true rfl) (Nat.le_of_ble_eq_true rfl) dX7_init_5 (by simp [mp_set, hn]) (fun q0 H hM hS => ?_)
  have hM : mp_P G.1 A (mp_set M (17, 0, 0) (q0, .inr (0, [.int (0 : Int32), .null, .int (0 : Int32)]))) H := hM
  refine lv_dup hx hb dX7_init_8 rfl ?_
  refine mp_callv (va_runI (As := []) (rest := [.ref q0, .ref bq]) ⟨hx, hb, hml, hown, hts⟩ (c_Jx4a65c_init_da8c8 l X G A (mp_set M (17, 0, 0) (q0, .inr (0, [.int (0 : Int32), .null, .int (0 : Int32)]))) q0 (17, 0, 0) (mp_set_s _ _ _)) (cwI 0 hts gX7_init_Jx4a65c_init_da8c8 rfl rfl rfl mi_RJx4a65c ml_9 mn_Jx4a65c_init_da8c8 rfl (by decide +kernel) ⟨Nat.le_of_ble_eq_true rfl, Nat.le_of_ble_eq_true rfl⟩) (mp_preS hC hS hM) rfl rfl hl.1 rfl (lv_room (Nat.le_of_ble_eq_true rfl)) dX7_init_9 ⟨Nat.le_of_ble_eq_true rfl, Nat.le_of_ble_eq_true rfl⟩) hS (fun H locs hM hS => ?_)
  rw [mp_set_set] at hM
  have hM : mp_P G.1 A (mp_set M (17, 0, 0) (q0, .inr (0, [.int (0 : Int32), .ref X.1, .int (0 : Int32)]))) H := hM
  refine mp_putF (D := G.1) (C := RX7) (T := TX7) (N := 9) (ci := 8) hx hb hts hin_wsX70 tyX7 tyX7_ok nmX7 hown hC.1 hM hS ((mp_set_n _ _ _ (by simp)).trans ha) rfl 0 (by decide) fl_10 (fun _ z => z) rfl hnm rfl rfl rfl (Nat.le_of_ble_eq_true rfl) dX7_init_12 (fs' := [.ref q0, .null, .null, .null, .null, .null, .int (0 : Int32), .int (0 : Int32), .int (0 : Int32)]) rfl (fun H locs hM hS => ?_)
  have hM : mp_P G.1 A (mp_set (mp_set M (17, 0, 0) (q0, .inr (0, [.int (0 : Int32), .ref X.1, .int (0 : Int32)]))) (8, 0, 0) (bq, .inr (8, [.ref q0, .null, .null, .null, .null, .null, .int (0 : Int32), .int (0 : Int32), .int (0 : Int32)]))) H := hM
  refine lv_aload_n hx hb dX7_init_15 rfl (lv_at hl 0 rfl) ?_
  refine mp_new (kn := (19, 0, 0)) (C := RJx4a65c) (T := TJx4a65c) (N := 3) (ci := 0) (fs := [.int (0 : Int32), .null, .int (0 : Int32)]) hx hb hts hin_wsJx4a65c0 tyJx4a65c tyJx4a65c_ok hown cl_7 in_Jx4a65c mi_RJx4a65c hC.1 hM hS hC.2.2.2 rfl (fun j hj => by rcases (show j = 0 ∨ j = 1 ∨ j = 2 by omega) with rfl | rfl | rfl <;> rfl) (Nat.le_of_ble_eq_true rfl) (Nat.le_of_ble_eq_true rfl) dX7_init_16 (by simp [mp_set, hn]) (fun q1 H hM hS => ?_)
  have hM : mp_P G.1 A (mp_set (mp_set (mp_set M (17, 0, 0) (q0, .inr (0, [.int (0 : Int32), .ref X.1, .int (0 : Int32)]))) (8, 0, 0) (bq, .inr (8, [.ref q0, .null, .null, .null, .null, .null, .int (0 : Int32), .int (0 : Int32), .int (0 : Int32)]))) (19, 0, 0) (q1, .inr (0, [.int (0 : Int32), .null, .int (0 : Int32)]))) H := hM
  refine lv_dup hx hb dX7_init_19 rfl ?_
  refine mp_callv (va_runI (As := []) (rest := [.ref q1, .ref bq]) ⟨hx, hb, hml, hown, hts⟩ (c_Jx4a65c_init_da8c8 l X G A (mp_set (mp_set (mp_set M (17, 0, 0) (q0, .inr (0, [.int (0 : Int32), .ref X.1, .int (0 : Int32)]))) (8, 0, 0) (bq, .inr (8, [.ref q0, .null, .null, .null, .null, .null, .int (0 : Int32), .int (0 : Int32), .int (0 : Int32)]))) (19, 0, 0) (q1, .inr (0, [.int (0 : Int32), .null, .int (0 : Int32)]))) q1 (19, 0, 0) (mp_set_s _ _ _)) (cwI 0 hts gX7_init_Jx4a65c_init_da8c8 rfl rfl rfl mi_RJx4a65c ml_9 mn_Jx4a65c_init_da8c8 rfl (by decide +kernel) ⟨Nat.le_of_ble_eq_true rfl, Nat.le_of_ble_eq_true rfl⟩) (mp_preS hC hS hM) rfl rfl hl.1 rfl (lv_room (Nat.le_of_ble_eq_true rfl)) dX7_init_20 ⟨Nat.le_of_ble_eq_true rfl, Nat.le_of_ble_eq_true rfl⟩) hS (fun H locs hM hS => ?_)
  rw [mp_set_set] at hM
  have hM : mp_P G.1 A (mp_set (mp_set (mp_set M (17, 0, 0) (q0, .inr (0, [.int (0 : Int32), .ref X.1, .int (0 : Int32)]))) (8, 0, 0) (bq, .inr (8, [.ref q0, .null, .null, .null, .null, .null, .int (0 : Int32), .int (0 : Int32), .int (0 : Int32)]))) (19, 0, 0) (q1, .inr (0, [.int (0 : Int32), .ref X.1, .int (0 : Int32)]))) H := hM
  refine mp_putF (D := G.1) (C := RX7) (T := TX7) (N := 9) (ci := 8) hx hb hts hin_wsX70 tyX7 tyX7_ok nmX7 hown hC.1 hM hS ((mp_set_n _ _ _ (by simp)).trans (mp_set_s _ _ _)) rfl 1 (by decide) fl_16 (fun _ z => z) rfl hnm rfl rfl rfl (Nat.le_of_ble_eq_true rfl) dX7_init_23 (fs' := [.ref q0, .ref q1, .null, .null, .null, .null, .int (0 : Int32), .int (0 : Int32), .int (0 : Int32)]) rfl (fun H locs hM hS => ?_)
  have hM : mp_P G.1 A (mp_set (mp_set (mp_set (mp_set M (17, 0, 0) (q0, .inr (0, [.int (0 : Int32), .ref X.1, .int (0 : Int32)]))) (8, 0, 0) (bq, .inr (8, [.ref q0, .null, .null, .null, .null, .null, .int (0 : Int32), .int (0 : Int32), .int (0 : Int32)]))) (19, 0, 0) (q1, .inr (0, [.int (0 : Int32), .ref X.1, .int (0 : Int32)]))) (8, 0, 0) (bq, .inr (8, [.ref q0, .ref q1, .null, .null, .null, .null, .int (0 : Int32), .int (0 : Int32), .int (0 : Int32)]))) H := hM
  refine lv_aload_n hx hb dX7_init_26 rfl (lv_at hl 0 rfl) ?_
  refine mp_new (kn := (21, 0, 0)) (C := RJx4a65c) (T := TJx4a65c) (N := 3) (ci := 0) (fs := [.int (0 : Int32), .null, .int (0 : Int32)]) hx hb hts hin_wsJx4a65c0 tyJx4a65c tyJx4a65c_ok hown cl_7 in_Jx4a65c mi_RJx4a65c hC.1 hM hS hC.2.2.2 rfl (fun j hj => by rcases (show j = 0 ∨ j = 1 ∨ j = 2 by omega) with rfl | rfl | rfl <;> rfl) (Nat.le_of_ble_eq_true rfl) (Nat.le_of_ble_eq_true rfl) dX7_init_27 (by simp [mp_set, hn]) (fun q2 H hM hS => ?_)
  have hM : mp_P G.1 A (mp_set (mp_set (mp_set (mp_set (mp_set M (17, 0, 0) (q0, .inr (0, [.int (0 : Int32), .ref X.1, .int (0 : Int32)]))) (8, 0, 0) (bq, .inr (8, [.ref q0, .null, .null, .null, .null, .null, .int (0 : Int32), .int (0 : Int32), .int (0 : Int32)]))) (19, 0, 0) (q1, .inr (0, [.int (0 : Int32), .ref X.1, .int (0 : Int32)]))) (8, 0, 0) (bq, .inr (8, [.ref q0, .ref q1, .null, .null, .null, .null, .int (0 : Int32), .int (0 : Int32), .int (0 : Int32)]))) (21, 0, 0) (q2, .inr (0, [.int (0 : Int32), .null, .int (0 : Int32)]))) H := hM
  refine lv_dup hx hb dX7_init_30 rfl ?_
  refine mp_callv (va_runI (As := []) (rest := [.ref q2, .ref bq]) ⟨hx, hb, hml, hown, hts⟩ (c_Jx4a65c_init_da8c8 l X G A (mp_set (mp_set (mp_set (mp_set (mp_set M (17, 0, 0) (q0, .inr (0, [.int (0 : Int32), .ref X.1, .int (0 : Int32)]))) (8, 0, 0) (bq, .inr (8, [.ref q0, .null, .null, .null, .null, .null, .int (0 : Int32), .int (0 : Int32), .int (0 : Int32)]))) (19, 0, 0) (q1, .inr (0, [.int (0 : Int32), .ref X.1, .int (0 : Int32)]))) (8, 0, 0) (bq, .inr (8, [.ref q0, .ref q1, .null, .null, .null, .null, .int (0 : Int32), .int (0 : Int32), .int (0 : Int32)]))) (21, 0, 0) (q2, .inr (0, [.int (0 : Int32), .null, .int (0 : Int32)]))) q2 (21, 0, 0) (mp_set_s _ _ _)) (cwI 0 hts gX7_init_Jx4a65c_init_da8c8 rfl rfl rfl mi_RJx4a65c ml_9 mn_Jx4a65c_init_da8c8 rfl (by decide +kernel) ⟨Nat.le_of_ble_eq_true rfl, Nat.le_of_ble_eq_true rfl⟩) (mp_preS hC hS hM) rfl rfl hl.1 rfl (lv_room (Nat.le_of_ble_eq_true rfl)) dX7_init_31 ⟨Nat.le_of_ble_eq_true rfl, Nat.le_of_ble_eq_true rfl⟩) hS (fun H locs hM hS => ?_)
  rw [mp_set_set] at hM
  have hM : mp_P G.1 A (mp_set (mp_set (mp_set (mp_set (mp_set M (17, 0, 0) (q0, .inr (0, [.int (0 : Int32), .ref X.1, .int (0 : Int32)]))) (8, 0, 0) (bq, .inr (8, [.ref q0, .null, .null, .null, .null, .null, .int (0 : Int32), .int (0 : Int32), .int (0 : Int32)]))) (19, 0, 0) (q1, .inr (0, [.int (0 : Int32), .ref X.1, .int (0 : Int32)]))) (8, 0, 0) (bq, .inr (8, [.ref q0, .ref q1, .null, .null, .null, .null, .int (0 : Int32), .int (0 : Int32), .int (0 : Int32)]))) (21, 0, 0) (q2, .inr (0, [.int (0 : Int32), .ref X.1, .int (0 : Int32)]))) H := hM
  refine mp_putF (D := G.1) (C := RX7) (T := TX7) (N := 9) (ci := 8) hx hb hts hin_wsX70 tyX7 tyX7_ok nmX7 hown hC.1 hM hS ((mp_set_n _ _ _ (by simp)).trans (mp_set_s _ _ _)) rfl 2 (by decide) fl_19 (fun _ z => z) rfl hnm rfl rfl rfl (Nat.le_of_ble_eq_true rfl) dX7_init_34 (fs' := [.ref q0, .ref q1, .ref q2, .null, .null, .null, .int (0 : Int32), .int (0 : Int32), .int (0 : Int32)]) rfl (fun H locs hM hS => ?_)
  have hM : mp_P G.1 A (mp_set (mp_set (mp_set (mp_set (mp_set (mp_set M (17, 0, 0) (q0, .inr (0, [.int (0 : Int32), .ref X.1, .int (0 : Int32)]))) (8, 0, 0) (bq, .inr (8, [.ref q0, .null, .null, .null, .null, .null, .int (0 : Int32), .int (0 : Int32), .int (0 : Int32)]))) (19, 0, 0) (q1, .inr (0, [.int (0 : Int32), .ref X.1, .int (0 : Int32)]))) (8, 0, 0) (bq, .inr (8, [.ref q0, .ref q1, .null, .null, .null, .null, .int (0 : Int32), .int (0 : Int32), .int (0 : Int32)]))) (21, 0, 0) (q2, .inr (0, [.int (0 : Int32), .ref X.1, .int (0 : Int32)]))) (8, 0, 0) (bq, .inr (8, [.ref q0, .ref q1, .ref q2, .null, .null, .null, .int (0 : Int32), .int (0 : Int32), .int (0 : Int32)]))) H := hM
  refine lv_aload_n hx hb dX7_init_37 rfl (lv_at hl 0 rfl) ?_
  refine mp_new (kn := (23, 0, 0)) (C := RJx4a65c) (T := TJx4a65c) (N := 3) (ci := 0) (fs := [.int (0 : Int32), .null, .int (0 : Int32)]) hx hb hts hin_wsJx4a65c0 tyJx4a65c tyJx4a65c_ok hown cl_7 in_Jx4a65c mi_RJx4a65c hC.1 hM hS hC.2.2.2 rfl (fun j hj => by rcases (show j = 0 ∨ j = 1 ∨ j = 2 by omega) with rfl | rfl | rfl <;> rfl) (Nat.le_of_ble_eq_true rfl) (Nat.le_of_ble_eq_true rfl) dX7_init_38 (by simp [mp_set, hn]) (fun q3 H hM hS => ?_)
  have hM : mp_P G.1 A (mp_set (mp_set (mp_set (mp_set (mp_set (mp_set (mp_set M (17, 0, 0) (q0, .inr (0, [.int (0 : Int32), .ref X.1, .int (0 : Int32)]))) (8, 0, 0) (bq, .inr (8, [.ref q0, .null, .null, .null, .null, .null, .int (0 : Int32), .int (0 : Int32), .int (0 : Int32)]))) (19, 0, 0) (q1, .inr (0, [.int (0 : Int32), .ref X.1, .int (0 : Int32)]))) (8, 0, 0) (bq, .inr (8, [.ref q0, .ref q1, .null, .null, .null, .null, .int (0 : Int32), .int (0 : Int32), .int (0 : Int32)]))) (21, 0, 0) (q2, .inr (0, [.int (0 : Int32), .ref X.1, .int (0 : Int32)]))) (8, 0, 0) (bq, .inr (8, [.ref q0, .ref q1, .ref q2, .null, .null, .null, .int (0 : Int32), .int (0 : Int32), .int (0 : Int32)]))) (23, 0, 0) (q3, .inr (0, [.int (0 : Int32), .null, .int (0 : Int32)]))) H := hM
  refine lv_dup hx hb dX7_init_41 rfl ?_
  refine mp_callv (va_runI (As := []) (rest := [.ref q3, .ref bq]) ⟨hx, hb, hml, hown, hts⟩ (c_Jx4a65c_init_da8c8 l X G A (mp_set (mp_set (mp_set (mp_set (mp_set (mp_set (mp_set M (17, 0, 0) (q0, .inr (0, [.int (0 : Int32), .ref X.1, .int (0 : Int32)]))) (8, 0, 0) (bq, .inr (8, [.ref q0, .null, .null, .null, .null, .null, .int (0 : Int32), .int (0 : Int32), .int (0 : Int32)]))) (19, 0, 0) (q1, .inr (0, [.int (0 : Int32), .ref X.1, .int (0 : Int32)]))) (8, 0, 0) (bq, .inr (8, [.ref q0, .ref q1, .null, .null, .null, .null, .int (0 : Int32), .int (0 : Int32), .int (0 : Int32)]))) (21, 0, 0) (q2, .inr (0, [.int (0 : Int32), .ref X.1, .int (0 : Int32)]))) (8, 0, 0) (bq, .inr (8, [.ref q0, .ref q1, .ref q2, .null, .null, .null, .int (0 : Int32), .int (0 : Int32), .int (0 : Int32)]))) (23, 0, 0) (q3, .inr (0, [.int (0 : Int32), .null, .int (0 : Int32)]))) q3 (23, 0, 0) (mp_set_s _ _ _)) (cwI 0 hts gX7_init_Jx4a65c_init_da8c8 rfl rfl rfl mi_RJx4a65c ml_9 mn_Jx4a65c_init_da8c8 rfl (by decide +kernel) ⟨Nat.le_of_ble_eq_true rfl, Nat.le_of_ble_eq_true rfl⟩) (mp_preS hC hS hM) rfl rfl hl.1 rfl (lv_room (Nat.le_of_ble_eq_true rfl)) dX7_init_42 ⟨Nat.le_of_ble_eq_true rfl, Nat.le_of_ble_eq_true rfl⟩) hS (fun H locs hM hS => ?_)
  rw [mp_set_set] at hM
  have hM : mp_P G.1 A (mp_set (mp_set (mp_set (mp_set (mp_set (mp_set (mp_set M (17, 0, 0) (q0, .inr (0, [.int (0 : Int32), .ref X.1, .int (0 : Int32)]))) (8, 0, 0) (bq, .inr (8, [.ref q0, .null, .null, .null, .null, .null, .int (0 : Int32), .int (0 : Int32), .int (0 : Int32)]))) (19, 0, 0) (q1, .inr (0, [.int (0 : Int32), .ref X.1, .int (0 : Int32)]))) (8, 0, 0) (bq, .inr (8, [.ref q0, .ref q1, .null, .null, .null, .null, .int (0 : Int32), .int (0 : Int32), .int (0 : Int32)]))) (21, 0, 0) (q2, .inr (0, [.int (0 : Int32), .ref X.1, .int (0 : Int32)]))) (8, 0, 0) (bq, .inr (8, [.ref q0, .ref q1, .ref q2, .null, .null, .null, .int (0 : Int32), .int (0 : Int32), .int (0 : Int32)]))) (23, 0, 0) (q3, .inr (0, [.int (0 : Int32), .ref X.1, .int (0 : Int32)]))) H := hM
  refine mp_putF (D := G.1) (C := RX7) (T := TX7) (N := 9) (ci := 8) hx hb hts hin_wsX70 tyX7 tyX7_ok nmX7 hown hC.1 hM hS ((mp_set_n _ _ _ (by simp)).trans (mp_set_s _ _ _)) rfl 3 (by decide) fl_22 (fun _ z => z) rfl hnm rfl rfl rfl (Nat.le_of_ble_eq_true rfl) dX7_init_45 (fs' := [.ref q0, .ref q1, .ref q2, .ref q3, .null, .null, .int (0 : Int32), .int (0 : Int32), .int (0 : Int32)]) rfl (fun H locs hM hS => ?_)
  have hM : mp_P G.1 A (mp_set (mp_set (mp_set (mp_set (mp_set (mp_set (mp_set (mp_set M (17, 0, 0) (q0, .inr (0, [.int (0 : Int32), .ref X.1, .int (0 : Int32)]))) (8, 0, 0) (bq, .inr (8, [.ref q0, .null, .null, .null, .null, .null, .int (0 : Int32), .int (0 : Int32), .int (0 : Int32)]))) (19, 0, 0) (q1, .inr (0, [.int (0 : Int32), .ref X.1, .int (0 : Int32)]))) (8, 0, 0) (bq, .inr (8, [.ref q0, .ref q1, .null, .null, .null, .null, .int (0 : Int32), .int (0 : Int32), .int (0 : Int32)]))) (21, 0, 0) (q2, .inr (0, [.int (0 : Int32), .ref X.1, .int (0 : Int32)]))) (8, 0, 0) (bq, .inr (8, [.ref q0, .ref q1, .ref q2, .null, .null, .null, .int (0 : Int32), .int (0 : Int32), .int (0 : Int32)]))) (23, 0, 0) (q3, .inr (0, [.int (0 : Int32), .ref X.1, .int (0 : Int32)]))) (8, 0, 0) (bq, .inr (8, [.ref q0, .ref q1, .ref q2, .ref q3, .null, .null, .int (0 : Int32), .int (0 : Int32), .int (0 : Int32)]))) H := hM
  refine lv_aload_n hx hb dX7_init_48 rfl (lv_at hl 0 rfl) ?_
  refine lv_sipush (v := (600 : Int32)) hx hb dX7_init_49 (by decide) ?_
  refine mp_newa (kn := (15, 0, 0)) (atype := .byte) (ty := .byte) hx hb ac_byte rfl hC.1 hM hS hC.2.2.2 0 rfl rfl (a0 := (600, .inl (fun _ => 0))) (fun _ => rfl) (by decide) (N' := 600) (by decide) (by decide) (Nat.le_of_ble_eq_true rfl) (Nat.le_of_ble_eq_true rfl) dX7_init_52 (by simp [mp_set, hn]) (fun qt H hM hS => ?_)
  have hM : mp_P G.1 A (mp_set (mp_set (mp_set (mp_set (mp_set (mp_set (mp_set (mp_set (mp_set M (17, 0, 0) (q0, .inr (0, [.int (0 : Int32), .ref X.1, .int (0 : Int32)]))) (8, 0, 0) (bq, .inr (8, [.ref q0, .null, .null, .null, .null, .null, .int (0 : Int32), .int (0 : Int32), .int (0 : Int32)]))) (19, 0, 0) (q1, .inr (0, [.int (0 : Int32), .ref X.1, .int (0 : Int32)]))) (8, 0, 0) (bq, .inr (8, [.ref q0, .ref q1, .null, .null, .null, .null, .int (0 : Int32), .int (0 : Int32), .int (0 : Int32)]))) (21, 0, 0) (q2, .inr (0, [.int (0 : Int32), .ref X.1, .int (0 : Int32)]))) (8, 0, 0) (bq, .inr (8, [.ref q0, .ref q1, .ref q2, .null, .null, .null, .int (0 : Int32), .int (0 : Int32), .int (0 : Int32)]))) (23, 0, 0) (q3, .inr (0, [.int (0 : Int32), .ref X.1, .int (0 : Int32)]))) (8, 0, 0) (bq, .inr (8, [.ref q0, .ref q1, .ref q2, .ref q3, .null, .null, .int (0 : Int32), .int (0 : Int32), .int (0 : Int32)]))) (15, 0, 0) (qt, .inl (G.2.1, 600, .inl (fun _ => 0)))) H := hM
  refine mp_putF (D := G.1) (C := RX7) (T := TX7) (N := 9) (ci := 8) hx hb hts hin_wsX70 tyX7 tyX7_ok nmX7 hown hC.1 hM hS ((mp_set_n _ _ _ (by simp)).trans (mp_set_s _ _ _)) rfl 4 (by decide) fl_25 (fun _ z => z) rfl hnm rfl rfl rfl (Nat.le_of_ble_eq_true rfl) dX7_init_54 (fs' := [.ref q0, .ref q1, .ref q2, .ref q3, .ref qt, .null, .int (0 : Int32), .int (0 : Int32), .int (0 : Int32)]) rfl (fun H locs hM hS => ?_)
  have hM : mp_P G.1 A (mp_set (mp_set (mp_set (mp_set (mp_set (mp_set (mp_set (mp_set (mp_set (mp_set M (17, 0, 0) (q0, .inr (0, [.int (0 : Int32), .ref X.1, .int (0 : Int32)]))) (8, 0, 0) (bq, .inr (8, [.ref q0, .null, .null, .null, .null, .null, .int (0 : Int32), .int (0 : Int32), .int (0 : Int32)]))) (19, 0, 0) (q1, .inr (0, [.int (0 : Int32), .ref X.1, .int (0 : Int32)]))) (8, 0, 0) (bq, .inr (8, [.ref q0, .ref q1, .null, .null, .null, .null, .int (0 : Int32), .int (0 : Int32), .int (0 : Int32)]))) (21, 0, 0) (q2, .inr (0, [.int (0 : Int32), .ref X.1, .int (0 : Int32)]))) (8, 0, 0) (bq, .inr (8, [.ref q0, .ref q1, .ref q2, .null, .null, .null, .int (0 : Int32), .int (0 : Int32), .int (0 : Int32)]))) (23, 0, 0) (q3, .inr (0, [.int (0 : Int32), .ref X.1, .int (0 : Int32)]))) (8, 0, 0) (bq, .inr (8, [.ref q0, .ref q1, .ref q2, .ref q3, .null, .null, .int (0 : Int32), .int (0 : Int32), .int (0 : Int32)]))) (15, 0, 0) (qt, .inl (G.2.1, 600, .inl (fun _ => 0)))) (8, 0, 0) (bq, .inr (8, [.ref q0, .ref q1, .ref q2, .ref q3, .ref qt, .null, .int (0 : Int32), .int (0 : Int32), .int (0 : Int32)]))) H := hM
  refine lv_aload_n hx hb dX7_init_57 rfl (lv_at hl 0 rfl) ?_
  refine mp_new (kn := (4, 0, 0)) (C := RX5) (T := TX5) (N := 3) (ci := 6) (fs := [.null, .null, .int (0 : Int32)]) hx hb hts hin_wsX50 tyX5 tyX5_ok hown cl_29 in_X5 mi_RX5 hC.1 hM hS hC.2.2.2 rfl (fun j hj => by rcases (show j = 0 ∨ j = 1 ∨ j = 2 by omega) with rfl | rfl | rfl <;> rfl) (Nat.le_of_ble_eq_true rfl) (Nat.le_of_ble_eq_true rfl) dX7_init_58 (by simp [mp_set, hn]) (fun qr H hM hS => ?_)
  have hM : mp_P G.1 A (mp_set (mp_set (mp_set (mp_set (mp_set (mp_set (mp_set (mp_set (mp_set (mp_set (mp_set M (17, 0, 0) (q0, .inr (0, [.int (0 : Int32), .ref X.1, .int (0 : Int32)]))) (8, 0, 0) (bq, .inr (8, [.ref q0, .null, .null, .null, .null, .null, .int (0 : Int32), .int (0 : Int32), .int (0 : Int32)]))) (19, 0, 0) (q1, .inr (0, [.int (0 : Int32), .ref X.1, .int (0 : Int32)]))) (8, 0, 0) (bq, .inr (8, [.ref q0, .ref q1, .null, .null, .null, .null, .int (0 : Int32), .int (0 : Int32), .int (0 : Int32)]))) (21, 0, 0) (q2, .inr (0, [.int (0 : Int32), .ref X.1, .int (0 : Int32)]))) (8, 0, 0) (bq, .inr (8, [.ref q0, .ref q1, .ref q2, .null, .null, .null, .int (0 : Int32), .int (0 : Int32), .int (0 : Int32)]))) (23, 0, 0) (q3, .inr (0, [.int (0 : Int32), .ref X.1, .int (0 : Int32)]))) (8, 0, 0) (bq, .inr (8, [.ref q0, .ref q1, .ref q2, .ref q3, .null, .null, .int (0 : Int32), .int (0 : Int32), .int (0 : Int32)]))) (15, 0, 0) (qt, .inl (G.2.1, 600, .inl (fun _ => 0)))) (8, 0, 0) (bq, .inr (8, [.ref q0, .ref q1, .ref q2, .ref q3, .ref qt, .null, .int (0 : Int32), .int (0 : Int32), .int (0 : Int32)]))) (4, 0, 0) (qr, .inr (6, [.null, .null, .int (0 : Int32)]))) H := hM
  refine lv_dup hx hb dX7_init_61 rfl ?_
  refine mp_call (va_runIN (As := []) (rest := [.ref qr, .ref bq]) ⟨hx, hb, hml, hown, hts⟩ (c_X5_init l X G A (mp_set (mp_set (mp_set (mp_set (mp_set (mp_set (mp_set (mp_set (mp_set (mp_set (mp_set M (17, 0, 0) (q0, .inr (0, [.int (0 : Int32), .ref X.1, .int (0 : Int32)]))) (8, 0, 0) (bq, .inr (8, [.ref q0, .null, .null, .null, .null, .null, .int (0 : Int32), .int (0 : Int32), .int (0 : Int32)]))) (19, 0, 0) (q1, .inr (0, [.int (0 : Int32), .ref X.1, .int (0 : Int32)]))) (8, 0, 0) (bq, .inr (8, [.ref q0, .ref q1, .null, .null, .null, .null, .int (0 : Int32), .int (0 : Int32), .int (0 : Int32)]))) (21, 0, 0) (q2, .inr (0, [.int (0 : Int32), .ref X.1, .int (0 : Int32)]))) (8, 0, 0) (bq, .inr (8, [.ref q0, .ref q1, .ref q2, .null, .null, .null, .int (0 : Int32), .int (0 : Int32), .int (0 : Int32)]))) (23, 0, 0) (q3, .inr (0, [.int (0 : Int32), .ref X.1, .int (0 : Int32)]))) (8, 0, 0) (bq, .inr (8, [.ref q0, .ref q1, .ref q2, .ref q3, .null, .null, .int (0 : Int32), .int (0 : Int32), .int (0 : Int32)]))) (15, 0, 0) (qt, .inl (G.2.1, 600, .inl (fun _ => 0)))) (8, 0, 0) (bq, .inr (8, [.ref q0, .ref q1, .ref q2, .ref q3, .ref qt, .null, .int (0 : Int32), .int (0 : Int32), .int (0 : Int32)]))) (4, 0, 0) (qr, .inr (6, [.null, .null, .int (0 : Int32)]))) qr 0 (mp_set_s _ _ _) (by simp [mp_set, hn]) (by simp [mp_set, hn])) ⟨va_cnB 0 hts gX7_init_X5_init_n31 rfl rfl rfl nw_31 mi_RX5 (by decide +kernel) ⟨Nat.le_of_ble_eq_true rfl, Nat.le_of_ble_eq_true rfl⟩, rfl, mn_X5_init⟩ (mp_preS hC hS hM) rfl rfl hl.1 rfl (lv_room (Nat.le_of_ble_eq_true rfl)) dX7_init_62 ⟨Nat.le_of_ble_eq_true rfl, Nat.le_of_ble_eq_true rfl⟩) hS (fun v M9 H locs hp hM hS => ?_)
  obtain ⟨rfl, ax9, ay9, hM9⟩ := hp
  have hO9 : M9 (8, 0, 0) = some (bq, .inr (8, [.ref q0, .ref q1, .ref q2, .ref q3, .ref qt, .null, .int (0 : Int32), .int (0 : Int32), .int (0 : Int32)])) := by rw [hM9]; simp [mp_set]
  refine mp_put (D := G.1) (C := RX7) (T := TX7) (N := 9) (ci := 8) hx hb hts hin_wsX70 tyX7 tyX7_ok nmX7 hown hC.1 hM hS hO9 rfl 5 (by decide) fl_32 (fun _ z => z) rfl rfl rfl (Nat.le_of_ble_eq_true rfl) dX7_init_65 (fs' := [.ref q0, .ref q1, .ref q2, .ref q3, .ref qt, .ref qr, .int (0 : Int32), .int (0 : Int32), .int (0 : Int32)]) rfl (fun H locs hM hS => ?_)
  have hM : mp_P G.1 A (mp_set M9 (8, 0, 0) (bq, .inr (8, [.ref q0, .ref q1, .ref q2, .ref q3, .ref qt, .ref qr, .int (0 : Int32), .int (0 : Int32), .int (0 : Int32)]))) H := hM
  refine lv_aload_n hx hb dX7_init_68 rfl (lv_at hl 0 rfl) ?_
  refine lv_iconst (v := (0 : Int32)) hx hb dX7_init_69 (by decide) ?_
  refine mp_put (D := G.1) (C := RX7) (T := TX7) (N := 9) (ci := 8) hx hb hts hin_wsX70 tyX7 tyX7_ok nmX7 hown hC.1 hM hS (mp_set_s _ _ _) rfl 6 (by decide) fl_36 (fun _ z => z) rfl rfl rfl (Nat.le_of_ble_eq_true rfl) dX7_init_70 (fs' := [.ref q0, .ref q1, .ref q2, .ref q3, .ref qt, .ref qr, .int (0 : Int32), .int (0 : Int32), .int (0 : Int32)]) rfl (fun H locs hM hS => ?_)
  rw [mp_set_set] at hM
  have hM : mp_P G.1 A (mp_set M9 (8, 0, 0) (bq, .inr (8, [.ref q0, .ref q1, .ref q2, .ref q3, .ref qt, .ref qr, .int (0 : Int32), .int (0 : Int32), .int (0 : Int32)]))) H := hM
  refine lv_aload_n hx hb dX7_init_73 rfl (lv_at hl 0 rfl) ?_
  refine lv_iconst (v := (0 : Int32)) hx hb dX7_init_74 (by decide) ?_
  refine mp_put (D := G.1) (C := RX7) (T := TX7) (N := 9) (ci := 8) hx hb hts hin_wsX70 tyX7 tyX7_ok nmX7 hown hC.1 hM hS (mp_set_s _ _ _) rfl 7 (by decide) fl_40 (fun _ z => z) rfl rfl rfl (Nat.le_of_ble_eq_true rfl) dX7_init_75 (fs' := [.ref q0, .ref q1, .ref q2, .ref q3, .ref qt, .ref qr, .int (0 : Int32), .int (0 : Int32), .int (0 : Int32)]) rfl (fun H locs hM hS => ?_)
  rw [mp_set_set] at hM
  have hM : mp_P G.1 A (mp_set M9 (8, 0, 0) (bq, .inr (8, [.ref q0, .ref q1, .ref q2, .ref q3, .ref qt, .ref qr, .int (0 : Int32), .int (0 : Int32), .int (0 : Int32)]))) H := hM
  refine lv_aload_n hx hb dX7_init_78 rfl (lv_at hl 0 rfl) ?_
  refine lv_iconst (v := (-1 : Int32)) hx hb dX7_init_79 (by decide) ?_
  refine mp_put (D := G.1) (C := RX7) (T := TX7) (N := 9) (ci := 8) hx hb hts hin_wsX70 tyX7 tyX7_ok nmX7 hown hC.1 hM hS (mp_set_s _ _ _) rfl 8 (by decide) fl_43 (fun _ z => z) rfl rfl rfl (Nat.le_of_ble_eq_true rfl) dX7_init_80 (fs' := [.ref q0, .ref q1, .ref q2, .ref q3, .ref qt, .ref qr, .int (0 : Int32), .int (0 : Int32), .int (-1 : Int32)]) rfl (fun H locs hM hS => ?_)
  rw [mp_set_set] at hM
  have hM : mp_P G.1 A (mp_set M9 (8, 0, 0) (bq, .inr (8, [.ref q0, .ref q1, .ref q2, .ref q3, .ref qt, .ref qr, .int (0 : Int32), .int (0 : Int32), .int (-1 : Int32)]))) H := hM
  have hF9 : ∀ k : mp_N, k ≠ (8, 0, 0) → k ≠ (17, 0, 0) → k ≠ (19, 0, 0) → k ≠ (21, 0, 0) → k ≠ (23, 0, 0) → k ≠ (15, 0, 0) → k ≠ (4, 0, 0) → k ≠ (5, 0, 0) → k ≠ (6, 0, 0) → (mp_set M9 (8, 0, 0) (bq, .inr (8, [.ref q0, .ref q1, .ref q2, .ref q3, .ref qt, .ref qr, .int (0 : Int32), .int (0 : Int32), .int (-1 : Int32)]))) k = M k := fun k z1 z2 z3 z4 z5 z6 z7 z8 z9 => by rw [mp_set_n _ _ _ z1, hM9]; simp [mp_set, z1, z2, z3, z4, z5, z6, z7, z8, z9]
  exact mp_vret hx hb hr hlocks (Nat.le_of_ble_eq_true rfl) (Nat.le_of_ble_eq_true rfl) hM hS dX7_init_83 (⟨rfl, ⟨q0, q1, q2, q3, qt, fun _ => qr, bn_first (ax := ax9) (ay := ay9) (mp_set_s _ _ _) (by rw [mp_set_n _ _ _ (by simp), hM9]; simp [mp_set]) (by rw [mp_set_n _ _ _ (by simp), hM9]; simp [mp_set]; rfl) (by rw [mp_set_n _ _ _ (by simp), hM9]; simp [mp_set]; rfl) (by rw [mp_set_n _ _ _ (by simp), hM9]; simp [mp_set]; rfl) (by rw [mp_set_n _ _ _ (by simp), hM9]; simp [mp_set]; rfl) (by rw [mp_set_n _ _ _ (by simp), hM9]; simp [mp_set]; rfl) (by rw [mp_set_n _ _ _ (by simp), hM9]; simp [mp_set]) (by rw [mp_set_n _ _ _ (by simp), hM9]; simp [mp_set]) (fun k z1 z2 z3 z4 z5 z6 z7 z8 z9 z10 => (hF9 k z1 z2 z3 z4 z5 z6 z7 z8 z9).trans (hn k z1 z10))⟩, fun k hk => hF9 k (fun z => by rw [z] at hk; simp at hk) (fun z => by rw [z] at hk; simp at hk) (fun z => by rw [z] at hk; simp at hk) (fun z => by rw [z] at hk; simp at hk) (fun z => by rw [z] at hk; simp at hk) (fun z => by rw [z] at hk; simp at hk) (fun z => by rw [z] at hk; simp at hk) (fun z => by rw [z] at hk; simp at hk) (fun z => by rw [z] at hk; simp at hk)⟩)
