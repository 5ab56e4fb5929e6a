/-! ===== a plan's reader: tokens against the reference's words ===== -/
theorem sk_fix {P : Nat → Prop} {sz i : Nat} (h : i ≤ sz) : ¬ (sk P sz i < sz ∧ P (sk P sz i)) := (sk_spec (P := P) (sz - i + 1) i (by omega) h).2.2.2
theorem we_tb {t : Nat → Int32} {sz i : Nat} (h : i ≤ sz) : we t sz (tb t sz i) = we t sz i := by rw [we, tb_tb h]; rfl
theorem dz_tb {t : Nat → Int32} {sz i : Nat} (h : i ≤ sz) : dz t sz (tb t sz i) = dz t sz i := by rw [dz, tb_tb h]; rfl
theorem te_tb {t : Nat → Int32} {sz i : Nat} (h : i ≤ sz) : te t sz (tb t sz i) = te t sz i := by rw [te, te, tb_tb h, we_tb h, dz_tb h]
theorem tnP_tb {t : Nat → Int32} {sz i : Nat} (h : i ≤ sz) : tnP t sz (tb t sz i) = tnP t sz i := by rw [tnP, tnP, tb_tb h, dz_tb h]
theorem tnN_tb {t : Nat → Int32} {sz i : Nat} (h : i ≤ sz) : tnN t sz (tb t sz i) = tnN t sz i := by rw [tnN, tnN, tnP_tb h, tb_tb h, dz_tb h]
theorem tnV_tb {t : Nat → Int32} {sz i : Nat} (h : i ≤ sz) : tnV t sz (tb t sz i) = tnV t sz i := by rw [tnV, tnV, tb_tb h, dz_tb h]
theorem tkP_tb {t : Nat → Int32} {sz i : Nat} {q : Int32} (h : i ≤ sz) : tkP t sz (tb t sz i) q = tkP t sz i q := by rw [tkP, tkP, tb_tb h]
theorem tkN_tb {t : Nat → Int32} {sz i : Nat} {q : Int32} (h : i ≤ sz) : tkN t sz (tb t sz i) q = tkN t sz i q := by rw [tkN, tkN, tkP_tb h, tb_tb h]
theorem sk_mv {P : Nat → Prop} {sz i : Nat} (h : i ≤ sz) (hn : sk P sz i ≠ i) : i < sz ∧ P i := Classical.byContradiction (fun z => hn (sk_no z))
theorem sk_go {P : Nat → Prop} {sz i : Nat} (h1 : i < sz) (h2 : P i) : i < sk P sz i := by
  rw [sk_yes h1 h2]
  exact (sk_in (P := P) (show i + 1 ≤ sz by omega)).1
theorem ld_no {v : Int32} (h : md_in v 48 57) : ¬ md_in v 97 122 := fun z => by
  have a := Int32.le_iff_toInt_le.mp h.2
  have b := Int32.le_iff_toInt_le.mp z.1
  have e1 : (57 : Int32).toInt = 57 := by decide
  have e2 : (97 : Int32).toInt = 97 := by decide
  omega
theorem dg_te {t : Nat → Int32} {sz i : Nat} (hi : i ≤ sz) (h1 : tb t sz i < sz) (h2 : isD t (tb t sz i)) : we t sz i = tb t sz i ∧ tb t sz i < dz t sz i ∧ te t sz i = dz t sz i := by
  have a : we t sz i = tb t sz i := sk_no (fun z => ld_no h2 z.2)
  have b : tb t sz i < dz t sz i := sk_go h1 h2
  exact ⟨a, b, te_d a (by omega)⟩
theorem tn_d {t : Nat → Int32} {sz i : Nat} (hi : i ≤ sz) (h : tnP t sz i) : tb t sz i < sz ∧ isD t (tb t sz i) := sk_mv (tb_in hi).2 h.1
theorem rn_no {t : Nat → Int32} {sz i : Nat} (hi : i ≤ sz) (h : ¬ tnP t sz i) : tnN t sz i = tb t sz i := by rw [tnN, pB_f h]; rfl
theorem rn_ok {t : Nat → Int32} {sz i : Nat} (h : tnP t sz i) : tnN t sz i = dz t sz i := by rw [tnN, pB_t h]; rfl
theorem nb_s {t : Nat → Int32} {a u : Nat} (h : u < 3) : nb t a (u + 1) = 10 * nb t a u + t (a + u) - 48 := by rw [nb, if_pos h]
theorem nb_rg {t : Nat → Int32} {a sz : Nat} : ∀ u, u ≤ 3 → (∀ j, j < u → isD t (a + j)) → 0 ≤ (nb t a u).toInt ∧ (nb t a u).toInt < 10 ^ u
  | 0, _, _ => ⟨by show (0 : Int) ≤ (0 : Int32).toInt; decide, by show (0 : Int32).toInt < 10 ^ 0; decide⟩
  | u + 1, h, hd => by
    obtain ⟨h1, h2⟩ := nb_rg (t := t) (a := a) (sz := sz) u (by omega) (fun j hj => hd j (by omega))
    have d := hd u (by omega)
    have d1 := Int32.le_iff_toInt_le.mp d.1
    have d2 := Int32.le_iff_toInt_le.mp d.2
    have e1 : (48 : Int32).toInt = 48 := by decide
    have e2 : (57 : Int32).toInt = 57 := by decide
    have e3 : (10 : Int32).toInt = 10 := by decide
    have hp : (10 : Int) ^ u ≤ 100 := by
      have : u = 0 ∨ u = 1 ∨ u = 2 := by omega
      rcases this with rfl | rfl | rfl <;> decide
    have hm : (10 * nb t a u + t (a + u) - 48).toInt = 10 * (nb t a u).toInt + (t (a + u)).toInt - 48 := by
      rw [Int32.toInt_sub, Int32.toInt_add, Int32.toInt_mul, e1, e3]
      rw [Int.bmod_def, Int.bmod_def, Int.bmod_def]
      omega
    rw [nb_s (by omega), hm, Int.pow_succ]
    omega
theorem tnV_rg {t : Nat → Int32} {sz i : Nat} (hi : i ≤ sz) (h : tnP t sz i) : 0 ≤ (tnV t sz i).toInt ∧ (tnV t sz i).toInt < 1000 := by
  have hd := dz_in (t := t) hi
  have hs := sk_spec (P := isD t) (sz - tb t sz i + 1) (tb t sz i) (by omega) (tb_in hi).2
  have k := nb_rg (t := t) (a := tb t sz i) (sz := sz) (dz t sz i - tb t sz i) h.2 (fun j hj => hs.2.2.1 _ (by omega) (by show tb t sz i + j < dz t sz i; omega))
  refine ⟨k.1, ?_⟩
  have k2 := k.2
  have hp : (10 : Int) ^ (dz t sz i - tb t sz i) ≤ 1000 := by
    have : dz t sz i - tb t sz i = 0 ∨ dz t sz i - tb t sz i = 1 ∨ dz t sz i - tb t sz i = 2 ∨ dz t sz i - tb t sz i = 3 := by have := h.2; omega
    rcases this with z | z | z | z <;> rw [z] <;> decide
  show (nb t (tb t sz i) (dz t sz i - tb t sz i)).toInt < 1000
  omega
theorem tnV_ne {t : Nat → Int32} {sz i : Nat} (hi : i ≤ sz) (h : tnP t sz i) : tnV t sz i ≠ -1 := fun z => by
  have k := (tnV_rg hi h).1
  rw [z] at k
  exact absurd k (by decide)
abbrev rmX4_readNumber : Room := { frames := 2, cells := 0, slots := 0, locals := 40 }
set_option maxHeartbeats 4000000 in
set_option maxRecDepth 100000 in
theorem c_X4_readNumber (l : Launch) (X : mp_X) (G : mp_G) (A : Nat → Prop) (M : mp_M) (rq tp sz : Nat) (t : Nat → Int32) (kn kt : mp_N) (hT : M kt = some (tp, .inl (G.2.1, 600, .inl t))) (hkt : kt ≠ kn) (hsz : sz ≤ 600) (i : Nat) (hi : i ≤ sz) (hO : M kn = some (rq, .inr (5, [.ref tp, .int (nI sz), .int (nI (tb t sz i)), .int (nI (te t sz i))])))  : mp_Met l X G A yX4_readNumber wsX4_readNumber rmX4_readNumber ([.ref rq] : List Value) M (fun r M1 => r = some (.int (if pB (tnP t sz i) then tnV t sz i else -1)) ∧ M1 = mp_set M kn (rq, .inr (5, [.ref tp, .int (nI sz), .int (nI (tb t sz (tnN t sz i))), .int (nI (te t sz (tnN t sz i)))]))) 0 0 := by
  refine mp_ofW (cc := cX4_readNumber) (maxL := 3) (ret := (some .int)) (by decide) rfl (Nat.le_of_ble_eq_true rfl) ?_
  intro p e s m below meth c ls hx hb hr hts hown hlocks hnm hml hC hM hS hl
  have hl : lv_has ls 3 [(0, .ref rq)] := hl
  have hown : s.vm.findClass RX4 = some m.cls := hown
  have hin_wsX40 : ∀ w ∈ wsX40, w ∈ wsX4_readNumber := fun _ h => List.mem_cons_of_mem _ (List.mem_append_right _ h)
  have fl_9 := hts (.fieldLink RX4 9 "PlanningBench$PlanReader" "start" "I") (List.mem_of_getElem? (i := 1) rfl)
  have fl_28 := hts (.fieldLink RX4 28 "PlanningBench$PlanReader" "length" "I") (List.mem_of_getElem? (i := 2) rfl)
  have fl_18 := hts (.fieldLink RX4 18 "PlanningBench$PlanReader" "text" "[B") (List.mem_of_getElem? (i := 3) rfl)
  have fl_15 := hts (.fieldLink RX4 15 "PlanningBench$PlanReader" "end" "I") (List.mem_of_getElem? (i := 4) rfl)
  have hte := te_in (t := t) hi
  refine lv_aload_n hx hb dX4_readNumber_0 rfl (lv_at hl 0 rfl) ?_
  refine va_get (D := G.1) (C := RX4) (T := TX4) (N := 4) (ci := 5) hx hb hts hin_wsX40 hown hC.1 (hM.one hO) 0 rfl rfl 2 (by decide) fl_9 (fun _ z => z) rfl dX4_readNumber_1 ?_
  refine lv_aload_n hx hb dX4_readNumber_4 rfl (lv_at hl 0 rfl) ?_
  refine va_get (D := G.1) (C := RX4) (T := TX4) (N := 4) (ci := 5) hx hb hts hin_wsX40 hown hC.1 (hM.one hO) 0 rfl rfl 1 (by decide) fl_28 (fun _ z => z) rfl dX4_readNumber_5 ?_
  refine lv_icmp_ge (tgt := 39) hx hb dX4_readNumber_8 (by decide) (fun c1 => ?_) (fun c1 => ?_)
  · have c1 := nn_le (a := sz) (b := tb t sz i) (by omega) (by omega) c1
    refine lv_iconst (v := (-1 : Int32)) hx hb dX4_readNumber_39 (by decide) ?_
    exact mp_iret hx hb hr hlocks (Nat.le_of_ble_eq_true rfl) (Nat.le_of_ble_eq_true rfl) hM hS dX4_readNumber_40 (have hP : ¬ tnP t sz i := fun z => absurd (tn_d hi z).1 (by omega); ⟨by rw [pB_f hP]; rfl, by rw [rn_no hi hP, tb_tb hi, te_tb hi]; exact (mp_set_same hO).symm⟩)
  · have c1 := nn_nle (a := sz) (b := tb t sz i) (by omega) (by omega) c1
    refine lv_aload_n hx hb dX4_readNumber_11 rfl (lv_at hl 0 rfl) ?_
    refine va_get (D := G.1) (C := RX4) (T := TX4) (N := 4) (ci := 5) hx hb hts hin_wsX40 hown hC.1 (hM.one hO) 0 rfl rfl 0 (by decide) fl_18 (fun _ z => z) rfl dX4_readNumber_12 ?_
    refine lv_aload_n hx hb dX4_readNumber_15 rfl (lv_at hl 0 rfl) ?_
    refine va_get (D := G.1) (C := RX4) (T := TX4) (N := 4) (ci := 5) hx hb hts hin_wsX40 hown hC.1 (hM.one hO) 0 rfl rfl 2 (by decide) fl_9 (fun _ z => z) rfl dX4_readNumber_16 ?_
    refine ca_bald hx hb hC hM hT (j := tb t sz i) (by omega) (by decide) dX4_readNumber_19 ?_
    refine mp_calli (va_runS (As := [.int (t (tb t sz i))]) (rest := []) ⟨hx, hb, hml, hown, hts⟩ (c_X4_isDigit l X G A (M) (t (tb t sz i))) (va_cwS 1 hts gX4_readNumber_X4_isDigit rfl rfl rfl (by decide +kernel) ⟨Nat.le_of_ble_eq_true rfl, Nat.le_of_ble_eq_true rfl⟩) (mp_preS hC hS hM) rfl rfl hl.1 rfl (lv_room (Nat.le_of_ble_eq_true rfl)) dX4_readNumber_20 ⟨Nat.le_of_ble_eq_true rfl, Nat.le_of_ble_eq_true rfl⟩) hS (fun H locs hM hS => ?_)
    refine lv_if_eq (tgt := 39) hx hb dX4_readNumber_23 (by decide) (fun c3 => ?_) (fun c3 => ?_)
    · have c3 : (pB (md_in (t (tb t sz i)) 48 57)) = false := bI_0.mp c3
      refine lv_iconst (v := (-1 : Int32)) hx hb dX4_readNumber_39 (by decide) ?_
      exact mp_iret hx hb hr hlocks (Nat.le_of_ble_eq_true rfl) (Nat.le_of_ble_eq_true rfl) hM hS dX4_readNumber_40 (have hP : ¬ tnP t sz i := fun z => pB_not.mp c3 (tn_d hi z).2; ⟨by rw [pB_f hP]; rfl, by rw [rn_no hi hP, tb_tb hi, te_tb hi]; exact (mp_set_same hO).symm⟩)
    · have c3 : (pB (md_in (t (tb t sz i)) 48 57)) = true := bI_1.mp c3
      refine lv_aload_n hx hb dX4_readNumber_26 rfl (lv_at hl 0 rfl) ?_
      refine va_get (D := G.1) (C := RX4) (T := TX4) (N := 4) (ci := 5) hx hb hts hin_wsX40 hown hC.1 (hM.one hO) 0 rfl rfl 3 (by decide) fl_15 (fun _ z => z) rfl dX4_readNumber_27 ?_
      refine lv_aload_n hx hb dX4_readNumber_30 rfl (lv_at hl 0 rfl) ?_
      refine va_get (D := G.1) (C := RX4) (T := TX4) (N := 4) (ci := 5) hx hb hts hin_wsX40 hown hC.1 (hM.one hO) 0 rfl rfl 2 (by decide) fl_9 (fun _ z => z) rfl dX4_readNumber_31 ?_
      refine lv_isub hx hb dX4_readNumber_34 ?_
      refine mp_top (nI ((te t sz i) - (tb t sz i))) (pk_sub (a := te t sz i) (b := tb t sz i) (by omega)) ?_
      refine lv_iconst (v := (3 : Int32)) hx hb dX4_readNumber_35 (by decide) ?_
      refine lv_icmp_le (tgt := 41) hx hb dX4_readNumber_36 (by decide) (fun c4 => ?_) (fun c4 => ?_)
      · have c4 := nn_le (a := (te t sz i) - (tb t sz i)) (b := 3) (by omega) (by omega) c4
        have hdg := dg_te hi (by omega) (pB_iff.mp c3)
        have hP : tnP t sz i := ⟨by omega, by omega⟩
        have hzi := dz_in (t := t) hi
        refine lv_iconst (v := (0 : Int32)) hx hb dX4_readNumber_41 (by decide) ?_
        refine lv_istore_n (lv' := [(1, .int (0 : Int32)), (0, .ref rq)]) hx hb dX4_readNumber_42 rfl hl (by decide) rfl (fun ls hl => ?_)
        refine lv_aload_n hx hb dX4_readNumber_43 rfl (lv_at hl 1 rfl) ?_
        refine va_get (D := G.1) (C := RX4) (T := TX4) (N := 4) (ci := 5) hx hb hts hin_wsX40 hown hC.1 (hM.one hO) 0 rfl rfl 2 (by decide) fl_9 (fun _ z => z) rfl dX4_readNumber_44 ?_
        refine lv_istore_n (lv' := [(2, .int (nI (tb t sz i))), (1, .int (0 : Int32)), (0, .ref rq)]) hx hb dX4_readNumber_47 rfl hl (by decide) rfl (fun ls hl => ?_)
        have LP48 : ∀ (kk : Nat) (u : Nat) (ls : Array Slot) (H : Heap) (locs : List Loc), te t sz i - tb t sz i - u < kk → u ≤ te t sz i - tb t sz i → mp_P G.1 A M H → va_S A s.heap H locs → lv_has ls 3 [(0, .ref rq), (1, .int (nb t (tb t sz i) u)), (2, .int (nI (tb t sz i + u)))] → W p l e rmX4_readNumber s m ([.ref rq] : List Value).toArray below meth c H locs 0 0 (MQ below (mp_Q G.1 A (fun r M1 => r = some (.int (if pB (tnP t sz i) then tnV t sz i else -1)) ∧ M1 = mp_set M kn (rq, .inr (5, [.ref tp, .int (nI sz), .int (nI (tb t sz (tnN t sz i))), .int (nI (te t sz (tnN t sz i)))])))) ([.ref rq] : List Value).toArray s 0 0 A) (F0 m 48 ls []) := by
          intro kk
          induction kk with
          | zero => intro u ls H locs hk; exact absurd hk (Nat.not_lt_zero _)
          | succ kk ih =>
            intro u ls H locs hk hu hM hS hl
            refine lv_iload_n hx hb dX4_readNumber_48 rfl (lv_at hl 2 rfl) ?_
            refine lv_aload_n hx hb dX4_readNumber_49 rfl (lv_at hl 0 rfl) ?_
            refine va_get (D := G.1) (C := RX4) (T := TX4) (N := 4) (ci := 5) hx hb hts hin_wsX40 hown hC.1 (hM.one hO) 0 rfl rfl 3 (by decide) fl_15 (fun _ z => z) rfl dX4_readNumber_50 ?_
            refine lv_icmp_ge (tgt := 77) hx hb dX4_readNumber_53 (by decide) (fun c5 => ?_) (fun c5 => ?_)
            · have c5 := nn_le (a := te t sz i) (b := tb t sz i + u) (by omega) (by omega) c5
              refine lv_aload_n hx hb dX4_readNumber_77 rfl (lv_at hl 0 rfl) ?_
              refine mp_callv (va_runV (As := []) (rest := []) ⟨hx, hb, hml, hown, hts⟩ (c_X4_advance l X G A (M) rq tp sz t kn kt hT hkt hsz (tb t sz i) (te t sz i) (by omega) hO) (cwV 0 hts gX4_readNumber_X4_advance rfl rfl rfl (by decide +kernel) ⟨Nat.le_of_ble_eq_true rfl, Nat.le_of_ble_eq_true rfl⟩) (mp_preV hC hS hM (mp_recv hC.1 hM hO (r := (RX4, TX4, 4)) rfl)) rfl rfl hl.1 rfl (lv_room (Nat.le_of_ble_eq_true rfl)) dX4_readNumber_78 ⟨Nat.le_of_ble_eq_true rfl, Nat.le_of_ble_eq_true rfl⟩) hS (fun H locs hM hS => ?_)
              refine lv_iload_n hx hb dX4_readNumber_81 rfl (lv_at hl 1 rfl) ?_
              exact mp_iret hx hb hr hlocks (Nat.le_of_ble_eq_true rfl) (Nat.le_of_ble_eq_true rfl) hM hS dX4_readNumber_82 (⟨by rw [pB_t hP, show u = dz t sz i - tb t sz i by omega]; rfl, by rw [rn_ok hP, hdg.2.2]⟩)
            · have c5 := nn_nle (a := te t sz i) (b := tb t sz i + u) (by omega) (by omega) c5
              refine lv_bipush (v := (10 : Int32)) hx hb dX4_readNumber_56 (by decide) ?_
              refine lv_iload_n hx hb dX4_readNumber_58 rfl (lv_at hl 1 rfl) ?_
              refine lv_imul hx hb dX4_readNumber_59 ?_
              refine lv_aload_n hx hb dX4_readNumber_60 rfl (lv_at hl 0 rfl) ?_
              refine va_get (D := G.1) (C := RX4) (T := TX4) (N := 4) (ci := 5) hx hb hts hin_wsX40 hown hC.1 (hM.one hO) 0 rfl rfl 0 (by decide) fl_18 (fun _ z => z) rfl dX4_readNumber_61 ?_
              refine lv_iload_n hx hb dX4_readNumber_64 rfl (lv_at hl 2 rfl) ?_
              refine ca_bald hx hb hC hM hT (j := tb t sz i + u) (by omega) (by decide) dX4_readNumber_65 ?_
              refine lv_iadd hx hb dX4_readNumber_66 ?_
              refine lv_bipush (v := (48 : Int32)) hx hb dX4_readNumber_67 (by decide) ?_
              refine lv_isub hx hb dX4_readNumber_69 ?_
              refine lv_istore_n (lv' := [(1, .int ((((10 : Int32) * (nb t (tb t sz i) u)) + (t (tb t sz i + u))) - (48 : Int32))), (0, .ref rq), (2, .int (nI (tb t sz i + u)))]) hx hb dX4_readNumber_70 rfl hl (by decide) rfl (fun ls hl => ?_)
              refine lv_iinc (v := nI (tb t sz i + u + 1)) (lv' := [(2, .int (nI (tb t sz i + u + 1))), (1, .int ((((10 : Int32) * (nb t (tb t sz i) u)) + (t (tb t sz i + u))) - (48 : Int32))), (0, .ref rq)]) hx hb dX4_readNumber_71 hl (k := 2) rfl (nI_1 (tb t sz i + u)) (by decide) rfl (fun ls hl => ?_)
              refine lv_goto (tgt := 48) hx hb dX4_readNumber_74 (by decide) ?_
              exact ih (u + 1) ls _ _ (by omega) (by omega) hM hS (by rw [nb_s (by omega)]; exact (lv_sub hl [2, 1, 0] rfl))
        exact LP48 _ 0 ls _ _ (Nat.lt_succ_self _) (Nat.zero_le _) hM hS (lv_sub hl [2, 1, 0] rfl)
      · have c4 := nn_nle (a := (te t sz i) - (tb t sz i)) (b := 3) (by omega) (by omega) c4
        refine lv_iconst (v := (-1 : Int32)) hx hb dX4_readNumber_39 (by decide) ?_
        exact mp_iret hx hb hr hlocks (Nat.le_of_ble_eq_true rfl) (Nat.le_of_ble_eq_true rfl) hM hS dX4_readNumber_40 (have hP : ¬ tnP t sz i := fun z => absurd z.2 (by rw [← (dg_te hi (by omega) (pB_iff.mp c3)).2.2]; omega); ⟨by rw [pB_f hP]; rfl, by rw [rn_no hi hP, tb_tb hi, te_tb hi]; exact (mp_set_same hO).symm⟩)
theorem or_nn {a b : Int32} (ha : 0 ≤ a.toInt) (hb : 0 ≤ b.toInt) : 0 ≤ (a ||| b).toInt := by
  have e : ∀ x : Int32, 0 ≤ x.toInt ↔ x.toBitVec.msb = false := by
    intro x
    rw [BitVec.msb_eq_toInt]
    show _ ↔ decide (x.toInt < 0) = false
    rw [decide_eq_false_iff_not]
    omega
  rw [e] at ha hb ⊢
  rw [Int32.toBitVec_or, BitVec.msb_or, ha, hb]
  rfl
theorem btO_nn (q : Int32) : 0 ≤ (btO q).toInt := by
  have k : ∀ r, r < 16 → 0 ≤ ((1 : Int32) <<< (nI r &&& 31)).toInt := by decide
  unfold btO
  by_cases h : md_in q 0 15
  · obtain ⟨r, hr, e⟩ := md_nat (k := 16) (by decide) h
    rw [pB_t h, e]
    exact k r hr
  · rw [pB_f h]
    show (0 : Int) ≤ (0 : Int32).toInt
    decide
theorem bt_eq {b v : Int32} (h : 0 ≤ v.toInt) : bt1 b v = b ||| btO v := by
  unfold bt1 btO
  have e0 : (0 : Int32).toInt = 0 := by decide
  have e15 : (15 : Int32).toInt = 15 := by decide
  have e16 : (16 : Int32).toInt = 16 := by decide
  by_cases c : v < 16
  · have c' := (i_lt _ _).mp c
    rw [if_pos c, pB_t ⟨(i_le _ _).mpr (by omega), (i_le _ _).mpr (by omega)⟩]
    rfl
  · rw [if_neg c, pB_f (fun z => c ((i_lt _ _).mpr (by have := (i_le _ _).mp z.2; omega)))]
    exact Int32.or_zero.symm
theorem btO_m1 : btO (-1) = 0 := by
  unfold btO
  rw [pB_f (fun z => absurd z.1 (by decide))]
  rfl
noncomputable def ctn (t : Nat → Int32) (sz k j : Nat) (b : Int32) : Bool × Nat × Int32 := if pB (tb t sz j < sz ∧ isD t (tb t sz j)) then stp t sz k (tb t sz j) b else (true, tb t sz j, b)
theorem stp_s {t : Nat → Int32} {sz k j : Nat} {b : Int32} : stp t sz (k + 1) j b = if pB (tnP t sz j) then ctn t sz k (tnN t sz j) (bt1 b (tnV t sz j)) else (false, tnN t sz j, b) := rfl
theorem ctn_go {t : Nat → Int32} {sz k j : Nat} {b : Int32} (hj : j ≤ sz) (h : tnP t sz j) : ctn t sz (k + 1) j b = ctn t sz k (tnN t sz j) (b ||| btO (tnV t sz j)) := by
  rw [ctn, pB_t (tn_d hj h), if_pos rfl, stp_s, tnP_tb hj, tnN_tb hj, tnV_tb hj, pB_t h, if_pos rfl, bt_eq (tnV_rg hj h).1]
theorem ctn_no {t : Nat → Int32} {sz k j : Nat} {b : Int32} (hj : j ≤ sz) (h : ¬ tnP t sz j) : (ctn t sz (k + 1) j b).2.1 = tb t sz j ∧ ((ctn t sz (k + 1) j b).1 = true ∧ (ctn t sz (k + 1) j b).2.2 = b ∨ (ctn t sz (k + 1) j b).1 = false ∧ ¬ tkP t sz (tb t sz j) 59) := by
  by_cases hd : tb t sz j < sz ∧ isD t (tb t sz j)
  · rw [ctn, pB_t hd, if_pos rfl, stp_s, tnP_tb hj, pB_f h, if_neg (by decide), tnN_tb hj, rn_no hj h]
    refine ⟨rfl, Or.inr ⟨rfl, fun z => ?_⟩⟩
    rw [tkP_tb hj] at z
    have := hd.2.2
    rw [z.2] at this
    exact absurd this (by decide)
  · rw [ctn, pB_f hd, if_neg (by decide)]
    exact ⟨rfl, Or.inl ⟨rfl, rfl⟩⟩
def RSP (t : Nat → Int32) (sz i : Nat) (v : Int32) : Prop := ((stp t sz 601 i 0).1 = true ∧ v = (stp t sz 601 i 0).2.2 ∧ v ≠ -1) ∨ ((stp t sz 601 i 0).1 = false ∧ (v = -1 ∨ ¬ tkP t sz (stp t sz 601 i 0).2.1 59))
abbrev rmX4_readSet : Room := { frames := 3, cells := 0, slots := 0, locals := 62 }
set_option maxHeartbeats 4000000 in
set_option maxRecDepth 100000 in
theorem c_X4_readSet (l : Launch) (X : mp_X) (G : mp_G) (A : Nat → Prop) (M : mp_M) (rq tp sz : Nat) (t : Nat → Int32) (kn kt : mp_N) (hT : M kt = some (tp, .inl (G.2.1, 600, .inl t))) (hkt : kt ≠ kn) (hsz : sz ≤ 600) (i : Nat) (hi : i ≤ sz) (hO : M kn = some (rq, .inr (5, [.ref tp, .int (nI sz), .int (nI (tb t sz i)), .int (nI (te t sz i))])))  : mp_Met l X G A yX4_readSet wsX4_readSet rmX4_readSet ([.ref rq] : List Value) M (fun r M1 => ∃ v : Int32, r = some (.int v) ∧ M1 = mp_set M kn (rq, .inr (5, [.ref tp, .int (nI sz), .int (nI (tb t sz ((stp t sz 601 i 0).2.1))), .int (nI (te t sz ((stp t sz 601 i 0).2.1)))])) ∧ RSP t sz i v) 0 0 := by
  refine mp_ofW (cc := cX4_readSet) (maxL := 4) (ret := (some .int)) (by decide) rfl (Nat.le_of_ble_eq_true rfl) ?_
  intro p e s m below meth c ls hx hb hr hts hown hlocks hnm hml hC hM hS hl
  have hl : lv_has ls 4 [(0, .ref rq)] := hl
  have hown : s.vm.findClass RX4 = some m.cls := hown
  have hin_wsX40 : ∀ w ∈ wsX40, w ∈ wsX4_readSet := fun _ h => List.mem_cons_of_mem _ (List.mem_append_right _ h)
  have fl_28 := hts (.fieldLink RX4 28 "PlanningBench$PlanReader" "length" "I") (List.mem_of_getElem? (i := 1) rfl)
  have hte := te_in (t := t) hi
  have htn := tn_in (t := t) hi
  refine lv_aload_n hx hb dX4_readSet_0 rfl (lv_at hl 0 rfl) ?_
  refine mp_calli (va_runV (As := []) (rest := []) ⟨hx, hb, hml, hown, hts⟩ (c_X4_readNumber l X G A (M) rq tp sz t kn kt hT hkt hsz i (by omega) hO) (cwV 0 hts gX4_readSet_X4_readNumber rfl rfl rfl (by decide +kernel) ⟨Nat.le_of_ble_eq_true rfl, Nat.le_of_ble_eq_true rfl⟩) (mp_preV hC hS hM (mp_recv hC.1 hM hO (r := (RX4, TX4, 4)) rfl)) rfl rfl hl.1 rfl (lv_room (Nat.le_of_ble_eq_true rfl)) dX4_readSet_1 ⟨Nat.le_of_ble_eq_true rfl, Nat.le_of_ble_eq_true rfl⟩) hS (fun H locs hM hS => ?_)
  by_cases hp : tnP t sz i
  · refine mp_top (tnV t sz i) (by rw [pB_t hp]; rfl) ?_
    refine lv_istore_n (lv' := [(1, .int (tnV t sz i)), (0, .ref rq)]) hx hb dX4_readSet_4 rfl hl (by decide) rfl (fun ls hl => ?_)
    refine lv_iload_n hx hb dX4_readSet_5 rfl (lv_at hl 0 rfl) ?_
    refine lv_iconst (v := (-1 : Int32)) hx hb dX4_readSet_6 (by decide) ?_
    refine lv_icmp_ne (tgt := 12) hx hb dX4_readSet_7 (by decide) (fun c_1 => ?_) (fun c_1 => ?_)
    · have c_1 := c_1
      refine lv_iload_n hx hb dX4_readSet_12 rfl (lv_at hl 0 rfl) ?_
      refine mp_calli (va_runS (As := [.int (tnV t sz i)]) (rest := []) ⟨hx, hb, hml, hown, hts⟩ (c_X6_bitOf l X G A (mp_set M kn (rq, .inr (5, [.ref tp, .int (nI sz), .int (nI (tb t sz (tnN t sz i))), .int (nI (te t sz (tnN t sz i)))]))) (tnV t sz i)) (va_cwS 1 hts gX4_readSet_X6_bitOf rfl rfl rfl (by decide +kernel) ⟨Nat.le_of_ble_eq_true rfl, Nat.le_of_ble_eq_true rfl⟩) (mp_preS hC hS hM) rfl rfl hl.1 rfl (lv_room (Nat.le_of_ble_eq_true rfl)) dX4_readSet_13 ⟨Nat.le_of_ble_eq_true rfl, Nat.le_of_ble_eq_true rfl⟩) hS (fun H locs hM hS => ?_)
      refine lv_istore_n (lv' := [(2, .int (btO (tnV t sz i))), (1, .int (tnV t sz i)), (0, .ref rq)]) hx hb dX4_readSet_16 rfl hl (by decide) rfl (fun ls hl => ?_)
      refine lv_iconst (v := (0 : Int32)) hx hb dX4_readSet_17 (by decide) ?_
      refine lv_istore_n (lv' := [(3, .int (0 : Int32)), (2, .int (btO (tnV t sz i))), (1, .int (tnV t sz i)), (0, .ref rq)]) hx hb dX4_readSet_18 rfl hl (by decide) rfl (fun ls hl => ?_)
      have LP19 : ∀ (kk : Nat) (u jc : Nat) (b num : Int32) (ls : Array Slot) (H : Heap) (locs : List Loc), sz - u < kk → u ≤ sz → jc ≤ sz → 0 ≤ b.toInt → ((num ≠ -1 ∧ ∃ k, stp t sz 601 i 0 = ctn t sz k jc b ∧ sz - jc < k ∧ u < jc) ∨ (num = -1 ∧ (stp t sz 601 i 0).2.1 = tb t sz jc ∧ ((stp t sz 601 i 0).1 = true ∧ (stp t sz 601 i 0).2.2 = b ∨ (stp t sz 601 i 0).1 = false ∧ ¬ tkP t sz (tb t sz jc) 59))) → mp_P G.1 A (mp_set M kn (rq, .inr (5, [.ref tp, .int (nI sz), .int (nI (tb t sz jc)), .int (nI (te t sz jc))]))) H → va_S A s.heap H locs → lv_has ls 4 [(0, .ref rq), (1, .int num), (2, .int b), (3, .int (nI u))] → W p l e rmX4_readSet s m ([.ref rq] : List Value).toArray below meth c H locs 0 0 (MQ below (mp_Q G.1 A (fun r M1 => ∃ v : Int32, r = some (.int v) ∧ M1 = mp_set M kn (rq, .inr (5, [.ref tp, .int (nI sz), .int (nI (tb t sz ((stp t sz 601 i 0).2.1))), .int (nI (te t sz ((stp t sz 601 i 0).2.1)))])) ∧ RSP t sz i v)) ([.ref rq] : List Value).toArray s 0 0 A) (F0 m 19 ls []) := by
        intro kk
        induction kk with
        | zero => intro u jc b num ls H locs hk; exact absurd hk (Nat.not_lt_zero _)
        | succ kk ih =>
          intro u jc b num ls H locs hk hu hjc hb0 hmode hM hS hl
          have htj := te_in (t := t) hjc
          refine lv_iload_n hx hb dX4_readSet_19 rfl (lv_at hl 3 rfl) ?_
          refine lv_aload_n hx hb dX4_readSet_20 rfl (lv_at hl 0 rfl) ?_
          refine va_get (D := G.1) (C := RX4) (T := TX4) (N := 4) (ci := 5) hx hb hts hin_wsX40 hown hC.1 (hM.one (mp_set_s _ _ _)) 0 rfl rfl 1 (by decide) fl_28 (fun _ z => z) rfl dX4_readSet_21 ?_
          refine lv_icmp_ge (tgt := 50) hx hb dX4_readSet_24 (by decide) (fun c1 => ?_) (fun c1 => ?_)
          · have c1 := nn_le (a := sz) (b := u) (by omega) (by omega) c1
            have hm2 := hmode.resolve_left (fun z => by obtain ⟨_, k, _, _, z4⟩ := z; omega)
            refine lv_iload_n hx hb dX4_readSet_50 rfl (lv_at hl 2 rfl) ?_
            exact mp_iret hx hb hr hlocks (Nat.le_of_ble_eq_true rfl) (Nat.le_of_ble_eq_true rfl) hM hS dX4_readSet_51 (⟨b, rfl, by rw [hm2.2.1, tb_tb hjc, te_tb hjc], hm2.2.2.elim (fun z => Or.inl ⟨z.1, z.2.symm, fun y => by rw [y] at hb0; exact absurd hb0 (by decide)⟩) (fun z => Or.inr ⟨z.1, Or.inr (by rw [hm2.2.1]; exact z.2)⟩)⟩)
          · have c1 := nn_nle (a := sz) (b := u) (by omega) (by omega) c1
            refine lv_iload_n hx hb dX4_readSet_27 rfl (lv_at hl 1 rfl) ?_
            refine lv_iconst (v := (-1 : Int32)) hx hb dX4_readSet_28 (by decide) ?_
            refine lv_icmp_eq (tgt := 50) hx hb dX4_readSet_29 (by decide) (fun c3 => ?_) (fun c3 => ?_)
            · have c3 := c3
              have hm2 := hmode.resolve_left (fun z => z.1 c3)
              refine lv_iload_n hx hb dX4_readSet_50 rfl (lv_at hl 2 rfl) ?_
              exact mp_iret hx hb hr hlocks (Nat.le_of_ble_eq_true rfl) (Nat.le_of_ble_eq_true rfl) hM hS dX4_readSet_51 (⟨b, rfl, by rw [hm2.2.1, tb_tb hjc, te_tb hjc], hm2.2.2.elim (fun z => Or.inl ⟨z.1, z.2.symm, fun y => by rw [y] at hb0; exact absurd hb0 (by decide)⟩) (fun z => Or.inr ⟨z.1, Or.inr (by rw [hm2.2.1]; exact z.2)⟩)⟩)
            · have c3 := c3
              obtain ⟨_, k1_, hm3, hm4, hm5⟩ := hmode.resolve_right (fun z => c3 z.1)
              obtain ⟨k2_, rfl⟩ : ∃ k2_, k1_ = k2_ + 1 := ⟨k1_ - 1, by omega⟩
              have htn2 := tn_in (t := t) hjc
              refine lv_aload_n hx hb dX4_readSet_32 rfl (lv_at hl 0 rfl) ?_
              refine mp_calli (va_runV (As := []) (rest := []) ⟨hx, hb, hml, hown, hts⟩ (c_X4_readNumber l X G A (mp_set M kn (rq, .inr (5, [.ref tp, .int (nI sz), .int (nI (tb t sz jc)), .int (nI (te t sz jc))]))) rq tp sz t kn kt ((mp_set_n _ _ _ hkt).trans hT) hkt hsz jc (by omega) (mp_set_s _ _ _)) (cwV 0 hts gX4_readSet_X4_readNumber rfl rfl rfl (by decide +kernel) ⟨Nat.le_of_ble_eq_true rfl, Nat.le_of_ble_eq_true rfl⟩) (mp_preV hC hS hM (mp_recv hC.1 hM (mp_set_s _ _ _) (r := (RX4, TX4, 4)) rfl)) rfl rfl hl.1 rfl (lv_room (Nat.le_of_ble_eq_true rfl)) dX4_readSet_33 ⟨Nat.le_of_ble_eq_true rfl, Nat.le_of_ble_eq_true rfl⟩) hS (fun H locs hM hS => ?_)
              rw [mp_set_set] at hM
              by_cases hq : tnP t sz jc
              · refine mp_top (tnV t sz jc) (by rw [pB_t hq]; rfl) ?_
                have hdz := dg_te hjc (tn_d hjc hq).1 (tn_d hjc hq).2
                have hrk := rn_ok hq
                refine lv_istore_n (lv' := [(1, .int (tnV t sz jc)), (0, .ref rq), (2, .int b), (3, .int (nI u))]) hx hb dX4_readSet_36 rfl hl (by decide) rfl (fun ls hl => ?_)
                refine lv_iload_n hx hb dX4_readSet_37 rfl (lv_at hl 2 rfl) ?_
                refine lv_iload_n hx hb dX4_readSet_38 rfl (lv_at hl 0 rfl) ?_
                refine mp_calli (va_runS (As := [.int (tnV t sz jc)]) (rest := [.int b]) ⟨hx, hb, hml, hown, hts⟩ (c_X6_bitOf l X G A (mp_set M kn (rq, .inr (5, [.ref tp, .int (nI sz), .int (nI (tb t sz (tnN t sz jc))), .int (nI (te t sz (tnN t sz jc)))]))) (tnV t sz jc)) (va_cwS 1 hts gX4_readSet_X6_bitOf rfl rfl rfl (by decide +kernel) ⟨Nat.le_of_ble_eq_true rfl, Nat.le_of_ble_eq_true rfl⟩) (mp_preS hC hS hM) rfl rfl hl.1 rfl (lv_room (Nat.le_of_ble_eq_true rfl)) dX4_readSet_39 ⟨Nat.le_of_ble_eq_true rfl, Nat.le_of_ble_eq_true rfl⟩) hS (fun H locs hM hS => ?_)
                refine lv_ior hx hb dX4_readSet_42 ?_
                refine lv_istore_n (lv' := [(2, .int (b ||| (btO (tnV t sz jc)))), (1, .int (tnV t sz jc)), (0, .ref rq), (3, .int (nI u))]) hx hb dX4_readSet_43 rfl hl (by decide) rfl (fun ls hl => ?_)
                refine lv_iinc (v := nI (u + 1)) (lv' := [(3, .int (nI (u + 1))), (2, .int (b ||| (btO (tnV t sz jc)))), (1, .int (tnV t sz jc)), (0, .ref rq)]) hx hb dX4_readSet_44 hl (k := 3) rfl (nI_1 u) (by decide) rfl (fun ls hl => ?_)
                refine lv_goto (tgt := 19) hx hb dX4_readSet_47 (by decide) ?_
                exact ih (u + 1) (tnN t sz jc) (b ||| btO (tnV t sz jc)) (tnV t sz jc) ls _ _ (by omega) (by omega) (by omega) (or_nn hb0 (btO_nn _)) (Or.inl ⟨tnV_ne hjc hq, k2_, hm3.trans (ctn_go hjc hq), by omega, by omega⟩) hM hS (lv_sub hl [3, 2, 1, 0] rfl)
              · refine mp_top (-1 : Int32) (by rw [pB_f hq]; rfl) ?_
                refine lv_istore_n (lv' := [(1, .int (-1 : Int32)), (0, .ref rq), (2, .int b), (3, .int (nI u))]) hx hb dX4_readSet_36 rfl hl (by decide) rfl (fun ls hl => ?_)
                refine lv_iload_n hx hb dX4_readSet_37 rfl (lv_at hl 2 rfl) ?_
                refine lv_iload_n hx hb dX4_readSet_38 rfl (lv_at hl 0 rfl) ?_
                refine mp_calli (va_runS (As := [.int (-1 : Int32)]) (rest := [.int b]) ⟨hx, hb, hml, hown, hts⟩ (c_X6_bitOf l X G A (mp_set M kn (rq, .inr (5, [.ref tp, .int (nI sz), .int (nI (tb t sz (tnN t sz jc))), .int (nI (te t sz (tnN t sz jc)))]))) (-1 : Int32)) (va_cwS 1 hts gX4_readSet_X6_bitOf rfl rfl rfl (by decide +kernel) ⟨Nat.le_of_ble_eq_true rfl, Nat.le_of_ble_eq_true rfl⟩) (mp_preS hC hS hM) rfl rfl hl.1 rfl (lv_room (Nat.le_of_ble_eq_true rfl)) dX4_readSet_39 ⟨Nat.le_of_ble_eq_true rfl, Nat.le_of_ble_eq_true rfl⟩) hS (fun H locs hM hS => ?_)
                refine lv_ior hx hb dX4_readSet_42 ?_
                refine lv_istore_n (lv' := [(2, .int (b ||| (btO (-1 : Int32)))), (1, .int (-1 : Int32)), (0, .ref rq), (3, .int (nI u))]) hx hb dX4_readSet_43 rfl hl (by decide) rfl (fun ls hl => ?_)
                refine lv_iinc (v := nI (u + 1)) (lv' := [(3, .int (nI (u + 1))), (2, .int (b ||| (btO (-1 : Int32)))), (1, .int (-1 : Int32)), (0, .ref rq)]) hx hb dX4_readSet_44 hl (k := 3) rfl (nI_1 u) (by decide) rfl (fun ls hl => ?_)
                refine lv_goto (tgt := 19) hx hb dX4_readSet_47 (by decide) ?_
                exact ih (u + 1) (tnN t sz jc) (b ||| btO (-1)) (-1) ls _ _ (by omega) (by omega) (by omega) (or_nn hb0 (btO_nn _)) (Or.inr ⟨rfl, by rw [hm3, rn_no hjc hq, tb_tb hjc]; exact (ctn_no hjc hq).1, by rw [hm3, btO_m1, Int32.or_zero, rn_no hjc hq, tb_tb hjc]; exact (ctn_no hjc hq).2⟩) hM hS (lv_sub hl [3, 2, 1, 0] rfl)
      exact LP19 _ 0 (tnN t sz i) (btO (tnV t sz i)) (tnV t sz i) ls _ _ (Nat.lt_succ_self _) (Nat.zero_le _) (by omega) (btO_nn _) (Or.inl ⟨tnV_ne hi hp, 600, by rw [stp_s, pB_t hp, if_pos rfl, bt_eq (tnV_rg hi hp).1, Int32.zero_or], by have := (dg_te hi (tn_d hi hp).1 (tn_d hi hp).2).2.1; rw [rn_ok hp]; omega, by have := (dg_te hi (tn_d hi hp).1 (tn_d hi hp).2).2.1; rw [rn_ok hp]; omega⟩) hM hS (lv_sub hl [3, 2, 1, 0] rfl)
    · have c_1 := c_1
      exact absurd c_1 (tnV_ne hi hp)
  · refine mp_top (-1 : Int32) (by rw [pB_f hp]; rfl) ?_
    refine lv_istore_n (lv' := [(1, .int (-1 : Int32)), (0, .ref rq)]) hx hb dX4_readSet_4 rfl hl (by decide) rfl (fun ls hl => ?_)
    refine lv_iload_n hx hb dX4_readSet_5 rfl (lv_at hl 0 rfl) ?_
    refine lv_iconst (v := (-1 : Int32)) hx hb dX4_readSet_6 (by decide) ?_
    refine lv_icmp_ne (tgt := 12) hx hb dX4_readSet_7 (by decide) (fun c_2 => ?_) (fun c_2 => ?_)
    · have c_2 := c_2
      exact absurd c_2 (by decide)
    · have c_2 := c_2
      refine lv_iconst (v := (-1 : Int32)) hx hb dX4_readSet_10 (by decide) ?_
      exact mp_iret hx hb hr hlocks (Nat.le_of_ble_eq_true rfl) (Nat.le_of_ble_eq_true rfl) hM hS dX4_readSet_11 (⟨-1, rfl, by rw [stp_s, pB_f hp]; rfl, Or.inr ⟨by rw [stp_s, pB_f hp]; rfl, Or.inl rfl⟩⟩)
