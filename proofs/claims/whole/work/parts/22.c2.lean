/-! ===== applications and zones of the class ===== -/
def ap_fs (dq : Nat) (v : Nat → Int32) : List Value := [.ref dq, .int (v 1), .int (v 2), .int (v 3), .int (v 4), .int (v 5), .int (v 6), .int (v 7), .int (v 8), .int (v 9), .int (v 10), .int (v 11)]
def zn_fs (v : Nat → Int32) : List Value := [.int (v 0), .int (v 1), .int (v 2), .int (v 3), .int (v 4), .int (v 5)]
def AppAt (M : mp_M) (a dq : Nat) (v : Nat → Int32) : Prop := ∃ k : mp_N, M k = some (a, .inr (1, ap_fs dq v))
def ZnAt (M : mp_M) (a : Nat) (v : Nat → Int32) : Prop := ∃ k : mp_N, M k = some (a, .inr (7, zn_fs v))
theorem ca_iast {p : Program} {l : Launch} {e : Env} {R : Room} {s : State} {m : MethodId} {args : Array Value} {below : List Frame} {meth : Method} {c : Code} {H : Heap} {locs : List Loc} {cells slots : Nat} {Q : State → Prop} {cc : ByteArray} {pc : Nat} {ls : Array Slot} {rest : List Value} {X : mp_X} {G : mp_G} {A : Nat → Prop} {M : mp_M} {a n : Nat} {kn : mp_N} {f : Nat → Int32}
    (hx : p.tables.exec = Jvm.exec) (hb : c.code = cc) (hC : mp_C X G A s s.heap) (hM : mp_P G.1 A M H) (hS : va_S A s.heap H locs) (ha : M kn = some (a, .inl (G.2.2.1, n, .inl f))) {j : Nat} (hj : j < n) (hl : n < 2 ^ 31) {x : Int32} (hdg : decode cc pc = .ok (.iastore, 1))
    (kk : ∀ (H1 : Heap) (locs1 : List Loc), mp_P G.1 A (mp_set M kn (a, .inl (G.2.2.1, n, .inl (upd f j x)))) H1 → va_S A s.heap H1 locs1 → W p l e R s m args below meth c H1 locs1 cells slots Q (F0 m (pc + 1) ls rest)) : W p l e R s m args below meth c H locs cells slots Q (F0 m pc ls (.int x :: .int (nI j) :: .ref a :: rest)) := by
  refine mp_iast hx hb hC.1 hM hS 1 ha rfl (vp_in_nI hj hl) hdg (fun H1 locs1 h1 h2 => ?_)
  rw [nI_clamp (Nat.lt_trans hj hl)] at h1
  exact kk H1 locs1 h1 h2
noncomputable def btO (q : Int32) : Int32 := if pB (md_in q 0 15) then 1 <<< (q &&& 31) else 0
def aS (v : Nat → Int32) (d k : Int32) : Prop := v 2 = 4 ∧ v 8 ≤ d ∧ v 8 ≤ k ∧ (v 10 = -1 ∨ d < v 10 ∨ k < v 11)
noncomputable def aH (v : Nat → Int32) (td : Int32) : Int32 := if pB (v 2 = 1 ∧ v 6 + 400 < td ∨ v 2 = 3 ∧ v 7 + 300 < td) then 5 else v 2
noncomputable def aL (v : Nat → Int32) (td : Int32) : Int32 := if aH v td = 0 then v 1 + 30 else if aH v td = 1 then v 6 + 400 else if aH v td = 2 then (if v 9 = 0 then v 6 + 60 else -1) else if aH v td = 3 then v 7 + 300 else -1
noncomputable def aT (v : Nat → Int32) (pq w td : Int32) : Int32 := if w = 0 then aH v td else if w = 1 then v 1 else if w = 2 then pq else if w = 3 then v 5 else if w = 4 then v 4 else if w = 5 then v 6 else if w = 6 then v 7 else if w = 7 then v 8 else if w = 8 then aL v td else if w = 9 then (if v 9 = 0 then 0 else 1) else -1
noncomputable def znT (v : Nat → Int32) (w : Int32) : Int32 := if w = 1 then v 2 else if w = 2 then v 3 else if w = 3 then v 4 else if w = 4 then v 5 else if pB (md_in w 10 17) then (if pB (¬ v 1 &&& btO (w - 10) = 0) then 1 else 0) else -1
noncomputable def znP (v : Nat → Int32) (k w : Int32) : Nat → Int32 := if k = 0 then upd v 0 w else if k = 1 then upd v 1 w else if k = 2 then upd v 2 w else if k = 3 then upd v 3 w else if k = 4 then upd v 4 w else if k = 5 then upd v 5 w else v
abbrev rmX6_bitOf : Room := { frames := 1, cells := 0, slots := 0, locals := 22 }
set_option maxHeartbeats 4000000 in
set_option maxRecDepth 100000 in
theorem c_X6_bitOf (l : Launch) (X : mp_X) (G : mp_G) (A : Nat → Prop) (M : mp_M) (q : Int32) : mp_Met l X G A yX6_bitOf wsX6_bitOf rmX6_bitOf ([.int q] : List Value) M (fun r M1 => r = some (.int (btO q)) ∧ M1 = M) 0 0 := by
  refine mp_ofW (cc := cX6_bitOf) (maxL := 1) (ret := (some .int)) (by decide) rfl (Nat.le_of_ble_eq_true rfl) ?_
  intro p e s m below meth c ls hx hb hr hts hown hlocks hnm hml hC hM hS hl
  have hl : lv_has ls 1 [(0, .int q)] := hl
  have hown : s.vm.findClass RX6 = some m.cls := hown
  have nw_30 := hC.2.1 (.methodLinkNest RX6 30 yX7_isWithin "PlanningBench") (List.mem_of_getElem? (i := 2) rfl)
  have ms_X7_isWithin := hts (.static yX7_isWithin) (List.mem_of_getElem? (i := 1) rfl)
  have mi_RX7 := hts (.initialized RX7) (List.mem_of_getElem? (i := 2) rfl)
  refine lv_iload_n hx hb dX6_bitOf_0 rfl (lv_at hl 0 rfl) ?_
  refine lv_iconst (v := (0 : Int32)) hx hb dX6_bitOf_1 (by decide) ?_
  refine lv_bipush (v := (15 : Int32)) hx hb dX6_bitOf_2 (by decide) ?_
  refine mp_calli (va_runSN (As := [.int q, .int (0 : Int32), .int (15 : Int32)]) (rest := []) ⟨hx, hb, hml, hown, hts⟩ (c_X7_isWithin l X G A M q (0 : Int32) (15 : Int32)) ⟨va_cnB 3 hts gX6_bitOf_X7_isWithin_n30 rfl rfl rfl nw_30 mi_RX7 (by decide +kernel) ⟨Nat.le_of_ble_eq_true rfl, Nat.le_of_ble_eq_true rfl⟩, ms_X7_isWithin, trivial⟩ (mp_preS hC hS hM) rfl rfl hl.1 rfl (lv_room (Nat.le_of_ble_eq_true rfl)) dX6_bitOf_4 ⟨Nat.le_of_ble_eq_true rfl, Nat.le_of_ble_eq_true rfl⟩) hS (fun H locs hM hS => ?_)
  refine lv_if_eq (tgt := 16) hx hb dX6_bitOf_7 (by decide) (fun c1 => ?_) (fun c1 => ?_)
  · have c1 : (pB (md_in q (0 : Int32) (15 : Int32))) = false := bI_0.mp c1
    refine lv_iconst (v := (0 : Int32)) hx hb dX6_bitOf_16 (by decide) ?_
    exact mp_iret hx hb hr hlocks (Nat.le_of_ble_eq_true rfl) (Nat.le_of_ble_eq_true rfl) hM hS dX6_bitOf_17 (⟨by rw [btO, c1]; rfl, rfl⟩)
  · have c1 : (pB (md_in q (0 : Int32) (15 : Int32))) = true := bI_1.mp c1
    refine lv_iconst (v := (1 : Int32)) hx hb dX6_bitOf_10 (by decide) ?_
    refine lv_iload_n hx hb dX6_bitOf_11 rfl (lv_at hl 0 rfl) ?_
    refine lv_ishl hx hb dX6_bitOf_12 ?_
    refine lv_goto (tgt := 17) hx hb dX6_bitOf_13 (by decide) ?_
    exact mp_iret hx hb hr hlocks (Nat.le_of_ble_eq_true rfl) (Nat.le_of_ble_eq_true rfl) hM hS dX6_bitOf_17 (⟨by rw [btO, c1]; rfl, rfl⟩)
abbrev rmX6_names : Room := { frames := 2, cells := 0, slots := 0, locals := 42 }
set_option maxHeartbeats 4000000 in
set_option maxRecDepth 100000 in
theorem c_X6_names (l : Launch) (X : mp_X) (G : mp_G) (A : Nat → Prop) (M : mp_M) (aq : Nat) (v : Nat → Int32) (ha : ZnAt M aq v) (q : Int32) : mp_Met l X G A yX6_names wsX6_names rmX6_names ([.ref aq, .int q] : List Value) M (fun r M1 => r = some (.int (bI (pB (¬ v 0 &&& btO q = 0)))) ∧ M1 = M) 0 0 := by
  refine mp_ofW (cc := cX6_names) (maxL := 2) (ret := (some .boolean)) (by decide) rfl (Nat.le_of_ble_eq_true rfl) ?_
  intro p e s m below meth c ls hx hb hr hts hown hlocks hnm hml hC hM hS hl
  have hl : lv_has ls 2 [(0, .ref aq), (1, .int q)] := hl
  have hown : s.vm.findClass RX6 = some m.cls := hown
  have hin_wsX60 : ∀ w ∈ wsX60, w ∈ wsX6_names := fun _ h => List.mem_cons_of_mem _ (List.mem_append_right _ h)
  have fl_9 := hts (.fieldLink RX6 9 "PlanningBench$Zone" "plots" "I") (List.mem_of_getElem? (i := 1) rfl)
  obtain ⟨k1, hA1⟩ := id ha
  refine lv_aload_n hx hb dX6_names_0 rfl (lv_at hl 0 rfl) ?_
  refine va_get (D := G.1) (C := RX6) (T := TX6) (N := 6) (ci := 7) hx hb hts hin_wsX60 hown hC.1 (hM.one hA1) 0 rfl rfl 0 (by decide) fl_9 (fun _ z => z) rfl dX6_names_1 ?_
  refine lv_iload_n hx hb dX6_names_4 rfl (lv_at hl 1 rfl) ?_
  refine mp_calli (va_runS (As := [.int q]) (rest := [.int (v 0)]) ⟨hx, hb, hml, hown, hts⟩ (c_X6_bitOf l X G A (M) q) (va_cwS 1 hts gX6_names_X6_bitOf rfl rfl rfl (by decide +kernel) ⟨Nat.le_of_ble_eq_true rfl, Nat.le_of_ble_eq_true rfl⟩) (mp_preS hC hS hM) rfl rfl hl.1 rfl (lv_room (Nat.le_of_ble_eq_true rfl)) dX6_names_5 ⟨Nat.le_of_ble_eq_true rfl, Nat.le_of_ble_eq_true rfl⟩) hS (fun H locs hM hS => ?_)
  refine lv_iand hx hb dX6_names_8 ?_
  refine lv_if_eq (tgt := 16) hx hb dX6_names_9 (by decide) (fun c1 => ?_) (fun c1 => ?_)
  · have c1 := c1
    refine lv_iconst (v := (0 : Int32)) hx hb dX6_names_16 (by decide) ?_
    exact mp_zret hx hb hr hlocks (Nat.le_of_ble_eq_true rfl) (Nat.le_of_ble_eq_true rfl) hM hS dX6_names_17 (by first | rfl | exact bI_nar _) (⟨b0 (fun z => z c1), rfl⟩)
  · have c1 := c1
    refine lv_iconst (v := (1 : Int32)) hx hb dX6_names_12 (by decide) ?_
    refine lv_goto (tgt := 17) hx hb dX6_names_13 (by decide) ?_
    exact mp_zret hx hb hr hlocks (Nat.le_of_ble_eq_true rfl) (Nat.le_of_ble_eq_true rfl) hM hS dX6_names_17 (by first | rfl | exact bI_nar _) (⟨b1 c1, rfl⟩)
abbrev rmX6_allowsUse : Room := { frames := 2, cells := 0, slots := 0, locals := 42 }
set_option maxHeartbeats 4000000 in
set_option maxRecDepth 100000 in
theorem c_X6_allowsUse (l : Launch) (X : mp_X) (G : mp_G) (A : Nat → Prop) (M : mp_M) (aq : Nat) (v : Nat → Int32) (ha : ZnAt M aq v) (q : Int32) : mp_Met l X G A yX6_allowsUse wsX6_allowsUse rmX6_allowsUse ([.ref aq, .int q] : List Value) M (fun r M1 => r = some (.int (bI (pB (¬ v 1 &&& btO q = 0)))) ∧ M1 = M) 0 0 := by
  refine mp_ofW (cc := cX6_allowsUse) (maxL := 2) (ret := (some .boolean)) (by decide) rfl (Nat.le_of_ble_eq_true rfl) ?_
  intro p e s m below meth c ls hx hb hr hts hown hlocks hnm hml hC hM hS hl
  have hl : lv_has ls 2 [(0, .ref aq), (1, .int q)] := hl
  have hown : s.vm.findClass RX6 = some m.cls := hown
  have hin_wsX60 : ∀ w ∈ wsX60, w ∈ wsX6_allowsUse := fun _ h => List.mem_cons_of_mem _ (List.mem_append_right _ h)
  have fl_15 := hts (.fieldLink RX6 15 "PlanningBench$Zone" "uses" "I") (List.mem_of_getElem? (i := 1) rfl)
  obtain ⟨k1, hA1⟩ := id ha
  refine lv_aload_n hx hb dX6_allowsUse_0 rfl (lv_at hl 0 rfl) ?_
  refine va_get (D := G.1) (C := RX6) (T := TX6) (N := 6) (ci := 7) hx hb hts hin_wsX60 hown hC.1 (hM.one hA1) 0 rfl rfl 1 (by decide) fl_15 (fun _ z => z) rfl dX6_allowsUse_1 ?_
  refine lv_iload_n hx hb dX6_allowsUse_4 rfl (lv_at hl 1 rfl) ?_
  refine mp_calli (va_runS (As := [.int q]) (rest := [.int (v 1)]) ⟨hx, hb, hml, hown, hts⟩ (c_X6_bitOf l X G A (M) q) (va_cwS 1 hts gX6_allowsUse_X6_bitOf rfl rfl rfl (by decide +kernel) ⟨Nat.le_of_ble_eq_true rfl, Nat.le_of_ble_eq_true rfl⟩) (mp_preS hC hS hM) rfl rfl hl.1 rfl (lv_room (Nat.le_of_ble_eq_true rfl)) dX6_allowsUse_5 ⟨Nat.le_of_ble_eq_true rfl, Nat.le_of_ble_eq_true rfl⟩) hS (fun H locs hM hS => ?_)
  refine lv_iand hx hb dX6_allowsUse_8 ?_
  refine lv_if_eq (tgt := 16) hx hb dX6_allowsUse_9 (by decide) (fun c1 => ?_) (fun c1 => ?_)
  · have c1 := c1
    refine lv_iconst (v := (0 : Int32)) hx hb dX6_allowsUse_16 (by decide) ?_
    exact mp_zret hx hb hr hlocks (Nat.le_of_ble_eq_true rfl) (Nat.le_of_ble_eq_true rfl) hM hS dX6_allowsUse_17 (by first | rfl | exact bI_nar _) (⟨b0 (fun z => z c1), rfl⟩)
  · have c1 := c1
    refine lv_iconst (v := (1 : Int32)) hx hb dX6_allowsUse_12 (by decide) ?_
    refine lv_goto (tgt := 17) hx hb dX6_allowsUse_13 (by decide) ?_
    exact mp_zret hx hb hr hlocks (Nat.le_of_ble_eq_true rfl) (Nat.le_of_ble_eq_true rfl) hM hS dX6_allowsUse_17 (by first | rfl | exact bI_nar _) (⟨b1 c1, rfl⟩)
abbrev rmX6_tellUse : Room := { frames := 3, cells := 0, slots := 0, locals := 63 }
set_option maxHeartbeats 4000000 in
set_option maxRecDepth 100000 in
theorem c_X6_tellUse (l : Launch) (X : mp_X) (G : mp_G) (A : Nat → Prop) (M : mp_M) (aq : Nat) (v : Nat → Int32) (ha : ZnAt M aq v) (w : Int32) : mp_Met l X G A yX6_tellUse wsX6_tellUse rmX6_tellUse ([.ref aq, .int w] : List Value) M (fun r M1 => r = some (.int (if pB (md_in w 10 17) then (if pB (¬ v 1 &&& btO (w - 10) = 0) then 1 else 0) else -1)) ∧ M1 = M) 0 0 := by
  refine mp_ofW (cc := cX6_tellUse) (maxL := 2) (ret := (some .int)) (by decide) rfl (Nat.le_of_ble_eq_true rfl) ?_
  intro p e s m below meth c ls hx hb hr hts hown hlocks hnm hml hC hM hS hl
  have hl : lv_has ls 2 [(0, .ref aq), (1, .int w)] := hl
  have hown : s.vm.findClass RX6 = some m.cls := hown
  have nw_30 := hC.2.1 (.methodLinkNest RX6 30 yX7_isWithin "PlanningBench") (List.mem_of_getElem? (i := 2) rfl)
  have ms_X7_isWithin := hts (.static yX7_isWithin) (List.mem_of_getElem? (i := 1) rfl)
  have mi_RX7 := hts (.initialized RX7) (List.mem_of_getElem? (i := 2) rfl)
  obtain ⟨k1, hA1⟩ := id ha
  refine lv_iload_n hx hb dX6_tellUse_0 rfl (lv_at hl 1 rfl) ?_
  refine lv_bipush (v := (10 : Int32)) hx hb dX6_tellUse_1 (by decide) ?_
  refine lv_bipush (v := (17 : Int32)) hx hb dX6_tellUse_3 (by decide) ?_
  refine mp_calli (va_runSN (As := [.int w, .int (10 : Int32), .int (17 : Int32)]) (rest := []) ⟨hx, hb, hml, hown, hts⟩ (c_X7_isWithin l X G A M w (10 : Int32) (17 : Int32)) ⟨va_cnB 3 hts gX6_tellUse_X7_isWithin_n30 rfl rfl rfl nw_30 mi_RX7 (by decide +kernel) ⟨Nat.le_of_ble_eq_true rfl, Nat.le_of_ble_eq_true rfl⟩, ms_X7_isWithin, trivial⟩ (mp_preS hC hS hM) rfl rfl hl.1 rfl (lv_room (Nat.le_of_ble_eq_true rfl)) dX6_tellUse_5 ⟨Nat.le_of_ble_eq_true rfl, Nat.le_of_ble_eq_true rfl⟩) hS (fun H locs hM hS => ?_)
  refine lv_if_ne (tgt := 13) hx hb dX6_tellUse_8 (by decide) (fun c1 => ?_) (fun c1 => ?_)
  · have c1 : (pB (md_in w (10 : Int32) (17 : Int32))) = true := bI_1.mp c1
    refine lv_aload_n hx hb dX6_tellUse_13 rfl (lv_at hl 0 rfl) ?_
    refine lv_iload_n hx hb dX6_tellUse_14 rfl (lv_at hl 1 rfl) ?_
    refine lv_bipush (v := (10 : Int32)) hx hb dX6_tellUse_15 (by decide) ?_
    refine lv_isub hx hb dX6_tellUse_17 ?_
    refine mp_calli (va_runV (As := [.int (w - (10 : Int32))]) (rest := []) ⟨hx, hb, hml, hown, hts⟩ (c_X6_allowsUse l X G A M aq v ha (w - (10 : Int32))) (cwV 1 hts gX6_tellUse_X6_allowsUse rfl rfl rfl (by decide +kernel) ⟨Nat.le_of_ble_eq_true rfl, Nat.le_of_ble_eq_true rfl⟩) (mp_preV hC hS hM (mp_recv hC.1 hM hA1 (r := (RX6, TX6, 6)) rfl)) rfl rfl hl.1 rfl (lv_room (Nat.le_of_ble_eq_true rfl)) dX6_tellUse_18 ⟨Nat.le_of_ble_eq_true rfl, Nat.le_of_ble_eq_true rfl⟩) hS (fun H locs hM hS => ?_)
    refine lv_if_eq (tgt := 28) hx hb dX6_tellUse_21 (by decide) (fun c3 => ?_) (fun c3 => ?_)
    · have c3 : (pB (¬ v 1 &&& btO (w - (10 : Int32)) = 0)) = false := bI_0.mp c3
      refine lv_iconst (v := (0 : Int32)) hx hb dX6_tellUse_28 (by decide) ?_
      exact mp_iret hx hb hr hlocks (Nat.le_of_ble_eq_true rfl) (Nat.le_of_ble_eq_true rfl) hM hS dX6_tellUse_29 (⟨by rw [c1, c3]; rfl, rfl⟩)
    · have c3 : (pB (¬ v 1 &&& btO (w - (10 : Int32)) = 0)) = true := bI_1.mp c3
      refine lv_iconst (v := (1 : Int32)) hx hb dX6_tellUse_24 (by decide) ?_
      refine lv_goto (tgt := 29) hx hb dX6_tellUse_25 (by decide) ?_
      exact mp_iret hx hb hr hlocks (Nat.le_of_ble_eq_true rfl) (Nat.le_of_ble_eq_true rfl) hM hS dX6_tellUse_29 (⟨by rw [c1, c3]; rfl, rfl⟩)
  · have c1 : (pB (md_in w (10 : Int32) (17 : Int32))) = false := bI_0.mp c1
    refine lv_iconst (v := (-1 : Int32)) hx hb dX6_tellUse_11 (by decide) ?_
    exact mp_iret hx hb hr hlocks (Nat.le_of_ble_eq_true rfl) (Nat.le_of_ble_eq_true rfl) hM hS dX6_tellUse_12 (⟨by rw [c1]; rfl, rfl⟩)
abbrev rmX6_tell : Room := { frames := 4, cells := 0, slots := 0, locals := 84 }
set_option maxHeartbeats 4000000 in
set_option maxRecDepth 100000 in
theorem c_X6_tell (l : Launch) (X : mp_X) (G : mp_G) (A : Nat → Prop) (M : mp_M) (aq : Nat) (v : Nat → Int32) (ha : ZnAt M aq v) (w : Int32) : mp_Met l X G A yX6_tell wsX6_tell rmX6_tell ([.ref aq, .int w] : List Value) M (fun r M1 => r = some (.int (znT v w)) ∧ M1 = M) 0 0 := by
  refine mp_ofW (cc := cX6_tell) (maxL := 2) (ret := (some .int)) (by decide) rfl (Nat.le_of_ble_eq_true rfl) ?_
  intro p e s m below meth c ls hx hb hr hts hown hlocks hnm hml hC hM hS hl
  have hl : lv_has ls 2 [(0, .ref aq), (1, .int w)] := hl
  have hown : s.vm.findClass RX6 = some m.cls := hown
  have hin_wsX60 : ∀ w ∈ wsX60, w ∈ wsX6_tell := fun _ h => List.mem_cons_of_mem _ (List.mem_append_right _ h)
  have fl_18 := hts (.fieldLink RX6 18 "PlanningBench$Zone" "height" "I") (List.mem_of_getElem? (i := 1) rfl)
  have fl_21 := hts (.fieldLink RX6 21 "PlanningBench$Zone" "cover" "I") (List.mem_of_getElem? (i := 2) rfl)
  have fl_24 := hts (.fieldLink RX6 24 "PlanningBench$Zone" "edge" "I") (List.mem_of_getElem? (i := 3) rfl)
  have fl_27 := hts (.fieldLink RX6 27 "PlanningBench$Zone" "shade" "I") (List.mem_of_getElem? (i := 4) rfl)
  obtain ⟨k1, hA1⟩ := id ha
  refine lv_iload_n hx hb dX6_tell_0 rfl (lv_at hl 1 rfl) ?_
  by_cases t_1 : w = (1 : Int32)
  · have t_e : w = (1 : Int32) := t_1
    refine lv_tableIn (tgt := 32) (off := 31) hx hb dX6_tell_1 (by rw [t_e]; decide) (by rw [t_e]; decide) (by rw [t_e]; rfl) (by decide) ?_
    refine lv_aload_n hx hb dX6_tell_32 rfl (lv_at hl 0 rfl) ?_
    refine va_get (D := G.1) (C := RX6) (T := TX6) (N := 6) (ci := 7) hx hb hts hin_wsX60 hown hC.1 (hM.one hA1) 0 rfl rfl 2 (by decide) fl_18 (fun _ z => z) rfl dX6_tell_33 ?_
    exact mp_iret hx hb hr hlocks (Nat.le_of_ble_eq_true rfl) (Nat.le_of_ble_eq_true rfl) hM hS dX6_tell_36 (⟨by rw [znT, if_pos t_e], rfl⟩)
  by_cases t_2 : w = (2 : Int32)
  · have t_e : w = (2 : Int32) := t_2
    refine lv_tableIn (tgt := 37) (off := 36) hx hb dX6_tell_1 (by rw [t_e]; decide) (by rw [t_e]; decide) (by rw [t_e]; rfl) (by decide) ?_
    refine lv_aload_n hx hb dX6_tell_37 rfl (lv_at hl 0 rfl) ?_
    refine va_get (D := G.1) (C := RX6) (T := TX6) (N := 6) (ci := 7) hx hb hts hin_wsX60 hown hC.1 (hM.one hA1) 0 rfl rfl 3 (by decide) fl_21 (fun _ z => z) rfl dX6_tell_38 ?_
    exact mp_iret hx hb hr hlocks (Nat.le_of_ble_eq_true rfl) (Nat.le_of_ble_eq_true rfl) hM hS dX6_tell_41 (⟨by rw [znT, if_neg t_1, if_pos t_e], rfl⟩)
  by_cases t_3 : w = (3 : Int32)
  · have t_e : w = (3 : Int32) := t_3
    refine lv_tableIn (tgt := 42) (off := 41) hx hb dX6_tell_1 (by rw [t_e]; decide) (by rw [t_e]; decide) (by rw [t_e]; rfl) (by decide) ?_
    refine lv_aload_n hx hb dX6_tell_42 rfl (lv_at hl 0 rfl) ?_
    refine va_get (D := G.1) (C := RX6) (T := TX6) (N := 6) (ci := 7) hx hb hts hin_wsX60 hown hC.1 (hM.one hA1) 0 rfl rfl 4 (by decide) fl_24 (fun _ z => z) rfl dX6_tell_43 ?_
    exact mp_iret hx hb hr hlocks (Nat.le_of_ble_eq_true rfl) (Nat.le_of_ble_eq_true rfl) hM hS dX6_tell_46 (⟨by rw [znT, if_neg t_1, if_neg t_2, if_pos t_e], rfl⟩)
  by_cases t_4 : w = (4 : Int32)
  · have t_e : w = (4 : Int32) := t_4
    refine lv_tableIn (tgt := 47) (off := 46) hx hb dX6_tell_1 (by rw [t_e]; decide) (by rw [t_e]; decide) (by rw [t_e]; rfl) (by decide) ?_
    refine lv_aload_n hx hb dX6_tell_47 rfl (lv_at hl 0 rfl) ?_
    refine va_get (D := G.1) (C := RX6) (T := TX6) (N := 6) (ci := 7) hx hb hts hin_wsX60 hown hC.1 (hM.one hA1) 0 rfl rfl 5 (by decide) fl_27 (fun _ z => z) rfl dX6_tell_48 ?_
    exact mp_iret hx hb hr hlocks (Nat.le_of_ble_eq_true rfl) (Nat.le_of_ble_eq_true rfl) hM hS dX6_tell_51 (⟨by rw [znT, if_neg t_1, if_neg t_2, if_neg t_3, if_pos t_e], rfl⟩)
  refine lv_tableOut (tgt := 52) hx hb dX6_tell_1 (by have u_1 := lv_neT t_1 (a := 1) rfl; have u_2 := lv_neT t_2 (a := 2) rfl; have u_3 := lv_neT t_3 (a := 3) rfl; have u_4 := lv_neT t_4 (a := 4) rfl; omega) (by decide) ?_
  refine lv_aload_n hx hb dX6_tell_52 rfl (lv_at hl 0 rfl) ?_
  refine lv_iload_n hx hb dX6_tell_53 rfl (lv_at hl 1 rfl) ?_
  refine mp_calli (va_runV (As := [.int w]) (rest := []) ⟨hx, hb, hml, hown, hts⟩ (c_X6_tellUse l X G A M aq v ha w) (cwV 1 hts gX6_tell_X6_tellUse rfl rfl rfl (by decide +kernel) ⟨Nat.le_of_ble_eq_true rfl, Nat.le_of_ble_eq_true rfl⟩) (mp_preV hC hS hM (mp_recv hC.1 hM hA1 (r := (RX6, TX6, 6)) rfl)) rfl rfl hl.1 rfl (lv_room (Nat.le_of_ble_eq_true rfl)) dX6_tell_54 ⟨Nat.le_of_ble_eq_true rfl, Nat.le_of_ble_eq_true rfl⟩) hS (fun H locs hM hS => ?_)
  exact mp_iret hx hb hr hlocks (Nat.le_of_ble_eq_true rfl) (Nat.le_of_ble_eq_true rfl) hM hS dX6_tell_57 (⟨by rw [znT, if_neg t_1, if_neg t_2, if_neg t_3, if_neg t_4], rfl⟩)
abbrev rmX6_put : Room := { frames := 0, cells := 0, slots := 0, locals := 0 }
set_option maxHeartbeats 4000000 in
set_option maxRecDepth 100000 in
theorem c_X6_put (l : Launch) (X : mp_X) (G : mp_G) (A : Nat → Prop) (M : mp_M) (aq : Nat) (v : Nat → Int32) (kn : mp_N) (ha : M kn = some (aq, .inr (7, zn_fs v))) (k w : Int32) : mp_Met l X G A yX6_put wsX6_put rmX6_put ([.ref aq, .int k, .int w] : List Value) M (fun r M1 => r = none ∧ M1 = mp_set M kn (aq, .inr (7, zn_fs (znP v k w)))) 0 0 := by
  refine mp_ofW (cc := cX6_put) (maxL := 3) (ret := none) (by decide) rfl (Nat.le_of_ble_eq_true rfl) ?_
  intro p e s m below meth c ls hx hb hr hts hown hlocks hnm hml hC hM hS hl
  have hl : lv_has ls 3 [(0, .ref aq), (1, .int k), (2, .int w)] := hl
  have hown : s.vm.findClass RX6 = some m.cls := hown
  have hin_wsX60 : ∀ w ∈ wsX60, w ∈ wsX6_put := fun _ h => List.mem_cons_of_mem _ (List.mem_append_right _ h)
  have fl_9 := hts (.fieldLink RX6 9 "PlanningBench$Zone" "plots" "I") (List.mem_of_getElem? (i := 1) rfl)
  have fl_15 := hts (.fieldLink RX6 15 "PlanningBench$Zone" "uses" "I") (List.mem_of_getElem? (i := 2) rfl)
  have fl_18 := hts (.fieldLink RX6 18 "PlanningBench$Zone" "height" "I") (List.mem_of_getElem? (i := 3) rfl)
  have fl_21 := hts (.fieldLink RX6 21 "PlanningBench$Zone" "cover" "I") (List.mem_of_getElem? (i := 4) rfl)
  have fl_24 := hts (.fieldLink RX6 24 "PlanningBench$Zone" "edge" "I") (List.mem_of_getElem? (i := 5) rfl)
  have fl_27 := hts (.fieldLink RX6 27 "PlanningBench$Zone" "shade" "I") (List.mem_of_getElem? (i := 6) rfl)
  refine lv_iload_n hx hb dX6_put_0 rfl (lv_at hl 1 rfl) ?_
  by_cases t_0 : k = (0 : Int32)
  · have t_e : k = (0 : Int32) := t_0
    refine lv_tableIn (tgt := 40) (off := 39) hx hb dX6_put_1 (by rw [t_e]; decide) (by rw [t_e]; decide) (by rw [t_e]; rfl) (by decide) ?_
    refine lv_aload_n hx hb dX6_put_40 rfl (lv_at hl 0 rfl) ?_
    refine lv_iload_n hx hb dX6_put_41 rfl (lv_at hl 2 rfl) ?_
    refine mp_put (D := G.1) (C := RX6) (T := TX6) (N := 6) (ci := 7) hx hb hts hin_wsX60 tyX6 tyX6_ok nmX6 hown hC.1 hM hS ha rfl 0 (by decide) fl_9 (fun _ z => z) rfl rfl rfl (Nat.le_of_ble_eq_true rfl) dX6_put_42 (fs' := zn_fs (upd v 0 w)) rfl (fun H locs hM hS => ?_)
    have hM : mp_P G.1 A (mp_set M kn (aq, .inr (7, zn_fs (upd v 0 w)))) H := hM
    refine lv_goto (tgt := 88) hx hb dX6_put_45 (by decide) ?_
    exact mp_vret hx hb hr hlocks (Nat.le_of_ble_eq_true rfl) (Nat.le_of_ble_eq_true rfl) hM hS dX6_put_88 (⟨rfl, by rw [znP, if_pos t_e]⟩)
  by_cases t_1 : k = (1 : Int32)
  · have t_e : k = (1 : Int32) := t_1
    refine lv_tableIn (tgt := 48) (off := 47) hx hb dX6_put_1 (by rw [t_e]; decide) (by rw [t_e]; decide) (by rw [t_e]; rfl) (by decide) ?_
    refine lv_aload_n hx hb dX6_put_48 rfl (lv_at hl 0 rfl) ?_
    refine lv_iload_n hx hb dX6_put_49 rfl (lv_at hl 2 rfl) ?_
    refine mp_put (D := G.1) (C := RX6) (T := TX6) (N := 6) (ci := 7) hx hb hts hin_wsX60 tyX6 tyX6_ok nmX6 hown hC.1 hM hS ha rfl 1 (by decide) fl_15 (fun _ z => z) rfl rfl rfl (Nat.le_of_ble_eq_true rfl) dX6_put_50 (fs' := zn_fs (upd v 1 w)) rfl (fun H locs hM hS => ?_)
    have hM : mp_P G.1 A (mp_set M kn (aq, .inr (7, zn_fs (upd v 1 w)))) H := hM
    refine lv_goto (tgt := 88) hx hb dX6_put_53 (by decide) ?_
    exact mp_vret hx hb hr hlocks (Nat.le_of_ble_eq_true rfl) (Nat.le_of_ble_eq_true rfl) hM hS dX6_put_88 (⟨rfl, by rw [znP, if_neg t_0, if_pos t_e]⟩)
  by_cases t_2 : k = (2 : Int32)
  · have t_e : k = (2 : Int32) := t_2
    refine lv_tableIn (tgt := 56) (off := 55) hx hb dX6_put_1 (by rw [t_e]; decide) (by rw [t_e]; decide) (by rw [t_e]; rfl) (by decide) ?_
    refine lv_aload_n hx hb dX6_put_56 rfl (lv_at hl 0 rfl) ?_
    refine lv_iload_n hx hb dX6_put_57 rfl (lv_at hl 2 rfl) ?_
    refine mp_put (D := G.1) (C := RX6) (T := TX6) (N := 6) (ci := 7) hx hb hts hin_wsX60 tyX6 tyX6_ok nmX6 hown hC.1 hM hS ha rfl 2 (by decide) fl_18 (fun _ z => z) rfl rfl rfl (Nat.le_of_ble_eq_true rfl) dX6_put_58 (fs' := zn_fs (upd v 2 w)) rfl (fun H locs hM hS => ?_)
    have hM : mp_P G.1 A (mp_set M kn (aq, .inr (7, zn_fs (upd v 2 w)))) H := hM
    refine lv_goto (tgt := 88) hx hb dX6_put_61 (by decide) ?_
    exact mp_vret hx hb hr hlocks (Nat.le_of_ble_eq_true rfl) (Nat.le_of_ble_eq_true rfl) hM hS dX6_put_88 (⟨rfl, by rw [znP, if_neg t_0, if_neg t_1, if_pos t_e]⟩)
  by_cases t_3 : k = (3 : Int32)
  · have t_e : k = (3 : Int32) := t_3
    refine lv_tableIn (tgt := 64) (off := 63) hx hb dX6_put_1 (by rw [t_e]; decide) (by rw [t_e]; decide) (by rw [t_e]; rfl) (by decide) ?_
    refine lv_aload_n hx hb dX6_put_64 rfl (lv_at hl 0 rfl) ?_
    refine lv_iload_n hx hb dX6_put_65 rfl (lv_at hl 2 rfl) ?_
    refine mp_put (D := G.1) (C := RX6) (T := TX6) (N := 6) (ci := 7) hx hb hts hin_wsX60 tyX6 tyX6_ok nmX6 hown hC.1 hM hS ha rfl 3 (by decide) fl_21 (fun _ z => z) rfl rfl rfl (Nat.le_of_ble_eq_true rfl) dX6_put_66 (fs' := zn_fs (upd v 3 w)) rfl (fun H locs hM hS => ?_)
    have hM : mp_P G.1 A (mp_set M kn (aq, .inr (7, zn_fs (upd v 3 w)))) H := hM
    refine lv_goto (tgt := 88) hx hb dX6_put_69 (by decide) ?_
    exact mp_vret hx hb hr hlocks (Nat.le_of_ble_eq_true rfl) (Nat.le_of_ble_eq_true rfl) hM hS dX6_put_88 (⟨rfl, by rw [znP, if_neg t_0, if_neg t_1, if_neg t_2, if_pos t_e]⟩)
  by_cases t_4 : k = (4 : Int32)
  · have t_e : k = (4 : Int32) := t_4
    refine lv_tableIn (tgt := 72) (off := 71) hx hb dX6_put_1 (by rw [t_e]; decide) (by rw [t_e]; decide) (by rw [t_e]; rfl) (by decide) ?_
    refine lv_aload_n hx hb dX6_put_72 rfl (lv_at hl 0 rfl) ?_
    refine lv_iload_n hx hb dX6_put_73 rfl (lv_at hl 2 rfl) ?_
    refine mp_put (D := G.1) (C := RX6) (T := TX6) (N := 6) (ci := 7) hx hb hts hin_wsX60 tyX6 tyX6_ok nmX6 hown hC.1 hM hS ha rfl 4 (by decide) fl_24 (fun _ z => z) rfl rfl rfl (Nat.le_of_ble_eq_true rfl) dX6_put_74 (fs' := zn_fs (upd v 4 w)) rfl (fun H locs hM hS => ?_)
    have hM : mp_P G.1 A (mp_set M kn (aq, .inr (7, zn_fs (upd v 4 w)))) H := hM
    refine lv_goto (tgt := 88) hx hb dX6_put_77 (by decide) ?_
    exact mp_vret hx hb hr hlocks (Nat.le_of_ble_eq_true rfl) (Nat.le_of_ble_eq_true rfl) hM hS dX6_put_88 (⟨rfl, by rw [znP, if_neg t_0, if_neg t_1, if_neg t_2, if_neg t_3, if_pos t_e]⟩)
  by_cases t_5 : k = (5 : Int32)
  · have t_e : k = (5 : Int32) := t_5
    refine lv_tableIn (tgt := 80) (off := 79) hx hb dX6_put_1 (by rw [t_e]; decide) (by rw [t_e]; decide) (by rw [t_e]; rfl) (by decide) ?_
    refine lv_aload_n hx hb dX6_put_80 rfl (lv_at hl 0 rfl) ?_
    refine lv_iload_n hx hb dX6_put_81 rfl (lv_at hl 2 rfl) ?_
    refine mp_put (D := G.1) (C := RX6) (T := TX6) (N := 6) (ci := 7) hx hb hts hin_wsX60 tyX6 tyX6_ok nmX6 hown hC.1 hM hS ha rfl 5 (by decide) fl_27 (fun _ z => z) rfl rfl rfl (Nat.le_of_ble_eq_true rfl) dX6_put_82 (fs' := zn_fs (upd v 5 w)) rfl (fun H locs hM hS => ?_)
    have hM : mp_P G.1 A (mp_set M kn (aq, .inr (7, zn_fs (upd v 5 w)))) H := hM
    refine lv_goto (tgt := 88) hx hb dX6_put_85 (by decide) ?_
    exact mp_vret hx hb hr hlocks (Nat.le_of_ble_eq_true rfl) (Nat.le_of_ble_eq_true rfl) hM hS dX6_put_88 (⟨rfl, by rw [znP, if_neg t_0, if_neg t_1, if_neg t_2, if_neg t_3, if_neg t_4, if_pos t_e]⟩)
  refine lv_tableOut (tgt := 88) hx hb dX6_put_1 (by have u_0 := lv_neT t_0 (a := 0) rfl; have u_1 := lv_neT t_1 (a := 1) rfl; have u_2 := lv_neT t_2 (a := 2) rfl; have u_3 := lv_neT t_3 (a := 3) rfl; have u_4 := lv_neT t_4 (a := 4) rfl; have u_5 := lv_neT t_5 (a := 5) rfl; omega) (by decide) ?_
  exact mp_vret hx hb hr hlocks (Nat.le_of_ble_eq_true rfl) (Nat.le_of_ble_eq_true rfl) hM hS dX6_put_88 (⟨rfl, by rw [znP, if_neg t_0, if_neg t_1, if_neg t_2, if_neg t_3, if_neg t_4, if_neg t_5]; exact (mp_set_same ha).symm⟩)
abbrev rmX0_hasObjected : Room := { frames := 2, cells := 0, slots := 0, locals := 42 }
set_option maxHeartbeats 4000000 in
set_option maxRecDepth 100000 in
theorem c_X0_hasObjected (l : Launch) (X : mp_X) (G : mp_G) (A : Nat → Prop) (M : mp_M) (aq dq : Nat) (v : Nat → Int32) (ha : AppAt M aq dq v) (q : Int32) : mp_Met l X G A yX0_hasObjected wsX0_hasObjected rmX0_hasObjected ([.ref aq, .int q] : List Value) M (fun r M1 => r = some (.int (bI (pB (¬ v 3 &&& btO q = 0)))) ∧ M1 = M) 0 0 := by
  refine mp_ofW (cc := cX0_hasObjected) (maxL := 2) (ret := (some .boolean)) (by decide) rfl (Nat.le_of_ble_eq_true rfl) ?_
  intro p e s m below meth c ls hx hb hr hts hown hlocks hnm hml hC hM hS hl
  have hl : lv_has ls 2 [(0, .ref aq), (1, .int q)] := hl
  have hown : s.vm.findClass RX0 = some m.cls := hown
  have hin_wsX00 : ∀ w ∈ wsX00, w ∈ wsX0_hasObjected := fun _ h => List.mem_cons_of_mem _ (List.mem_append_right _ h)
  have fl_15 := hts (.fieldLink RX0 15 "PlanningBench$Application" "objectors" "I") (List.mem_of_getElem? (i := 1) rfl)
  obtain ⟨k1, hA1⟩ := id ha
  refine lv_aload_n hx hb dX0_hasObjected_0 rfl (lv_at hl 0 rfl) ?_
  refine va_get (D := G.1) (C := RX0) (T := TX0) (N := 12) (ci := 1) hx hb hts hin_wsX00 hown hC.1 (hM.one hA1) 0 rfl rfl 3 (by decide) fl_15 (fun _ z => z) rfl dX0_hasObjected_1 ?_
  refine lv_iload_n hx hb dX0_hasObjected_4 rfl (lv_at hl 1 rfl) ?_
  refine mp_calli (va_runS (As := [.int q]) (rest := [.int (v 3)]) ⟨hx, hb, hml, hown, hts⟩ (c_X6_bitOf l X G A (M) q) (va_cwS 1 hts gX0_hasObjected_X6_bitOf rfl rfl rfl (by decide +kernel) ⟨Nat.le_of_ble_eq_true rfl, Nat.le_of_ble_eq_true rfl⟩) (mp_preS hC hS hM) rfl rfl hl.1 rfl (lv_room (Nat.le_of_ble_eq_true rfl)) dX0_hasObjected_5 ⟨Nat.le_of_ble_eq_true rfl, Nat.le_of_ble_eq_true rfl⟩) hS (fun H locs hM hS => ?_)
  refine lv_iand hx hb dX0_hasObjected_8 ?_
  refine lv_if_eq (tgt := 16) hx hb dX0_hasObjected_9 (by decide) (fun c1 => ?_) (fun c1 => ?_)
  · have c1 := c1
    refine lv_iconst (v := (0 : Int32)) hx hb dX0_hasObjected_16 (by decide) ?_
    exact mp_zret hx hb hr hlocks (Nat.le_of_ble_eq_true rfl) (Nat.le_of_ble_eq_true rfl) hM hS dX0_hasObjected_17 (by first | rfl | exact bI_nar _) (⟨b0 (fun z => z c1), rfl⟩)
  · have c1 := c1
    refine lv_iconst (v := (1 : Int32)) hx hb dX0_hasObjected_12 (by decide) ?_
    refine lv_goto (tgt := 17) hx hb dX0_hasObjected_13 (by decide) ?_
    exact mp_zret hx hb hr hlocks (Nat.le_of_ble_eq_true rfl) (Nat.le_of_ble_eq_true rfl) hM hS dX0_hasObjected_17 (by first | rfl | exact bI_nar _) (⟨b1 c1, rfl⟩)
abbrev rmX0_lastDayToObject : Room := { frames := 0, cells := 0, slots := 0, locals := 0 }
set_option maxHeartbeats 4000000 in
set_option maxRecDepth 100000 in
theorem c_X0_lastDayToObject (l : Launch) (X : mp_X) (G : mp_G) (A : Nat → Prop) (M : mp_M) (aq dq : Nat) (v : Nat → Int32) (ha : AppAt M aq dq v) : mp_Met l X G A yX0_lastDayToObject wsX0_lastDayToObject rmX0_lastDayToObject ([.ref aq] : List Value) M (fun r M1 => r = some (.int (v 1 + 30)) ∧ M1 = M) 0 0 := by
  refine mp_ofW (cc := cX0_lastDayToObject) (maxL := 1) (ret := (some .int)) (by decide) rfl (Nat.le_of_ble_eq_true rfl) ?_
  intro p e s m below meth c ls hx hb hr hts hown hlocks hnm hml hC hM hS hl
  have hl : lv_has ls 1 [(0, .ref aq)] := hl
  have hown : s.vm.findClass RX0 = some m.cls := hown
  have hin_wsX00 : ∀ w ∈ wsX00, w ∈ wsX0_lastDayToObject := fun _ h => List.mem_cons_of_mem _ (List.mem_append_right _ h)
  have fl_47 := hts (.fieldLink RX0 47 "PlanningBench$Application" "day" "I") (List.mem_of_getElem? (i := 1) rfl)
  obtain ⟨k1, hA1⟩ := id ha
  refine lv_aload_n hx hb dX0_lastDayToObject_0 rfl (lv_at hl 0 rfl) ?_
  refine va_get (D := G.1) (C := RX0) (T := TX0) (N := 12) (ci := 1) hx hb hts hin_wsX00 hown hC.1 (hM.one hA1) 0 rfl rfl 1 (by decide) fl_47 (fun _ z => z) rfl dX0_lastDayToObject_1 ?_
  refine lv_bipush (v := (30 : Int32)) hx hb dX0_lastDayToObject_4 (by decide) ?_
  refine lv_iadd hx hb dX0_lastDayToObject_6 ?_
  exact mp_iret hx hb hr hlocks (Nat.le_of_ble_eq_true rfl) (Nat.le_of_ble_eq_true rfl) hM hS dX0_lastDayToObject_7 (⟨rfl, rfl⟩)
abbrev rmX0_addObjection : Room := { frames := 2, cells := 0, slots := 0, locals := 42 }
set_option maxHeartbeats 4000000 in
set_option maxRecDepth 100000 in
theorem c_X0_addObjection (l : Launch) (X : mp_X) (G : mp_G) (A : Nat → Prop) (M : mp_M) (aq dq : Nat) (v : Nat → Int32) (kn : mp_N) (ha : M kn = some (aq, .inr (1, ap_fs dq v))) (q w : Int32) : mp_Met l X G A yX0_addObjection wsX0_addObjection rmX0_addObjection ([.ref aq, .int q, .int w] : List Value) M (fun r M1 => r = none ∧ M1 = mp_set M kn (aq, .inr (1, ap_fs dq (upd (upd v 3 (v 3 ||| btO q)) 4 (v 4 + w))))) 0 0 := by
  refine mp_ofW (cc := cX0_addObjection) (maxL := 3) (ret := none) (by decide) rfl (Nat.le_of_ble_eq_true rfl) ?_
  intro p e s m below meth c ls hx hb hr hts hown hlocks hnm hml hC hM hS hl
  have hl : lv_has ls 3 [(0, .ref aq), (1, .int q), (2, .int w)] := hl
  have hown : s.vm.findClass RX0 = some m.cls := hown
  have hin_wsX00 : ∀ w ∈ wsX00, w ∈ wsX0_addObjection := fun _ h => List.mem_cons_of_mem _ (List.mem_append_right _ h)
  have fl_15 := hts (.fieldLink RX0 15 "PlanningBench$Application" "objectors" "I") (List.mem_of_getElem? (i := 1) rfl)
  have fl_18 := hts (.fieldLink RX0 18 "PlanningBench$Application" "weight" "I") (List.mem_of_getElem? (i := 2) rfl)
  refine lv_aload_n hx hb dX0_addObjection_0 rfl (lv_at hl 0 rfl) ?_
  refine lv_dup hx hb dX0_addObjection_1 rfl ?_
  refine va_get (D := G.1) (C := RX0) (T := TX0) (N := 12) (ci := 1) hx hb hts hin_wsX00 hown hC.1 (hM.one ha) 0 rfl rfl 3 (by decide) fl_15 (fun _ z => z) rfl dX0_addObjection_2 ?_
  refine lv_iload_n hx hb dX0_addObjection_5 rfl (lv_at hl 1 rfl) ?_
  refine mp_calli (va_runS (As := [.int q]) (rest := [.int (v 3), .ref aq]) ⟨hx, hb, hml, hown, hts⟩ (c_X6_bitOf l X G A (M) q) (va_cwS 1 hts gX0_addObjection_X6_bitOf rfl rfl rfl (by decide +kernel) ⟨Nat.le_of_ble_eq_true rfl, Nat.le_of_ble_eq_true rfl⟩) (mp_preS hC hS hM) rfl rfl hl.1 rfl (lv_room (Nat.le_of_ble_eq_true rfl)) dX0_addObjection_6 ⟨Nat.le_of_ble_eq_true rfl, Nat.le_of_ble_eq_true rfl⟩) hS (fun H locs hM hS => ?_)
  refine lv_ior hx hb dX0_addObjection_9 ?_
  refine mp_put (D := G.1) (C := RX0) (T := TX0) (N := 12) (ci := 1) hx hb hts hin_wsX00 tyX0 tyX0_ok nmX0 hown hC.1 hM hS ha rfl 3 (by decide) fl_15 (fun _ z => z) rfl rfl rfl (Nat.le_of_ble_eq_true rfl) dX0_addObjection_10 (fs' := ap_fs dq (upd v 3 ((v 3) ||| (btO q)))) rfl (fun H locs hM hS => ?_)
  have hM : mp_P G.1 A (mp_set M kn (aq, .inr (1, ap_fs dq (upd v 3 ((v 3) ||| (btO q)))))) H := hM
  refine lv_aload_n hx hb dX0_addObjection_13 rfl (lv_at hl 0 rfl) ?_
  refine lv_dup hx hb dX0_addObjection_14 rfl ?_
  refine va_get (D := G.1) (C := RX0) (T := TX0) (N := 12) (ci := 1) hx hb hts hin_wsX00 hown hC.1 (hM.one (mp_set_s _ _ _)) 0 rfl rfl 4 (by decide) fl_18 (fun _ z => z) rfl dX0_addObjection_15 ?_
  refine lv_iload_n hx hb dX0_addObjection_18 rfl (lv_at hl 2 rfl) ?_
  refine lv_iadd hx hb dX0_addObjection_19 ?_
  refine mp_put (D := G.1) (C := RX0) (T := TX0) (N := 12) (ci := 1) hx hb hts hin_wsX00 tyX0 tyX0_ok nmX0 hown hC.1 hM hS (mp_set_s _ _ _) rfl 4 (by decide) fl_18 (fun _ z => z) rfl rfl rfl (Nat.le_of_ble_eq_true rfl) dX0_addObjection_20 (fs' := ap_fs dq (upd (upd v 3 ((v 3) ||| (btO q))) 4 ((v 4) + w))) rfl (fun H locs hM hS => ?_)
  rw [mp_set_set] at hM
  have hM : mp_P G.1 A (mp_set M kn (aq, .inr (1, ap_fs dq (upd (upd v 3 ((v 3) ||| (btO q))) 4 ((v 4) + w))))) H := hM
  exact mp_vret hx hb hr hlocks (Nat.le_of_ble_eq_true rfl) (Nat.le_of_ble_eq_true rfl) hM hS dX0_addObjection_23 (⟨rfl, rfl⟩)
abbrev rmX0_permit : Room := { frames := 0, cells := 0, slots := 0, locals := 0 }
set_option maxHeartbeats 4000000 in
set_option maxRecDepth 100000 in
theorem c_X0_permit (l : Launch) (X : mp_X) (G : mp_G) (A : Nat → Prop) (M : mp_M) (aq dq : Nat) (v : Nat → Int32) (kn : mp_N) (ha : M kn = some (aq, .inr (1, ap_fs dq v))) (td : Int32) : mp_Met l X G A yX0_permit wsX0_permit rmX0_permit ([.ref aq, .int td] : List Value) M (fun r M1 => r = none ∧ M1 = mp_set M kn (aq, .inr (1, ap_fs dq (upd (upd v 2 1) 6 td)))) 0 0 := by
  refine mp_ofW (cc := cX0_permit) (maxL := 2) (ret := none) (by decide) rfl (Nat.le_of_ble_eq_true rfl) ?_
  intro p e s m below meth c ls hx hb hr hts hown hlocks hnm hml hC hM hS hl
  have hl : lv_has ls 2 [(0, .ref aq), (1, .int td)] := hl
  have hown : s.vm.findClass RX0 = some m.cls := hown
  have hin_wsX00 : ∀ w ∈ wsX00, w ∈ wsX0_permit := fun _ h => List.mem_cons_of_mem _ (List.mem_append_right _ h)
  have fl_9 := hts (.fieldLink RX0 9 "PlanningBench$Application" "state" "I") (List.mem_of_getElem? (i := 1) rfl)
  have fl_24 := hts (.fieldLink RX0 24 "PlanningBench$Application" "decidedDay" "I") (List.mem_of_getElem? (i := 2) rfl)
  refine lv_aload_n hx hb dX0_permit_0 rfl (lv_at hl 0 rfl) ?_
  refine lv_iconst (v := (1 : Int32)) hx hb dX0_permit_1 (by decide) ?_
  refine mp_put (D := G.1) (C := RX0) (T := TX0) (N := 12) (ci := 1) hx hb hts hin_wsX00 tyX0 tyX0_ok nmX0 hown hC.1 hM hS ha rfl 2 (by decide) fl_9 (fun _ z => z) rfl rfl rfl (Nat.le_of_ble_eq_true rfl) dX0_permit_2 (fs' := ap_fs dq (upd v 2 (1 : Int32))) rfl (fun H locs hM hS => ?_)
  have hM : mp_P G.1 A (mp_set M kn (aq, .inr (1, ap_fs dq (upd v 2 (1 : Int32))))) H := hM
  refine lv_aload_n hx hb dX0_permit_5 rfl (lv_at hl 0 rfl) ?_
  refine lv_iload_n hx hb dX0_permit_6 rfl (lv_at hl 1 rfl) ?_
  refine mp_put (D := G.1) (C := RX0) (T := TX0) (N := 12) (ci := 1) hx hb hts hin_wsX00 tyX0 tyX0_ok nmX0 hown hC.1 hM hS (mp_set_s _ _ _) rfl 6 (by decide) fl_24 (fun _ z => z) rfl rfl rfl (Nat.le_of_ble_eq_true rfl) dX0_permit_7 (fs' := ap_fs dq (upd (upd v 2 (1 : Int32)) 6 td)) rfl (fun H locs hM hS => ?_)
  rw [mp_set_set] at hM
  have hM : mp_P G.1 A (mp_set M kn (aq, .inr (1, ap_fs dq (upd (upd v 2 (1 : Int32)) 6 td)))) H := hM
  exact mp_vret hx hb hr hlocks (Nat.le_of_ble_eq_true rfl) (Nat.le_of_ble_eq_true rfl) hM hS dX0_permit_10 (⟨rfl, rfl⟩)
abbrev rmX0_refuse : Room := { frames := 0, cells := 0, slots := 0, locals := 0 }
set_option maxHeartbeats 4000000 in
set_option maxRecDepth 100000 in
theorem c_X0_refuse (l : Launch) (X : mp_X) (G : mp_G) (A : Nat → Prop) (M : mp_M) (aq dq : Nat) (v : Nat → Int32) (kn : mp_N) (ha : M kn = some (aq, .inr (1, ap_fs dq v))) (w td : Int32) : mp_Met l X G A yX0_refuse wsX0_refuse rmX0_refuse ([.ref aq, .int w, .int td] : List Value) M (fun r M1 => r = none ∧ M1 = mp_set M kn (aq, .inr (1, ap_fs dq (upd (upd (upd v 2 2) 5 w) 6 td)))) 0 0 := by
  refine mp_ofW (cc := cX0_refuse) (maxL := 3) (ret := none) (by decide) rfl (Nat.le_of_ble_eq_true rfl) ?_
  intro p e s m below meth c ls hx hb hr hts hown hlocks hnm hml hC hM hS hl
  have hl : lv_has ls 3 [(0, .ref aq), (1, .int w), (2, .int td)] := hl
  have hown : s.vm.findClass RX0 = some m.cls := hown
  have hin_wsX00 : ∀ w ∈ wsX00, w ∈ wsX0_refuse := fun _ h => List.mem_cons_of_mem _ (List.mem_append_right _ h)
  have fl_9 := hts (.fieldLink RX0 9 "PlanningBench$Application" "state" "I") (List.mem_of_getElem? (i := 1) rfl)
  have fl_21 := hts (.fieldLink RX0 21 "PlanningBench$Application" "refusedBy" "I") (List.mem_of_getElem? (i := 2) rfl)
  have fl_24 := hts (.fieldLink RX0 24 "PlanningBench$Application" "decidedDay" "I") (List.mem_of_getElem? (i := 3) rfl)
  refine lv_aload_n hx hb dX0_refuse_0 rfl (lv_at hl 0 rfl) ?_
  refine lv_iconst (v := (2 : Int32)) hx hb dX0_refuse_1 (by decide) ?_
  refine mp_put (D := G.1) (C := RX0) (T := TX0) (N := 12) (ci := 1) hx hb hts hin_wsX00 tyX0 tyX0_ok nmX0 hown hC.1 hM hS ha rfl 2 (by decide) fl_9 (fun _ z => z) rfl rfl rfl (Nat.le_of_ble_eq_true rfl) dX0_refuse_2 (fs' := ap_fs dq (upd v 2 (2 : Int32))) rfl (fun H locs hM hS => ?_)
  have hM : mp_P G.1 A (mp_set M kn (aq, .inr (1, ap_fs dq (upd v 2 (2 : Int32))))) H := hM
  refine lv_aload_n hx hb dX0_refuse_5 rfl (lv_at hl 0 rfl) ?_
  refine lv_iload_n hx hb dX0_refuse_6 rfl (lv_at hl 1 rfl) ?_
  refine mp_put (D := G.1) (C := RX0) (T := TX0) (N := 12) (ci := 1) hx hb hts hin_wsX00 tyX0 tyX0_ok nmX0 hown hC.1 hM hS (mp_set_s _ _ _) rfl 5 (by decide) fl_21 (fun _ z => z) rfl rfl rfl (Nat.le_of_ble_eq_true rfl) dX0_refuse_7 (fs' := ap_fs dq (upd (upd v 2 (2 : Int32)) 5 w)) rfl (fun H locs hM hS => ?_)
  rw [mp_set_set] at hM
  have hM : mp_P G.1 A (mp_set M kn (aq, .inr (1, ap_fs dq (upd (upd v 2 (2 : Int32)) 5 w)))) H := hM
  refine lv_aload_n hx hb dX0_refuse_10 rfl (lv_at hl 0 rfl) ?_
  refine lv_iload_n hx hb dX0_refuse_11 rfl (lv_at hl 2 rfl) ?_
  refine mp_put (D := G.1) (C := RX0) (T := TX0) (N := 12) (ci := 1) hx hb hts hin_wsX00 tyX0 tyX0_ok nmX0 hown hC.1 hM hS (mp_set_s _ _ _) rfl 6 (by decide) fl_24 (fun _ z => z) rfl rfl rfl (Nat.le_of_ble_eq_true rfl) dX0_refuse_12 (fs' := ap_fs dq (upd (upd (upd v 2 (2 : Int32)) 5 w) 6 td)) rfl (fun H locs hM hS => ?_)
  rw [mp_set_set] at hM
  have hM : mp_P G.1 A (mp_set M kn (aq, .inr (1, ap_fs dq (upd (upd (upd v 2 (2 : Int32)) 5 w) 6 td)))) H := hM
  exact mp_vret hx hb hr hlocks (Nat.le_of_ble_eq_true rfl) (Nat.le_of_ble_eq_true rfl) hM hS dX0_refuse_15 (⟨rfl, rfl⟩)
abbrev rmX0_mayBeAppealed : Room := { frames := 0, cells := 0, slots := 0, locals := 0 }
set_option maxHeartbeats 4000000 in
set_option maxRecDepth 100000 in
theorem c_X0_mayBeAppealed (l : Launch) (X : mp_X) (G : mp_G) (A : Nat → Prop) (M : mp_M) (aq dq : Nat) (v : Nat → Int32) (ha : AppAt M aq dq v) (td : Int32) : mp_Met l X G A yX0_mayBeAppealed wsX0_mayBeAppealed rmX0_mayBeAppealed ([.ref aq, .int td] : List Value) M (fun r M1 => r = some (.int (bI (pB (v 2 = 2 ∧ v 9 = 0 ∧ td ≤ v 6 + 60)))) ∧ M1 = M) 0 0 := by
  refine mp_ofW (cc := cX0_mayBeAppealed) (maxL := 2) (ret := (some .boolean)) (by decide) rfl (Nat.le_of_ble_eq_true rfl) ?_
  intro p e s m below meth c ls hx hb hr hts hown hlocks hnm hml hC hM hS hl
  have hl : lv_has ls 2 [(0, .ref aq), (1, .int td)] := hl
  have hown : s.vm.findClass RX0 = some m.cls := hown
  have hin_wsX00 : ∀ w ∈ wsX00, w ∈ wsX0_mayBeAppealed := fun _ h => List.mem_cons_of_mem _ (List.mem_append_right _ h)
  have fl_9 := hts (.fieldLink RX0 9 "PlanningBench$Application" "state" "I") (List.mem_of_getElem? (i := 1) rfl)
  have fl_33 := hts (.fieldLink RX0 33 "PlanningBench$Application" "appealed" "Z") (List.mem_of_getElem? (i := 2) rfl)
  have fl_24 := hts (.fieldLink RX0 24 "PlanningBench$Application" "decidedDay" "I") (List.mem_of_getElem? (i := 3) rfl)
  obtain ⟨k1, hA1⟩ := id ha
  refine lv_aload_n hx hb dX0_mayBeAppealed_0 rfl (lv_at hl 0 rfl) ?_
  refine va_get (D := G.1) (C := RX0) (T := TX0) (N := 12) (ci := 1) hx hb hts hin_wsX00 hown hC.1 (hM.one hA1) 0 rfl rfl 2 (by decide) fl_9 (fun _ z => z) rfl dX0_mayBeAppealed_1 ?_
  refine lv_iconst (v := (2 : Int32)) hx hb dX0_mayBeAppealed_4 (by decide) ?_
  refine lv_icmp_ne (tgt := 30) hx hb dX0_mayBeAppealed_5 (by decide) (fun c1 => ?_) (fun c1 => ?_)
  · have c1 := c1
    refine lv_iconst (v := (0 : Int32)) hx hb dX0_mayBeAppealed_30 (by decide) ?_
    exact mp_zret hx hb hr hlocks (Nat.le_of_ble_eq_true rfl) (Nat.le_of_ble_eq_true rfl) hM hS dX0_mayBeAppealed_31 (by first | rfl | exact bI_nar _) (⟨b0 (fun z => c1 z.1), rfl⟩)
  · have c1 := c1
    refine lv_aload_n hx hb dX0_mayBeAppealed_8 rfl (lv_at hl 0 rfl) ?_
    refine va_get (D := G.1) (C := RX0) (T := TX0) (N := 12) (ci := 1) hx hb hts hin_wsX00 hown hC.1 (hM.one hA1) 0 rfl rfl 9 (by decide) fl_33 (fun _ z => z) rfl dX0_mayBeAppealed_9 ?_
    refine lv_if_ne (tgt := 30) hx hb dX0_mayBeAppealed_12 (by decide) (fun c3 => ?_) (fun c3 => ?_)
    · have c3 := c3
      refine lv_iconst (v := (0 : Int32)) hx hb dX0_mayBeAppealed_30 (by decide) ?_
      exact mp_zret hx hb hr hlocks (Nat.le_of_ble_eq_true rfl) (Nat.le_of_ble_eq_true rfl) hM hS dX0_mayBeAppealed_31 (by first | rfl | exact bI_nar _) (⟨b0 (fun z => c3 z.2.1), rfl⟩)
    · have c3 := c3
      refine lv_iload_n hx hb dX0_mayBeAppealed_15 rfl (lv_at hl 1 rfl) ?_
      refine lv_aload_n hx hb dX0_mayBeAppealed_16 rfl (lv_at hl 0 rfl) ?_
      refine va_get (D := G.1) (C := RX0) (T := TX0) (N := 12) (ci := 1) hx hb hts hin_wsX00 hown hC.1 (hM.one hA1) 0 rfl rfl 6 (by decide) fl_24 (fun _ z => z) rfl dX0_mayBeAppealed_17 ?_
      refine lv_bipush (v := (60 : Int32)) hx hb dX0_mayBeAppealed_20 (by decide) ?_
      refine lv_iadd hx hb dX0_mayBeAppealed_22 ?_
      refine lv_icmp_gt (tgt := 30) hx hb dX0_mayBeAppealed_23 (by decide) (fun c4 => ?_) (fun c4 => ?_)
      · have c4 := c4
        refine lv_iconst (v := (0 : Int32)) hx hb dX0_mayBeAppealed_30 (by decide) ?_
        exact mp_zret hx hb hr hlocks (Nat.le_of_ble_eq_true rfl) (Nat.le_of_ble_eq_true rfl) hM hS dX0_mayBeAppealed_31 (by first | rfl | exact bI_nar _) (⟨b0 (fun z => absurd z.2.2 (i_nle.mpr c4)), rfl⟩)
      · have c4 := c4
        refine lv_iconst (v := (1 : Int32)) hx hb dX0_mayBeAppealed_26 (by decide) ?_
        refine lv_goto (tgt := 31) hx hb dX0_mayBeAppealed_27 (by decide) ?_
        exact mp_zret hx hb hr hlocks (Nat.le_of_ble_eq_true rfl) (Nat.le_of_ble_eq_true rfl) hM hS dX0_mayBeAppealed_31 (by first | rfl | exact bI_nar _) (⟨b1 ⟨c1, c3, i_nlt.mp c4⟩, rfl⟩)
abbrev rmX0_stateOn : Room := { frames := 0, cells := 0, slots := 0, locals := 0 }
set_option maxHeartbeats 4000000 in
set_option maxRecDepth 100000 in
theorem c_X0_stateOn (l : Launch) (X : mp_X) (G : mp_G) (A : Nat → Prop) (M : mp_M) (aq dq : Nat) (v : Nat → Int32) (ha : AppAt M aq dq v) (td : Int32) : mp_Met l X G A yX0_stateOn wsX0_stateOn rmX0_stateOn ([.ref aq, .int td] : List Value) M (fun r M1 => r = some (.int (aH v td)) ∧ M1 = M) 0 0 := by
  refine mp_ofW (cc := cX0_stateOn) (maxL := 3) (ret := (some .int)) (by decide) rfl (Nat.le_of_ble_eq_true rfl) ?_
  intro p e s m below meth c ls hx hb hr hts hown hlocks hnm hml hC hM hS hl
  have hl : lv_has ls 3 [(0, .ref aq), (1, .int td)] := hl
  have hown : s.vm.findClass RX0 = some m.cls := hown
  have hin_wsX00 : ∀ w ∈ wsX00, w ∈ wsX0_stateOn := fun _ h => List.mem_cons_of_mem _ (List.mem_append_right _ h)
  have fl_9 := hts (.fieldLink RX0 9 "PlanningBench$Application" "state" "I") (List.mem_of_getElem? (i := 1) rfl)
  have fl_27 := hts (.fieldLink RX0 27 "PlanningBench$Application" "begunDay" "I") (List.mem_of_getElem? (i := 3) rfl)
  have fl_24 := hts (.fieldLink RX0 24 "PlanningBench$Application" "decidedDay" "I") (List.mem_of_getElem? (i := 2) rfl)
  obtain ⟨k1, hA1⟩ := id ha
  refine lv_aload_n hx hb dX0_stateOn_0 rfl (lv_at hl 0 rfl) ?_
  refine va_get (D := G.1) (C := RX0) (T := TX0) (N := 12) (ci := 1) hx hb hts hin_wsX00 hown hC.1 (hM.one hA1) 0 rfl rfl 2 (by decide) fl_9 (fun _ z => z) rfl dX0_stateOn_1 ?_
  refine lv_iconst (v := (1 : Int32)) hx hb dX0_stateOn_4 (by decide) ?_
  refine lv_icmp_ne (tgt := 20) hx hb dX0_stateOn_5 (by decide) (fun c1 => ?_) (fun c1 => ?_)
  · have c1 := c1
    refine lv_aload_n hx hb dX0_stateOn_20 rfl (lv_at hl 0 rfl) ?_
    refine va_get (D := G.1) (C := RX0) (T := TX0) (N := 12) (ci := 1) hx hb hts hin_wsX00 hown hC.1 (hM.one hA1) 0 rfl rfl 2 (by decide) fl_9 (fun _ z => z) rfl dX0_stateOn_21 ?_
    refine lv_iconst (v := (3 : Int32)) hx hb dX0_stateOn_24 (by decide) ?_
    refine lv_icmp_ne (tgt := 44) hx hb dX0_stateOn_25 (by decide) (fun c4 => ?_) (fun c4 => ?_)
    · have c4 := c4
      refine lv_iconst (v := (0 : Int32)) hx hb dX0_stateOn_44 (by decide) ?_
      refine lv_istore_n (lv' := [(2, .int (0 : Int32)), (0, .ref aq), (1, .int td)]) hx hb dX0_stateOn_45 rfl hl (by decide) rfl (fun ls hl => ?_)
      refine lv_iload_n hx hb dX0_stateOn_46 rfl (lv_at hl 0 rfl) ?_
      refine lv_if_eq (tgt := 54) hx hb dX0_stateOn_47 (by decide) (fun c_1 => ?_) (fun c_1 => ?_)
      · have c_1 := c_1
        refine lv_aload_n hx hb dX0_stateOn_54 rfl (lv_at hl 1 rfl) ?_
        refine va_get (D := G.1) (C := RX0) (T := TX0) (N := 12) (ci := 1) hx hb hts hin_wsX00 hown hC.1 (hM.one hA1) 0 rfl rfl 2 (by decide) fl_9 (fun _ z => z) rfl dX0_stateOn_55 ?_
        exact mp_iret hx hb hr hlocks (Nat.le_of_ble_eq_true rfl) (Nat.le_of_ble_eq_true rfl) hM hS dX0_stateOn_58 (⟨by rw [aH, pB_f (fun z => z.elim (fun z => c1 z.1) (fun z => c4 z.1))]; rfl, rfl⟩)
      · have c_1 := c_1
        exact absurd c_1 (by decide)
    · have c4 := c4
      refine lv_iload_n hx hb dX0_stateOn_28 rfl (lv_at hl 1 rfl) ?_
      refine lv_aload_n hx hb dX0_stateOn_29 rfl (lv_at hl 0 rfl) ?_
      refine va_get (D := G.1) (C := RX0) (T := TX0) (N := 12) (ci := 1) hx hb hts hin_wsX00 hown hC.1 (hM.one hA1) 0 rfl rfl 7 (by decide) fl_27 (fun _ z => z) rfl dX0_stateOn_30 ?_
      refine lv_sipush (v := (300 : Int32)) hx hb dX0_stateOn_33 (by decide) ?_
      refine lv_iadd hx hb dX0_stateOn_36 ?_
      refine lv_icmp_le (tgt := 44) hx hb dX0_stateOn_37 (by decide) (fun c5 => ?_) (fun c5 => ?_)
      · have c5 := c5
        refine lv_iconst (v := (0 : Int32)) hx hb dX0_stateOn_44 (by decide) ?_
        refine lv_istore_n (lv' := [(2, .int (0 : Int32)), (0, .ref aq), (1, .int td)]) hx hb dX0_stateOn_45 rfl hl (by decide) rfl (fun ls hl => ?_)
        refine lv_iload_n hx hb dX0_stateOn_46 rfl (lv_at hl 0 rfl) ?_
        refine lv_if_eq (tgt := 54) hx hb dX0_stateOn_47 (by decide) (fun c_2 => ?_) (fun c_2 => ?_)
        · have c_2 := c_2
          refine lv_aload_n hx hb dX0_stateOn_54 rfl (lv_at hl 1 rfl) ?_
          refine va_get (D := G.1) (C := RX0) (T := TX0) (N := 12) (ci := 1) hx hb hts hin_wsX00 hown hC.1 (hM.one hA1) 0 rfl rfl 2 (by decide) fl_9 (fun _ z => z) rfl dX0_stateOn_55 ?_
          exact mp_iret hx hb hr hlocks (Nat.le_of_ble_eq_true rfl) (Nat.le_of_ble_eq_true rfl) hM hS dX0_stateOn_58 (⟨by rw [aH, pB_f (fun z => z.elim (fun z => c1 z.1) (fun z => absurd c5 (i_nle.mpr z.2)))]; rfl, rfl⟩)
        · have c_2 := c_2
          exact absurd c_2 (by decide)
      · have c5 := c5
        refine lv_iconst (v := (1 : Int32)) hx hb dX0_stateOn_40 (by decide) ?_
        refine lv_goto (tgt := 45) hx hb dX0_stateOn_41 (by decide) ?_
        refine lv_istore_n (lv' := [(2, .int (1 : Int32)), (0, .ref aq), (1, .int td)]) hx hb dX0_stateOn_45 rfl hl (by decide) rfl (fun ls hl => ?_)
        refine lv_iload_n hx hb dX0_stateOn_46 rfl (lv_at hl 0 rfl) ?_
        refine lv_if_eq (tgt := 54) hx hb dX0_stateOn_47 (by decide) (fun c_3 => ?_) (fun c_3 => ?_)
        · have c_3 := c_3
          exact absurd c_3 (by decide)
        · have c_3 := c_3
          refine lv_iconst (v := (5 : Int32)) hx hb dX0_stateOn_50 (by decide) ?_
          refine lv_goto (tgt := 58) hx hb dX0_stateOn_51 (by decide) ?_
          exact mp_iret hx hb hr hlocks (Nat.le_of_ble_eq_true rfl) (Nat.le_of_ble_eq_true rfl) hM hS dX0_stateOn_58 (⟨by rw [aH, pB_t (Or.inr ⟨c4, i_nle.mp c5⟩)]; rfl, rfl⟩)
  · have c1 := c1
    refine lv_iload_n hx hb dX0_stateOn_8 rfl (lv_at hl 1 rfl) ?_
    refine lv_aload_n hx hb dX0_stateOn_9 rfl (lv_at hl 0 rfl) ?_
    refine va_get (D := G.1) (C := RX0) (T := TX0) (N := 12) (ci := 1) hx hb hts hin_wsX00 hown hC.1 (hM.one hA1) 0 rfl rfl 6 (by decide) fl_24 (fun _ z => z) rfl dX0_stateOn_10 ?_
    refine lv_sipush (v := (400 : Int32)) hx hb dX0_stateOn_13 (by decide) ?_
    refine lv_iadd hx hb dX0_stateOn_16 ?_
    refine lv_icmp_gt (tgt := 40) hx hb dX0_stateOn_17 (by decide) (fun c3 => ?_) (fun c3 => ?_)
    · have c3 := c3
      refine lv_iconst (v := (1 : Int32)) hx hb dX0_stateOn_40 (by decide) ?_
      refine lv_goto (tgt := 45) hx hb dX0_stateOn_41 (by decide) ?_
      refine lv_istore_n (lv' := [(2, .int (1 : Int32)), (0, .ref aq), (1, .int td)]) hx hb dX0_stateOn_45 rfl hl (by decide) rfl (fun ls hl => ?_)
      refine lv_iload_n hx hb dX0_stateOn_46 rfl (lv_at hl 0 rfl) ?_
      refine lv_if_eq (tgt := 54) hx hb dX0_stateOn_47 (by decide) (fun c_4 => ?_) (fun c_4 => ?_)
      · have c_4 := c_4
        exact absurd c_4 (by decide)
      · have c_4 := c_4
        refine lv_iconst (v := (5 : Int32)) hx hb dX0_stateOn_50 (by decide) ?_
        refine lv_goto (tgt := 58) hx hb dX0_stateOn_51 (by decide) ?_
        exact mp_iret hx hb hr hlocks (Nat.le_of_ble_eq_true rfl) (Nat.le_of_ble_eq_true rfl) hM hS dX0_stateOn_58 (⟨by rw [aH, pB_t (Or.inl ⟨c1, c3⟩)]; rfl, rfl⟩)
    · have c3 := c3
      refine lv_aload_n hx hb dX0_stateOn_20 rfl (lv_at hl 0 rfl) ?_
      refine va_get (D := G.1) (C := RX0) (T := TX0) (N := 12) (ci := 1) hx hb hts hin_wsX00 hown hC.1 (hM.one hA1) 0 rfl rfl 2 (by decide) fl_9 (fun _ z => z) rfl dX0_stateOn_21 ?_
      refine lv_iconst (v := (3 : Int32)) hx hb dX0_stateOn_24 (by decide) ?_
      refine lv_icmp_ne (tgt := 44) hx hb dX0_stateOn_25 (by decide) (fun c4 => ?_) (fun c4 => ?_)
      · have c4 := c4
        refine lv_iconst (v := (0 : Int32)) hx hb dX0_stateOn_44 (by decide) ?_
        refine lv_istore_n (lv' := [(2, .int (0 : Int32)), (0, .ref aq), (1, .int td)]) hx hb dX0_stateOn_45 rfl hl (by decide) rfl (fun ls hl => ?_)
        refine lv_iload_n hx hb dX0_stateOn_46 rfl (lv_at hl 0 rfl) ?_
        refine lv_if_eq (tgt := 54) hx hb dX0_stateOn_47 (by decide) (fun c_5 => ?_) (fun c_5 => ?_)
        · have c_5 := c_5
          refine lv_aload_n hx hb dX0_stateOn_54 rfl (lv_at hl 1 rfl) ?_
          refine va_get (D := G.1) (C := RX0) (T := TX0) (N := 12) (ci := 1) hx hb hts hin_wsX00 hown hC.1 (hM.one hA1) 0 rfl rfl 2 (by decide) fl_9 (fun _ z => z) rfl dX0_stateOn_55 ?_
          exact mp_iret hx hb hr hlocks (Nat.le_of_ble_eq_true rfl) (Nat.le_of_ble_eq_true rfl) hM hS dX0_stateOn_58 (⟨by rw [aH, pB_f (fun z => z.elim (fun z => c3 z.2) (fun z => c4 z.1))]; rfl, rfl⟩)
        · have c_5 := c_5
          exact absurd c_5 (by decide)
      · have c4 := c4
        refine lv_iload_n hx hb dX0_stateOn_28 rfl (lv_at hl 1 rfl) ?_
        refine lv_aload_n hx hb dX0_stateOn_29 rfl (lv_at hl 0 rfl) ?_
        refine va_get (D := G.1) (C := RX0) (T := TX0) (N := 12) (ci := 1) hx hb hts hin_wsX00 hown hC.1 (hM.one hA1) 0 rfl rfl 7 (by decide) fl_27 (fun _ z => z) rfl dX0_stateOn_30 ?_
        refine lv_sipush (v := (300 : Int32)) hx hb dX0_stateOn_33 (by decide) ?_
        refine lv_iadd hx hb dX0_stateOn_36 ?_
        refine lv_icmp_le (tgt := 44) hx hb dX0_stateOn_37 (by decide) (fun c5 => ?_) (fun c5 => ?_)
        · have c5 := c5
          refine lv_iconst (v := (0 : Int32)) hx hb dX0_stateOn_44 (by decide) ?_
          refine lv_istore_n (lv' := [(2, .int (0 : Int32)), (0, .ref aq), (1, .int td)]) hx hb dX0_stateOn_45 rfl hl (by decide) rfl (fun ls hl => ?_)
          refine lv_iload_n hx hb dX0_stateOn_46 rfl (lv_at hl 0 rfl) ?_
          refine lv_if_eq (tgt := 54) hx hb dX0_stateOn_47 (by decide) (fun c_6 => ?_) (fun c_6 => ?_)
          · have c_6 := c_6
            refine lv_aload_n hx hb dX0_stateOn_54 rfl (lv_at hl 1 rfl) ?_
            refine va_get (D := G.1) (C := RX0) (T := TX0) (N := 12) (ci := 1) hx hb hts hin_wsX00 hown hC.1 (hM.one hA1) 0 rfl rfl 2 (by decide) fl_9 (fun _ z => z) rfl dX0_stateOn_55 ?_
            exact mp_iret hx hb hr hlocks (Nat.le_of_ble_eq_true rfl) (Nat.le_of_ble_eq_true rfl) hM hS dX0_stateOn_58 (⟨by rw [aH, pB_f (fun z => z.elim (fun z => c3 z.2) (fun z => absurd c5 (i_nle.mpr z.2)))]; rfl, rfl⟩)
          · have c_6 := c_6
            exact absurd c_6 (by decide)
        · have c5 := c5
          refine lv_iconst (v := (1 : Int32)) hx hb dX0_stateOn_40 (by decide) ?_
          refine lv_goto (tgt := 45) hx hb dX0_stateOn_41 (by decide) ?_
          refine lv_istore_n (lv' := [(2, .int (1 : Int32)), (0, .ref aq), (1, .int td)]) hx hb dX0_stateOn_45 rfl hl (by decide) rfl (fun ls hl => ?_)
          refine lv_iload_n hx hb dX0_stateOn_46 rfl (lv_at hl 0 rfl) ?_
          refine lv_if_eq (tgt := 54) hx hb dX0_stateOn_47 (by decide) (fun c_7 => ?_) (fun c_7 => ?_)
          · have c_7 := c_7
            exact absurd c_7 (by decide)
          · have c_7 := c_7
            refine lv_iconst (v := (5 : Int32)) hx hb dX0_stateOn_50 (by decide) ?_
            refine lv_goto (tgt := 58) hx hb dX0_stateOn_51 (by decide) ?_
            exact mp_iret hx hb hr hlocks (Nat.le_of_ble_eq_true rfl) (Nat.le_of_ble_eq_true rfl) hM hS dX0_stateOn_58 (⟨by rw [aH, pB_t (Or.inr ⟨c4, i_nle.mp c5⟩)]; rfl, rfl⟩)
abbrev rmX0_lastDayToGoOn : Room := { frames := 1, cells := 0, slots := 0, locals := 22 }
set_option maxHeartbeats 4000000 in
set_option maxRecDepth 100000 in
theorem c_X0_lastDayToGoOn (l : Launch) (X : mp_X) (G : mp_G) (A : Nat → Prop) (M : mp_M) (aq dq : Nat) (v : Nat → Int32) (ha : AppAt M aq dq v) (td : Int32) : mp_Met l X G A yX0_lastDayToGoOn wsX0_lastDayToGoOn rmX0_lastDayToGoOn ([.ref aq, .int td] : List Value) M (fun r M1 => r = some (.int (aL v td)) ∧ M1 = M) 0 0 := by
  refine mp_ofW (cc := cX0_lastDayToGoOn) (maxL := 2) (ret := (some .int)) (by decide) rfl (Nat.le_of_ble_eq_true rfl) ?_
  intro p e s m below meth c ls hx hb hr hts hown hlocks hnm hml hC hM hS hl
  have hl : lv_has ls 2 [(0, .ref aq), (1, .int td)] := hl
  have hown : s.vm.findClass RX0 = some m.cls := hown
  have hin_wsX00 : ∀ w ∈ wsX00, w ∈ wsX0_lastDayToGoOn := fun _ h => List.mem_cons_of_mem _ (List.mem_append_right _ h)
  have fl_24 := hts (.fieldLink RX0 24 "PlanningBench$Application" "decidedDay" "I") (List.mem_of_getElem? (i := 1) rfl)
  have fl_33 := hts (.fieldLink RX0 33 "PlanningBench$Application" "appealed" "Z") (List.mem_of_getElem? (i := 3) rfl)
  have fl_27 := hts (.fieldLink RX0 27 "PlanningBench$Application" "begunDay" "I") (List.mem_of_getElem? (i := 2) rfl)
  obtain ⟨k1, hA1⟩ := id ha
  refine lv_aload_n hx hb dX0_lastDayToGoOn_0 rfl (lv_at hl 0 rfl) ?_
  refine lv_iload_n hx hb dX0_lastDayToGoOn_1 rfl (lv_at hl 1 rfl) ?_
  refine mp_calli (va_runV (As := [.int td]) (rest := []) ⟨hx, hb, hml, hown, hts⟩ (c_X0_stateOn l X G A M aq dq v ha td) (cwV 1 hts gX0_lastDayToGoOn_X0_stateOn rfl rfl rfl (by decide +kernel) ⟨Nat.le_of_ble_eq_true rfl, Nat.le_of_ble_eq_true rfl⟩) (mp_preV hC hS hM (mp_recv hC.1 hM hA1 (r := (RX0, TX0, 12)) rfl)) rfl rfl hl.1 rfl (lv_room (Nat.le_of_ble_eq_true rfl)) dX0_lastDayToGoOn_2 ⟨Nat.le_of_ble_eq_true rfl, Nat.le_of_ble_eq_true rfl⟩) hS (fun H locs hM hS => ?_)
  by_cases t_0 : (aH v td) = (0 : Int32)
  · have t_e : aH v td = (0 : Int32) := t_0
    refine lv_tableIn (tgt := 36) (off := 31) hx hb dX0_lastDayToGoOn_5 (by rw [t_e]; decide) (by rw [t_e]; decide) (by rw [t_e]; rfl) (by decide) ?_
    refine lv_aload_n hx hb dX0_lastDayToGoOn_36 rfl (lv_at hl 0 rfl) ?_
    refine mp_calli (va_runV (As := []) (rest := []) ⟨hx, hb, hml, hown, hts⟩ (c_X0_lastDayToObject l X G A M aq dq v ha) (cwV 0 hts gX0_lastDayToGoOn_X0_lastDayToObject rfl rfl rfl (by decide +kernel) ⟨Nat.le_of_ble_eq_true rfl, Nat.le_of_ble_eq_true rfl⟩) (mp_preV hC hS hM (mp_recv hC.1 hM hA1 (r := (RX0, TX0, 12)) rfl)) rfl rfl hl.1 rfl (lv_room (Nat.le_of_ble_eq_true rfl)) dX0_lastDayToGoOn_37 ⟨Nat.le_of_ble_eq_true rfl, Nat.le_of_ble_eq_true rfl⟩) hS (fun H locs hM hS => ?_)
    exact mp_iret hx hb hr hlocks (Nat.le_of_ble_eq_true rfl) (Nat.le_of_ble_eq_true rfl) hM hS dX0_lastDayToGoOn_40 (⟨by rw [aL, if_pos t_e], rfl⟩)
  by_cases t_1 : (aH v td) = (1 : Int32)
  · have t_e : aH v td = (1 : Int32) := t_1
    refine lv_tableIn (tgt := 41) (off := 36) hx hb dX0_lastDayToGoOn_5 (by rw [t_e]; decide) (by rw [t_e]; decide) (by rw [t_e]; rfl) (by decide) ?_
    refine lv_aload_n hx hb dX0_lastDayToGoOn_41 rfl (lv_at hl 0 rfl) ?_
    refine va_get (D := G.1) (C := RX0) (T := TX0) (N := 12) (ci := 1) hx hb hts hin_wsX00 hown hC.1 (hM.one hA1) 0 rfl rfl 6 (by decide) fl_24 (fun _ z => z) rfl dX0_lastDayToGoOn_42 ?_
    refine lv_sipush (v := (400 : Int32)) hx hb dX0_lastDayToGoOn_45 (by decide) ?_
    refine lv_iadd hx hb dX0_lastDayToGoOn_48 ?_
    exact mp_iret hx hb hr hlocks (Nat.le_of_ble_eq_true rfl) (Nat.le_of_ble_eq_true rfl) hM hS dX0_lastDayToGoOn_49 (⟨by rw [aL, if_neg t_0, if_pos t_e], rfl⟩)
  by_cases t_2 : (aH v td) = (2 : Int32)
  · have t_e : aH v td = (2 : Int32) := t_2
    refine lv_tableIn (tgt := 59) (off := 54) hx hb dX0_lastDayToGoOn_5 (by rw [t_e]; decide) (by rw [t_e]; decide) (by rw [t_e]; rfl) (by decide) ?_
    refine lv_aload_n hx hb dX0_lastDayToGoOn_59 rfl (lv_at hl 0 rfl) ?_
    refine va_get (D := G.1) (C := RX0) (T := TX0) (N := 12) (ci := 1) hx hb hts hin_wsX00 hown hC.1 (hM.one hA1) 0 rfl rfl 9 (by decide) fl_33 (fun _ z => z) rfl dX0_lastDayToGoOn_60 ?_
    refine lv_if_eq (tgt := 70) hx hb dX0_lastDayToGoOn_63 (by decide) (fun c3 => ?_) (fun c3 => ?_)
    · have c3 := c3
      refine lv_aload_n hx hb dX0_lastDayToGoOn_70 rfl (lv_at hl 0 rfl) ?_
      refine va_get (D := G.1) (C := RX0) (T := TX0) (N := 12) (ci := 1) hx hb hts hin_wsX00 hown hC.1 (hM.one hA1) 0 rfl rfl 6 (by decide) fl_24 (fun _ z => z) rfl dX0_lastDayToGoOn_71 ?_
      refine lv_bipush (v := (60 : Int32)) hx hb dX0_lastDayToGoOn_74 (by decide) ?_
      refine lv_iadd hx hb dX0_lastDayToGoOn_76 ?_
      exact mp_iret hx hb hr hlocks (Nat.le_of_ble_eq_true rfl) (Nat.le_of_ble_eq_true rfl) hM hS dX0_lastDayToGoOn_77 (⟨by rw [aL, if_neg t_0, if_neg t_1, if_pos t_e, if_pos c3], rfl⟩)
    · have c3 := c3
      refine lv_iconst (v := (-1 : Int32)) hx hb dX0_lastDayToGoOn_66 (by decide) ?_
      refine lv_goto (tgt := 77) hx hb dX0_lastDayToGoOn_67 (by decide) ?_
      exact mp_iret hx hb hr hlocks (Nat.le_of_ble_eq_true rfl) (Nat.le_of_ble_eq_true rfl) hM hS dX0_lastDayToGoOn_77 (⟨by rw [aL, if_neg t_0, if_neg t_1, if_pos t_e, if_neg c3], rfl⟩)
  by_cases t_3 : (aH v td) = (3 : Int32)
  · have t_e : aH v td = (3 : Int32) := t_3
    refine lv_tableIn (tgt := 50) (off := 45) hx hb dX0_lastDayToGoOn_5 (by rw [t_e]; decide) (by rw [t_e]; decide) (by rw [t_e]; rfl) (by decide) ?_
    refine lv_aload_n hx hb dX0_lastDayToGoOn_50 rfl (lv_at hl 0 rfl) ?_
    refine va_get (D := G.1) (C := RX0) (T := TX0) (N := 12) (ci := 1) hx hb hts hin_wsX00 hown hC.1 (hM.one hA1) 0 rfl rfl 7 (by decide) fl_27 (fun _ z => z) rfl dX0_lastDayToGoOn_51 ?_
    refine lv_sipush (v := (300 : Int32)) hx hb dX0_lastDayToGoOn_54 (by decide) ?_
    refine lv_iadd hx hb dX0_lastDayToGoOn_57 ?_
    exact mp_iret hx hb hr hlocks (Nat.le_of_ble_eq_true rfl) (Nat.le_of_ble_eq_true rfl) hM hS dX0_lastDayToGoOn_58 (⟨by rw [aL, if_neg t_0, if_neg t_1, if_neg t_2, if_pos t_e], rfl⟩)
  refine lv_tableOut (tgt := 78) hx hb dX0_lastDayToGoOn_5 (by have u_0 := lv_neT t_0 (a := 0) rfl; have u_1 := lv_neT t_1 (a := 1) rfl; have u_2 := lv_neT t_2 (a := 2) rfl; have u_3 := lv_neT t_3 (a := 3) rfl; omega) (by decide) ?_
  refine lv_iconst (v := (-1 : Int32)) hx hb dX0_lastDayToGoOn_78 (by decide) ?_
  exact mp_iret hx hb hr hlocks (Nat.le_of_ble_eq_true rfl) (Nat.le_of_ble_eq_true rfl) hM hS dX0_lastDayToGoOn_79 (⟨by rw [aL, if_neg t_0, if_neg t_1, if_neg t_2, if_neg t_3], rfl⟩)
abbrev rmX0_tell : Room := { frames := 2, cells := 0, slots := 0, locals := 43 }
set_option maxHeartbeats 4000000 in
set_option maxRecDepth 100000 in
theorem c_X0_tell (l : Launch) (X : mp_X) (G : mp_G) (A : Nat → Prop) (M : mp_M) (aq dq : Nat) (v : Nat → Int32) (ha : AppAt M aq dq v) (D1 : ds_D) (g1 : DesAt M dq D1) (w td : Int32) : mp_Met l X G A yX0_tell wsX0_tell rmX0_tell ([.ref aq, .int w, .int td] : List Value) M (fun r M1 => r = some (.int (aT v D1.1 w td)) ∧ M1 = M) 0 0 := by
  refine mp_ofW (cc := cX0_tell) (maxL := 3) (ret := (some .int)) (by decide) rfl (Nat.le_of_ble_eq_true rfl) ?_
  intro p e s m below meth c ls hx hb hr hts hown hlocks hnm hml hC hM hS hl
  have hl : lv_has ls 3 [(0, .ref aq), (1, .int w), (2, .int td)] := hl
  have hown : s.vm.findClass RX0 = some m.cls := hown
  have hin_wsX00 : ∀ w ∈ wsX00, w ∈ wsX0_tell := fun _ h => List.mem_cons_of_mem _ (List.mem_append_left _ (List.mem_append_right _ h))
  have fl_47 := hts (.fieldLink RX0 47 "PlanningBench$Application" "day" "I") (List.mem_of_getElem? (i := 1) rfl)
  have fl_43 := hts (.fieldLink RX0 43 "PlanningBench$Application" "design" "LPlanningBench$Design;") (List.mem_of_getElem? (i := 2) rfl)
  have hin_wsX10 : ∀ w ∈ wsX10, w ∈ wsX0_tell := fun _ h => List.mem_cons_of_mem _ (List.mem_append_right _ h)
  have nf_63 := hC.2.1 (.fieldLinkNest RX0 63 "PlanningBench$Design" "plot" "I" "PlanningBench") (List.mem_of_getElem? (i := 11) rfl)
  have fl_21 := hts (.fieldLink RX0 21 "PlanningBench$Application" "refusedBy" "I") (List.mem_of_getElem? (i := 3) rfl)
  have fl_18 := hts (.fieldLink RX0 18 "PlanningBench$Application" "weight" "I") (List.mem_of_getElem? (i := 4) rfl)
  have fl_24 := hts (.fieldLink RX0 24 "PlanningBench$Application" "decidedDay" "I") (List.mem_of_getElem? (i := 5) rfl)
  have fl_27 := hts (.fieldLink RX0 27 "PlanningBench$Application" "begunDay" "I") (List.mem_of_getElem? (i := 6) rfl)
  have fl_30 := hts (.fieldLink RX0 30 "PlanningBench$Application" "doneDay" "I") (List.mem_of_getElem? (i := 7) rfl)
  have fl_33 := hts (.fieldLink RX0 33 "PlanningBench$Application" "appealed" "Z") (List.mem_of_getElem? (i := 8) rfl)
  obtain ⟨k1, hA1⟩ := id ha
  obtain ⟨kd1, hD1⟩ := id g1
  refine lv_iload_n hx hb dX0_tell_0 rfl (lv_at hl 1 rfl) ?_
  by_cases t_0 : w = (0 : Int32)
  · have t_e : w = (0 : Int32) := t_0
    refine lv_tableIn (tgt := 56) (off := 55) hx hb dX0_tell_1 (by rw [t_e]; decide) (by rw [t_e]; decide) (by rw [t_e]; rfl) (by decide) ?_
    refine lv_aload_n hx hb dX0_tell_56 rfl (lv_at hl 0 rfl) ?_
    refine lv_iload_n hx hb dX0_tell_57 rfl (lv_at hl 2 rfl) ?_
    refine mp_calli (va_runV (As := [.int td]) (rest := []) ⟨hx, hb, hml, hown, hts⟩ (c_X0_stateOn l X G A M aq dq v ha td) (cwV 1 hts gX0_tell_X0_stateOn rfl rfl rfl (by decide +kernel) ⟨Nat.le_of_ble_eq_true rfl, Nat.le_of_ble_eq_true rfl⟩) (mp_preV hC hS hM (mp_recv hC.1 hM hA1 (r := (RX0, TX0, 12)) rfl)) rfl rfl hl.1 rfl (lv_room (Nat.le_of_ble_eq_true rfl)) dX0_tell_58 ⟨Nat.le_of_ble_eq_true rfl, Nat.le_of_ble_eq_true rfl⟩) hS (fun H locs hM hS => ?_)
    exact mp_iret hx hb hr hlocks (Nat.le_of_ble_eq_true rfl) (Nat.le_of_ble_eq_true rfl) hM hS dX0_tell_61 (⟨by rw [aT, if_pos t_e], rfl⟩)
  by_cases t_1 : w = (1 : Int32)
  · have t_e : w = (1 : Int32) := t_1
    refine lv_tableIn (tgt := 62) (off := 61) hx hb dX0_tell_1 (by rw [t_e]; decide) (by rw [t_e]; decide) (by rw [t_e]; rfl) (by decide) ?_
    refine lv_aload_n hx hb dX0_tell_62 rfl (lv_at hl 0 rfl) ?_
    refine va_get (D := G.1) (C := RX0) (T := TX0) (N := 12) (ci := 1) hx hb hts hin_wsX00 hown hC.1 (hM.one hA1) 0 rfl rfl 1 (by decide) fl_47 (fun _ z => z) rfl dX0_tell_63 ?_
    exact mp_iret hx hb hr hlocks (Nat.le_of_ble_eq_true rfl) (Nat.le_of_ble_eq_true rfl) hM hS dX0_tell_66 (⟨by rw [aT, if_neg t_0, if_pos t_e], rfl⟩)
  by_cases t_2 : w = (2 : Int32)
  · have t_e : w = (2 : Int32) := t_2
    refine lv_tableIn (tgt := 67) (off := 66) hx hb dX0_tell_1 (by rw [t_e]; decide) (by rw [t_e]; decide) (by rw [t_e]; rfl) (by decide) ?_
    refine lv_aload_n hx hb dX0_tell_67 rfl (lv_at hl 0 rfl) ?_
    refine va_get (D := G.1) (C := RX0) (T := TX0) (N := 12) (ci := 1) hx hb hts hin_wsX00 hown hC.1 (hM.one hA1) 0 rfl rfl 0 (by decide) fl_43 (fun _ z => z) rfl dX0_tell_68 ?_
    refine va_getN (D := G.1) (C := RX1) (T := TX1) (N := 7) (ci := 2) hx hb hts hin_wsX10 hown hC.1 (hM.one hD1) 0 rfl rfl 0 (by decide) (va_Nw.use rfl nf_63) (fun _ z => z) rfl dX0_tell_71 ?_
    exact mp_iret hx hb hr hlocks (Nat.le_of_ble_eq_true rfl) (Nat.le_of_ble_eq_true rfl) hM hS dX0_tell_74 (⟨by rw [aT, if_neg t_0, if_neg t_1, if_pos t_e], rfl⟩)
  by_cases t_3 : w = (3 : Int32)
  · have t_e : w = (3 : Int32) := t_3
    refine lv_tableIn (tgt := 75) (off := 74) hx hb dX0_tell_1 (by rw [t_e]; decide) (by rw [t_e]; decide) (by rw [t_e]; rfl) (by decide) ?_
    refine lv_aload_n hx hb dX0_tell_75 rfl (lv_at hl 0 rfl) ?_
    refine va_get (D := G.1) (C := RX0) (T := TX0) (N := 12) (ci := 1) hx hb hts hin_wsX00 hown hC.1 (hM.one hA1) 0 rfl rfl 5 (by decide) fl_21 (fun _ z => z) rfl dX0_tell_76 ?_
    exact mp_iret hx hb hr hlocks (Nat.le_of_ble_eq_true rfl) (Nat.le_of_ble_eq_true rfl) hM hS dX0_tell_79 (⟨by rw [aT, if_neg t_0, if_neg t_1, if_neg t_2, if_pos t_e], rfl⟩)
  by_cases t_4 : w = (4 : Int32)
  · have t_e : w = (4 : Int32) := t_4
    refine lv_tableIn (tgt := 80) (off := 79) hx hb dX0_tell_1 (by rw [t_e]; decide) (by rw [t_e]; decide) (by rw [t_e]; rfl) (by decide) ?_
    refine lv_aload_n hx hb dX0_tell_80 rfl (lv_at hl 0 rfl) ?_
    refine va_get (D := G.1) (C := RX0) (T := TX0) (N := 12) (ci := 1) hx hb hts hin_wsX00 hown hC.1 (hM.one hA1) 0 rfl rfl 4 (by decide) fl_18 (fun _ z => z) rfl dX0_tell_81 ?_
    exact mp_iret hx hb hr hlocks (Nat.le_of_ble_eq_true rfl) (Nat.le_of_ble_eq_true rfl) hM hS dX0_tell_84 (⟨by rw [aT, if_neg t_0, if_neg t_1, if_neg t_2, if_neg t_3, if_pos t_e], rfl⟩)
  by_cases t_5 : w = (5 : Int32)
  · have t_e : w = (5 : Int32) := t_5
    refine lv_tableIn (tgt := 85) (off := 84) hx hb dX0_tell_1 (by rw [t_e]; decide) (by rw [t_e]; decide) (by rw [t_e]; rfl) (by decide) ?_
    refine lv_aload_n hx hb dX0_tell_85 rfl (lv_at hl 0 rfl) ?_
    refine va_get (D := G.1) (C := RX0) (T := TX0) (N := 12) (ci := 1) hx hb hts hin_wsX00 hown hC.1 (hM.one hA1) 0 rfl rfl 6 (by decide) fl_24 (fun _ z => z) rfl dX0_tell_86 ?_
    exact mp_iret hx hb hr hlocks (Nat.le_of_ble_eq_true rfl) (Nat.le_of_ble_eq_true rfl) hM hS dX0_tell_89 (⟨by rw [aT, if_neg t_0, if_neg t_1, if_neg t_2, if_neg t_3, if_neg t_4, if_pos t_e], rfl⟩)
  by_cases t_6 : w = (6 : Int32)
  · have t_e : w = (6 : Int32) := t_6
    refine lv_tableIn (tgt := 90) (off := 89) hx hb dX0_tell_1 (by rw [t_e]; decide) (by rw [t_e]; decide) (by rw [t_e]; rfl) (by decide) ?_
    refine lv_aload_n hx hb dX0_tell_90 rfl (lv_at hl 0 rfl) ?_
    refine va_get (D := G.1) (C := RX0) (T := TX0) (N := 12) (ci := 1) hx hb hts hin_wsX00 hown hC.1 (hM.one hA1) 0 rfl rfl 7 (by decide) fl_27 (fun _ z => z) rfl dX0_tell_91 ?_
    exact mp_iret hx hb hr hlocks (Nat.le_of_ble_eq_true rfl) (Nat.le_of_ble_eq_true rfl) hM hS dX0_tell_94 (⟨by rw [aT, if_neg t_0, if_neg t_1, if_neg t_2, if_neg t_3, if_neg t_4, if_neg t_5, if_pos t_e], rfl⟩)
  by_cases t_7 : w = (7 : Int32)
  · have t_e : w = (7 : Int32) := t_7
    refine lv_tableIn (tgt := 95) (off := 94) hx hb dX0_tell_1 (by rw [t_e]; decide) (by rw [t_e]; decide) (by rw [t_e]; rfl) (by decide) ?_
    refine lv_aload_n hx hb dX0_tell_95 rfl (lv_at hl 0 rfl) ?_
    refine va_get (D := G.1) (C := RX0) (T := TX0) (N := 12) (ci := 1) hx hb hts hin_wsX00 hown hC.1 (hM.one hA1) 0 rfl rfl 8 (by decide) fl_30 (fun _ z => z) rfl dX0_tell_96 ?_
    exact mp_iret hx hb hr hlocks (Nat.le_of_ble_eq_true rfl) (Nat.le_of_ble_eq_true rfl) hM hS dX0_tell_99 (⟨by rw [aT, if_neg t_0, if_neg t_1, if_neg t_2, if_neg t_3, if_neg t_4, if_neg t_5, if_neg t_6, if_pos t_e], rfl⟩)
  by_cases t_8 : w = (8 : Int32)
  · have t_e : w = (8 : Int32) := t_8
    refine lv_tableIn (tgt := 100) (off := 99) hx hb dX0_tell_1 (by rw [t_e]; decide) (by rw [t_e]; decide) (by rw [t_e]; rfl) (by decide) ?_
    refine lv_aload_n hx hb dX0_tell_100 rfl (lv_at hl 0 rfl) ?_
    refine lv_iload_n hx hb dX0_tell_101 rfl (lv_at hl 2 rfl) ?_
    refine mp_calli (va_runV (As := [.int td]) (rest := []) ⟨hx, hb, hml, hown, hts⟩ (c_X0_lastDayToGoOn l X G A M aq dq v ha td) (cwV 1 hts gX0_tell_X0_lastDayToGoOn rfl rfl rfl (by decide +kernel) ⟨Nat.le_of_ble_eq_true rfl, Nat.le_of_ble_eq_true rfl⟩) (mp_preV hC hS hM (mp_recv hC.1 hM hA1 (r := (RX0, TX0, 12)) rfl)) rfl rfl hl.1 rfl (lv_room (Nat.le_of_ble_eq_true rfl)) dX0_tell_102 ⟨Nat.le_of_ble_eq_true rfl, Nat.le_of_ble_eq_true rfl⟩) hS (fun H locs hM hS => ?_)
    exact mp_iret hx hb hr hlocks (Nat.le_of_ble_eq_true rfl) (Nat.le_of_ble_eq_true rfl) hM hS dX0_tell_105 (⟨by rw [aT, if_neg t_0, if_neg t_1, if_neg t_2, if_neg t_3, if_neg t_4, if_neg t_5, if_neg t_6, if_neg t_7, if_pos t_e], rfl⟩)
  by_cases t_9 : w = (9 : Int32)
  · have t_e : w = (9 : Int32) := t_9
    refine lv_tableIn (tgt := 106) (off := 105) hx hb dX0_tell_1 (by rw [t_e]; decide) (by rw [t_e]; decide) (by rw [t_e]; rfl) (by decide) ?_
    refine lv_aload_n hx hb dX0_tell_106 rfl (lv_at hl 0 rfl) ?_
    refine va_get (D := G.1) (C := RX0) (T := TX0) (N := 12) (ci := 1) hx hb hts hin_wsX00 hown hC.1 (hM.one hA1) 0 rfl rfl 9 (by decide) fl_33 (fun _ z => z) rfl dX0_tell_107 ?_
    refine lv_if_eq (tgt := 117) hx hb dX0_tell_110 (by decide) (fun c3 => ?_) (fun c3 => ?_)
    · have c3 := c3
      refine lv_iconst (v := (0 : Int32)) hx hb dX0_tell_117 (by decide) ?_
      exact mp_iret hx hb hr hlocks (Nat.le_of_ble_eq_true rfl) (Nat.le_of_ble_eq_true rfl) hM hS dX0_tell_118 (⟨by rw [aT, if_neg t_0, if_neg t_1, if_neg t_2, if_neg t_3, if_neg t_4, if_neg t_5, if_neg t_6, if_neg t_7, if_neg t_8, if_pos t_e, if_pos c3], rfl⟩)
    · have c3 := c3
      refine lv_iconst (v := (1 : Int32)) hx hb dX0_tell_113 (by decide) ?_
      refine lv_goto (tgt := 118) hx hb dX0_tell_114 (by decide) ?_
      exact mp_iret hx hb hr hlocks (Nat.le_of_ble_eq_true rfl) (Nat.le_of_ble_eq_true rfl) hM hS dX0_tell_118 (⟨by rw [aT, if_neg t_0, if_neg t_1, if_neg t_2, if_neg t_3, if_neg t_4, if_neg t_5, if_neg t_6, if_neg t_7, if_neg t_8, if_pos t_e, if_neg c3], rfl⟩)
  refine lv_tableOut (tgt := 119) hx hb dX0_tell_1 (by have u_0 := lv_neT t_0 (a := 0) rfl; have u_1 := lv_neT t_1 (a := 1) rfl; have u_2 := lv_neT t_2 (a := 2) rfl; have u_3 := lv_neT t_3 (a := 3) rfl; have u_4 := lv_neT t_4 (a := 4) rfl; have u_5 := lv_neT t_5 (a := 5) rfl; have u_6 := lv_neT t_6 (a := 6) rfl; have u_7 := lv_neT t_7 (a := 7) rfl; have u_8 := lv_neT t_8 (a := 8) rfl; have u_9 := lv_neT t_9 (a := 9) rfl; omega) (by decide) ?_
  refine lv_iconst (v := (-1 : Int32)) hx hb dX0_tell_119 (by decide) ?_
  exact mp_iret hx hb hr hlocks (Nat.le_of_ble_eq_true rfl) (Nat.le_of_ble_eq_true rfl) hM hS dX0_tell_120 (⟨by rw [aT, if_neg t_0, if_neg t_1, if_neg t_2, if_neg t_3, if_neg t_4, if_neg t_5, if_neg t_6, if_neg t_7, if_neg t_8, if_neg t_9], rfl⟩)
abbrev rmX0_goOn : Room := { frames := 1, cells := 0, slots := 0, locals := 22 }
set_option maxHeartbeats 4000000 in
set_option maxRecDepth 100000 in
theorem c_X0_goOn (l : Launch) (X : mp_X) (G : mp_G) (A : Nat → Prop) (M : mp_M) (aq dq : Nat) (v : Nat → Int32) (kn : mp_N) (ha : M kn = some (aq, .inr (1, ap_fs dq v))) (td : Int32) : mp_Met l X G A yX0_goOn wsX0_goOn rmX0_goOn ([.ref aq, .int td] : List Value) M (fun r M1 => r = some (.int (if aH v td = 1 then 3 else if aH v td = 3 then 4 else -1)) ∧ M1 = mp_set M kn (aq, .inr (1, ap_fs dq (if aH v td = 1 then upd (upd v 2 3) 7 td else if aH v td = 3 then upd (upd v 2 4) 8 td else v)))) 0 0 := by
  refine mp_ofW (cc := cX0_goOn) (maxL := 3) (ret := (some .int)) (by decide) rfl (Nat.le_of_ble_eq_true rfl) ?_
  intro p e s m below meth c ls hx hb hr hts hown hlocks hnm hml hC hM hS hl
  have hl : lv_has ls 3 [(0, .ref aq), (1, .int td)] := hl
  have hown : s.vm.findClass RX0 = some m.cls := hown
  have hin_wsX00 : ∀ w ∈ wsX00, w ∈ wsX0_goOn := fun _ h => List.mem_cons_of_mem _ (List.mem_append_right _ h)
  have fl_9 := hts (.fieldLink RX0 9 "PlanningBench$Application" "state" "I") (List.mem_of_getElem? (i := 1) rfl)
  have fl_30 := hts (.fieldLink RX0 30 "PlanningBench$Application" "doneDay" "I") (List.mem_of_getElem? (i := 3) rfl)
  have fl_27 := hts (.fieldLink RX0 27 "PlanningBench$Application" "begunDay" "I") (List.mem_of_getElem? (i := 2) rfl)
  refine lv_aload_n hx hb dX0_goOn_0 rfl (lv_at hl 0 rfl) ?_
  refine lv_iload_n hx hb dX0_goOn_1 rfl (lv_at hl 1 rfl) ?_
  refine mp_calli (va_runV (As := [.int td]) (rest := []) ⟨hx, hb, hml, hown, hts⟩ (c_X0_stateOn l X G A M aq dq v ⟨kn, ha⟩ td) (cwV 1 hts gX0_goOn_X0_stateOn rfl rfl rfl (by decide +kernel) ⟨Nat.le_of_ble_eq_true rfl, Nat.le_of_ble_eq_true rfl⟩) (mp_preV hC hS hM (mp_recv hC.1 hM ha (r := (RX0, TX0, 12)) rfl)) rfl rfl hl.1 rfl (lv_room (Nat.le_of_ble_eq_true rfl)) dX0_goOn_2 ⟨Nat.le_of_ble_eq_true rfl, Nat.le_of_ble_eq_true rfl⟩) hS (fun H locs hM hS => ?_)
  refine lv_istore_n (lv' := [(2, .int (aH v td)), (0, .ref aq), (1, .int td)]) hx hb dX0_goOn_5 rfl hl (by decide) rfl (fun ls hl => ?_)
  refine lv_iload_n hx hb dX0_goOn_6 rfl (lv_at hl 0 rfl) ?_
  refine lv_iconst (v := (1 : Int32)) hx hb dX0_goOn_7 (by decide) ?_
  refine lv_icmp_ne (tgt := 26) hx hb dX0_goOn_8 (by decide) (fun c1 => ?_) (fun c1 => ?_)
  · have c1 := c1
    refine lv_iload_n hx hb dX0_goOn_26 rfl (lv_at hl 0 rfl) ?_
    refine lv_iconst (v := (3 : Int32)) hx hb dX0_goOn_27 (by decide) ?_
    refine lv_icmp_ne (tgt := 46) hx hb dX0_goOn_28 (by decide) (fun c3 => ?_) (fun c3 => ?_)
    · have c3 := c3
      refine lv_iconst (v := (-1 : Int32)) hx hb dX0_goOn_46 (by decide) ?_
      exact mp_iret hx hb hr hlocks (Nat.le_of_ble_eq_true rfl) (Nat.le_of_ble_eq_true rfl) hM hS dX0_goOn_47 (⟨by rw [if_neg c1, if_neg c3], by rw [if_neg c1, if_neg c3]; exact (mp_set_same ha).symm⟩)
    · have c3 := c3
      refine lv_aload_n hx hb dX0_goOn_31 rfl (lv_at hl 1 rfl) ?_
      refine lv_iconst (v := (4 : Int32)) hx hb dX0_goOn_32 (by decide) ?_
      refine mp_put (D := G.1) (C := RX0) (T := TX0) (N := 12) (ci := 1) hx hb hts hin_wsX00 tyX0 tyX0_ok nmX0 hown hC.1 hM hS ha rfl 2 (by decide) fl_9 (fun _ z => z) rfl rfl rfl (Nat.le_of_ble_eq_true rfl) dX0_goOn_33 (fs' := ap_fs dq (upd v 2 (4 : Int32))) rfl (fun H locs hM hS => ?_)
      have hM : mp_P G.1 A (mp_set M kn (aq, .inr (1, ap_fs dq (upd v 2 (4 : Int32))))) H := hM
      refine lv_aload_n hx hb dX0_goOn_36 rfl (lv_at hl 1 rfl) ?_
      refine lv_iload_n hx hb dX0_goOn_37 rfl (lv_at hl 2 rfl) ?_
      refine mp_put (D := G.1) (C := RX0) (T := TX0) (N := 12) (ci := 1) hx hb hts hin_wsX00 tyX0 tyX0_ok nmX0 hown hC.1 hM hS (mp_set_s _ _ _) rfl 8 (by decide) fl_30 (fun _ z => z) rfl rfl rfl (Nat.le_of_ble_eq_true rfl) dX0_goOn_38 (fs' := ap_fs dq (upd (upd v 2 (4 : Int32)) 8 td)) rfl (fun H locs hM hS => ?_)
      rw [mp_set_set] at hM
      have hM : mp_P G.1 A (mp_set M kn (aq, .inr (1, ap_fs dq (upd (upd v 2 (4 : Int32)) 8 td)))) H := hM
      refine lv_aload_n hx hb dX0_goOn_41 rfl (lv_at hl 1 rfl) ?_
      refine va_get (D := G.1) (C := RX0) (T := TX0) (N := 12) (ci := 1) hx hb hts hin_wsX00 hown hC.1 (hM.one (mp_set_s _ _ _)) 0 rfl rfl 2 (by decide) fl_9 (fun _ z => z) rfl dX0_goOn_42 ?_
      exact mp_iret hx hb hr hlocks (Nat.le_of_ble_eq_true rfl) (Nat.le_of_ble_eq_true rfl) hM hS dX0_goOn_45 (⟨by rw [if_neg c1, if_pos c3] <;> rfl, by rw [if_neg c1, if_pos c3]⟩)
  · have c1 := c1
    refine lv_aload_n hx hb dX0_goOn_11 rfl (lv_at hl 1 rfl) ?_
    refine lv_iconst (v := (3 : Int32)) hx hb dX0_goOn_12 (by decide) ?_
    refine mp_put (D := G.1) (C := RX0) (T := TX0) (N := 12) (ci := 1) hx hb hts hin_wsX00 tyX0 tyX0_ok nmX0 hown hC.1 hM hS ha rfl 2 (by decide) fl_9 (fun _ z => z) rfl rfl rfl (Nat.le_of_ble_eq_true rfl) dX0_goOn_13 (fs' := ap_fs dq (upd v 2 (3 : Int32))) rfl (fun H locs hM hS => ?_)
    have hM : mp_P G.1 A (mp_set M kn (aq, .inr (1, ap_fs dq (upd v 2 (3 : Int32))))) H := hM
    refine lv_aload_n hx hb dX0_goOn_16 rfl (lv_at hl 1 rfl) ?_
    refine lv_iload_n hx hb dX0_goOn_17 rfl (lv_at hl 2 rfl) ?_
    refine mp_put (D := G.1) (C := RX0) (T := TX0) (N := 12) (ci := 1) hx hb hts hin_wsX00 tyX0 tyX0_ok nmX0 hown hC.1 hM hS (mp_set_s _ _ _) rfl 7 (by decide) fl_27 (fun _ z => z) rfl rfl rfl (Nat.le_of_ble_eq_true rfl) dX0_goOn_18 (fs' := ap_fs dq (upd (upd v 2 (3 : Int32)) 7 td)) rfl (fun H locs hM hS => ?_)
    rw [mp_set_set] at hM
    have hM : mp_P G.1 A (mp_set M kn (aq, .inr (1, ap_fs dq (upd (upd v 2 (3 : Int32)) 7 td)))) H := hM
    refine lv_aload_n hx hb dX0_goOn_21 rfl (lv_at hl 1 rfl) ?_
    refine va_get (D := G.1) (C := RX0) (T := TX0) (N := 12) (ci := 1) hx hb hts hin_wsX00 hown hC.1 (hM.one (mp_set_s _ _ _)) 0 rfl rfl 2 (by decide) fl_9 (fun _ z => z) rfl dX0_goOn_22 ?_
    exact mp_iret hx hb hr hlocks (Nat.le_of_ble_eq_true rfl) (Nat.le_of_ble_eq_true rfl) hM hS dX0_goOn_25 (⟨by rw [if_pos c1] <;> rfl, by rw [if_pos c1]⟩)
abbrev rmX0_razeSince : Room := { frames := 0, cells := 0, slots := 0, locals := 0 }
set_option maxHeartbeats 4000000 in
set_option maxRecDepth 100000 in
theorem c_X0_razeSince (l : Launch) (X : mp_X) (G : mp_G) (A : Nat → Prop) (M : mp_M) (aq dq : Nat) (v : Nat → Int32) (kn : mp_N) (ha : M kn = some (aq, .inr (1, ap_fs dq v))) (w td : Int32) : mp_Met l X G A yX0_razeSince wsX0_razeSince rmX0_razeSince ([.ref aq, .int w, .int td] : List Value) M (fun r M1 => r = some (.int (bI (pB (v 2 = 4 ∧ v 8 ≤ w ∧ v 10 = -1)))) ∧ M1 = mp_set M kn (aq, .inr (1, ap_fs dq (if pB (v 2 = 4 ∧ v 8 ≤ w ∧ v 10 = -1) then upd (upd v 10 w) 11 td else v)))) 0 0 := by
  refine mp_ofW (cc := cX0_razeSince) (maxL := 3) (ret := (some .boolean)) (by decide) rfl (Nat.le_of_ble_eq_true rfl) ?_
  intro p e s m below meth c ls hx hb hr hts hown hlocks hnm hml hC hM hS hl
  have hl : lv_has ls 3 [(0, .ref aq), (1, .int w), (2, .int td)] := hl
  have hown : s.vm.findClass RX0 = some m.cls := hown
  have hin_wsX00 : ∀ w ∈ wsX00, w ∈ wsX0_razeSince := fun _ h => List.mem_cons_of_mem _ (List.mem_append_right _ h)
  have fl_9 := hts (.fieldLink RX0 9 "PlanningBench$Application" "state" "I") (List.mem_of_getElem? (i := 1) rfl)
  have fl_30 := hts (.fieldLink RX0 30 "PlanningBench$Application" "doneDay" "I") (List.mem_of_getElem? (i := 2) rfl)
  have fl_37 := hts (.fieldLink RX0 37 "PlanningBench$Application" "razedSince" "I") (List.mem_of_getElem? (i := 3) rfl)
  have fl_40 := hts (.fieldLink RX0 40 "PlanningBench$Application" "razeKnownFrom" "I") (List.mem_of_getElem? (i := 4) rfl)
  refine lv_aload_n hx hb dX0_razeSince_0 rfl (lv_at hl 0 rfl) ?_
  refine va_get (D := G.1) (C := RX0) (T := TX0) (N := 12) (ci := 1) hx hb hts hin_wsX00 hown hC.1 (hM.one ha) 0 rfl rfl 2 (by decide) fl_9 (fun _ z => z) rfl dX0_razeSince_1 ?_
  refine lv_iconst (v := (4 : Int32)) hx hb dX0_razeSince_4 (by decide) ?_
  refine lv_icmp_ne (tgt := 24) hx hb dX0_razeSince_5 (by decide) (fun c1 => ?_) (fun c1 => ?_)
  · have c1 := c1
    refine lv_iconst (v := (0 : Int32)) hx hb dX0_razeSince_24 (by decide) ?_
    exact mp_zret hx hb hr hlocks (Nat.le_of_ble_eq_true rfl) (Nat.le_of_ble_eq_true rfl) hM hS dX0_razeSince_25 (by first | rfl | exact bI_nar _) (have z0 : ¬ (v 2 = 4 ∧ v 8 ≤ w ∧ v 10 = -1) := (fun z => c1 z.1); ⟨b0 z0, by rw [pB_f z0]; exact (mp_set_same ha).symm⟩)
  · have c1 := c1
    refine lv_iload_n hx hb dX0_razeSince_8 rfl (lv_at hl 1 rfl) ?_
    refine lv_aload_n hx hb dX0_razeSince_9 rfl (lv_at hl 0 rfl) ?_
    refine va_get (D := G.1) (C := RX0) (T := TX0) (N := 12) (ci := 1) hx hb hts hin_wsX00 hown hC.1 (hM.one ha) 0 rfl rfl 8 (by decide) fl_30 (fun _ z => z) rfl dX0_razeSince_10 ?_
    refine lv_icmp_lt (tgt := 24) hx hb dX0_razeSince_13 (by decide) (fun c3 => ?_) (fun c3 => ?_)
    · have c3 := c3
      refine lv_iconst (v := (0 : Int32)) hx hb dX0_razeSince_24 (by decide) ?_
      exact mp_zret hx hb hr hlocks (Nat.le_of_ble_eq_true rfl) (Nat.le_of_ble_eq_true rfl) hM hS dX0_razeSince_25 (by first | rfl | exact bI_nar _) (have z0 : ¬ (v 2 = 4 ∧ v 8 ≤ w ∧ v 10 = -1) := (fun z => absurd z.2.1 (i_nle.mpr c3)); ⟨b0 z0, by rw [pB_f z0]; exact (mp_set_same ha).symm⟩)
    · have c3 := c3
      refine lv_aload_n hx hb dX0_razeSince_16 rfl (lv_at hl 0 rfl) ?_
      refine va_get (D := G.1) (C := RX0) (T := TX0) (N := 12) (ci := 1) hx hb hts hin_wsX00 hown hC.1 (hM.one ha) 0 rfl rfl 10 (by decide) fl_37 (fun _ z => z) rfl dX0_razeSince_17 ?_
      refine lv_iconst (v := (-1 : Int32)) hx hb dX0_razeSince_20 (by decide) ?_
      refine lv_icmp_eq (tgt := 26) hx hb dX0_razeSince_21 (by decide) (fun c4 => ?_) (fun c4 => ?_)
      · have c4 := c4
        refine lv_aload_n hx hb dX0_razeSince_26 rfl (lv_at hl 0 rfl) ?_
        refine lv_iload_n hx hb dX0_razeSince_27 rfl (lv_at hl 1 rfl) ?_
        refine mp_put (D := G.1) (C := RX0) (T := TX0) (N := 12) (ci := 1) hx hb hts hin_wsX00 tyX0 tyX0_ok nmX0 hown hC.1 hM hS ha rfl 10 (by decide) fl_37 (fun _ z => z) rfl rfl rfl (Nat.le_of_ble_eq_true rfl) dX0_razeSince_28 (fs' := ap_fs dq (upd v 10 w)) rfl (fun H locs hM hS => ?_)
        have hM : mp_P G.1 A (mp_set M kn (aq, .inr (1, ap_fs dq (upd v 10 w)))) H := hM
        refine lv_aload_n hx hb dX0_razeSince_31 rfl (lv_at hl 0 rfl) ?_
        refine lv_iload_n hx hb dX0_razeSince_32 rfl (lv_at hl 2 rfl) ?_
        refine mp_put (D := G.1) (C := RX0) (T := TX0) (N := 12) (ci := 1) hx hb hts hin_wsX00 tyX0 tyX0_ok nmX0 hown hC.1 hM hS (mp_set_s _ _ _) rfl 11 (by decide) fl_40 (fun _ z => z) rfl rfl rfl (Nat.le_of_ble_eq_true rfl) dX0_razeSince_33 (fs' := ap_fs dq (upd (upd v 10 w) 11 td)) rfl (fun H locs hM hS => ?_)
        rw [mp_set_set] at hM
        have hM : mp_P G.1 A (mp_set M kn (aq, .inr (1, ap_fs dq (upd (upd v 10 w) 11 td)))) H := hM
        refine lv_iconst (v := (1 : Int32)) hx hb dX0_razeSince_36 (by decide) ?_
        exact mp_zret hx hb hr hlocks (Nat.le_of_ble_eq_true rfl) (Nat.le_of_ble_eq_true rfl) hM hS dX0_razeSince_37 (by first | rfl | exact bI_nar _) (have z0 : v 2 = 4 ∧ v 8 ≤ w ∧ v 10 = -1 := ⟨c1, i_nlt.mp c3, c4⟩; ⟨b1 z0, by rw [pB_t z0]; rfl⟩)
      · have c4 := c4
        refine lv_iconst (v := (0 : Int32)) hx hb dX0_razeSince_24 (by decide) ?_
        exact mp_zret hx hb hr hlocks (Nat.le_of_ble_eq_true rfl) (Nat.le_of_ble_eq_true rfl) hM hS dX0_razeSince_25 (by first | rfl | exact bI_nar _) (have z0 : ¬ (v 2 = 4 ∧ v 8 ≤ w ∧ v 10 = -1) := (fun z => c4 z.2.2); ⟨b0 z0, by rw [pB_f z0]; exact (mp_set_same ha).symm⟩)
abbrev rmX0_stoodOn : Room := { frames := 0, cells := 0, slots := 0, locals := 0 }
set_option maxHeartbeats 4000000 in
set_option maxRecDepth 100000 in
theorem c_X0_stoodOn (l : Launch) (X : mp_X) (G : mp_G) (A : Nat → Prop) (M : mp_M) (aq dq : Nat) (v : Nat → Int32) (ha : AppAt M aq dq v) (d k : Int32) : mp_Met l X G A yX0_stoodOn wsX0_stoodOn rmX0_stoodOn ([.ref aq, .int d, .int k] : List Value) M (fun r M1 => r = some (.int (bI (pB (aS v d k)))) ∧ M1 = M) 0 0 := by
  refine mp_ofW (cc := cX0_stoodOn) (maxL := 3) (ret := (some .boolean)) (by decide) rfl (Nat.le_of_ble_eq_true rfl) ?_
  intro p e s m below meth c ls hx hb hr hts hown hlocks hnm hml hC hM hS hl
  have hl : lv_has ls 3 [(0, .ref aq), (1, .int d), (2, .int k)] := hl
  have hown : s.vm.findClass RX0 = some m.cls := hown
  have hin_wsX00 : ∀ w ∈ wsX00, w ∈ wsX0_stoodOn := fun _ h => List.mem_cons_of_mem _ (List.mem_append_right _ h)
  have fl_9 := hts (.fieldLink RX0 9 "PlanningBench$Application" "state" "I") (List.mem_of_getElem? (i := 1) rfl)
  have fl_30 := hts (.fieldLink RX0 30 "PlanningBench$Application" "doneDay" "I") (List.mem_of_getElem? (i := 2) rfl)
  have fl_37 := hts (.fieldLink RX0 37 "PlanningBench$Application" "razedSince" "I") (List.mem_of_getElem? (i := 3) rfl)
  have fl_40 := hts (.fieldLink RX0 40 "PlanningBench$Application" "razeKnownFrom" "I") (List.mem_of_getElem? (i := 4) rfl)
  obtain ⟨k1, hA1⟩ := id ha
  refine lv_aload_n hx hb dX0_stoodOn_0 rfl (lv_at hl 0 rfl) ?_
  refine va_get (D := G.1) (C := RX0) (T := TX0) (N := 12) (ci := 1) hx hb hts hin_wsX00 hown hC.1 (hM.one hA1) 0 rfl rfl 2 (by decide) fl_9 (fun _ z => z) rfl dX0_stoodOn_1 ?_
  refine lv_iconst (v := (4 : Int32)) hx hb dX0_stoodOn_4 (by decide) ?_
  refine lv_icmp_ne (tgt := 24) hx hb dX0_stoodOn_5 (by decide) (fun c1 => ?_) (fun c1 => ?_)
  · have c1 := c1
    refine lv_iconst (v := (0 : Int32)) hx hb dX0_stoodOn_24 (by decide) ?_
    exact mp_zret hx hb hr hlocks (Nat.le_of_ble_eq_true rfl) (Nat.le_of_ble_eq_true rfl) hM hS dX0_stoodOn_25 (by first | rfl | exact bI_nar _) (⟨b0 (fun z => c1 z.1), rfl⟩)
  · have c1 := c1
    refine lv_iload_n hx hb dX0_stoodOn_8 rfl (lv_at hl 1 rfl) ?_
    refine lv_aload_n hx hb dX0_stoodOn_9 rfl (lv_at hl 0 rfl) ?_
    refine va_get (D := G.1) (C := RX0) (T := TX0) (N := 12) (ci := 1) hx hb hts hin_wsX00 hown hC.1 (hM.one hA1) 0 rfl rfl 8 (by decide) fl_30 (fun _ z => z) rfl dX0_stoodOn_10 ?_
    refine lv_icmp_lt (tgt := 24) hx hb dX0_stoodOn_13 (by decide) (fun c3 => ?_) (fun c3 => ?_)
    · have c3 := c3
      refine lv_iconst (v := (0 : Int32)) hx hb dX0_stoodOn_24 (by decide) ?_
      exact mp_zret hx hb hr hlocks (Nat.le_of_ble_eq_true rfl) (Nat.le_of_ble_eq_true rfl) hM hS dX0_stoodOn_25 (by first | rfl | exact bI_nar _) (⟨b0 (fun z => absurd z.2.1 (i_nle.mpr c3)), rfl⟩)
    · have c3 := c3
      refine lv_iload_n hx hb dX0_stoodOn_16 rfl (lv_at hl 2 rfl) ?_
      refine lv_aload_n hx hb dX0_stoodOn_17 rfl (lv_at hl 0 rfl) ?_
      refine va_get (D := G.1) (C := RX0) (T := TX0) (N := 12) (ci := 1) hx hb hts hin_wsX00 hown hC.1 (hM.one hA1) 0 rfl rfl 8 (by decide) fl_30 (fun _ z => z) rfl dX0_stoodOn_18 ?_
      refine lv_icmp_ge (tgt := 26) hx hb dX0_stoodOn_21 (by decide) (fun c4 => ?_) (fun c4 => ?_)
      · have c4 := c4
        refine lv_aload_n hx hb dX0_stoodOn_26 rfl (lv_at hl 0 rfl) ?_
        refine va_get (D := G.1) (C := RX0) (T := TX0) (N := 12) (ci := 1) hx hb hts hin_wsX00 hown hC.1 (hM.one hA1) 0 rfl rfl 10 (by decide) fl_37 (fun _ z => z) rfl dX0_stoodOn_27 ?_
        refine lv_iconst (v := (-1 : Int32)) hx hb dX0_stoodOn_30 (by decide) ?_
        refine lv_icmp_eq (tgt := 50) hx hb dX0_stoodOn_31 (by decide) (fun c5 => ?_) (fun c5 => ?_)
        · have c5 := c5
          refine lv_iconst (v := (1 : Int32)) hx hb dX0_stoodOn_50 (by decide) ?_
          refine lv_goto (tgt := 55) hx hb dX0_stoodOn_51 (by decide) ?_
          exact mp_zret hx hb hr hlocks (Nat.le_of_ble_eq_true rfl) (Nat.le_of_ble_eq_true rfl) hM hS dX0_stoodOn_55 (by first | rfl | exact bI_nar _) (⟨b1 ⟨c1, i_nlt.mp c3, c4, Or.inl c5⟩, rfl⟩)
        · have c5 := c5
          refine lv_iload_n hx hb dX0_stoodOn_34 rfl (lv_at hl 1 rfl) ?_
          refine lv_aload_n hx hb dX0_stoodOn_35 rfl (lv_at hl 0 rfl) ?_
          refine va_get (D := G.1) (C := RX0) (T := TX0) (N := 12) (ci := 1) hx hb hts hin_wsX00 hown hC.1 (hM.one hA1) 0 rfl rfl 10 (by decide) fl_37 (fun _ z => z) rfl dX0_stoodOn_36 ?_
          refine lv_icmp_lt (tgt := 50) hx hb dX0_stoodOn_39 (by decide) (fun c6 => ?_) (fun c6 => ?_)
          · have c6 := c6
            refine lv_iconst (v := (1 : Int32)) hx hb dX0_stoodOn_50 (by decide) ?_
            refine lv_goto (tgt := 55) hx hb dX0_stoodOn_51 (by decide) ?_
            exact mp_zret hx hb hr hlocks (Nat.le_of_ble_eq_true rfl) (Nat.le_of_ble_eq_true rfl) hM hS dX0_stoodOn_55 (by first | rfl | exact bI_nar _) (⟨b1 ⟨c1, i_nlt.mp c3, c4, Or.inr (Or.inl c6)⟩, rfl⟩)
          · have c6 := c6
            refine lv_iload_n hx hb dX0_stoodOn_42 rfl (lv_at hl 2 rfl) ?_
            refine lv_aload_n hx hb dX0_stoodOn_43 rfl (lv_at hl 0 rfl) ?_
            refine va_get (D := G.1) (C := RX0) (T := TX0) (N := 12) (ci := 1) hx hb hts hin_wsX00 hown hC.1 (hM.one hA1) 0 rfl rfl 11 (by decide) fl_40 (fun _ z => z) rfl dX0_stoodOn_44 ?_
            refine lv_icmp_ge (tgt := 54) hx hb dX0_stoodOn_47 (by decide) (fun c7 => ?_) (fun c7 => ?_)
            · have c7 := c7
              refine lv_iconst (v := (0 : Int32)) hx hb dX0_stoodOn_54 (by decide) ?_
              exact mp_zret hx hb hr hlocks (Nat.le_of_ble_eq_true rfl) (Nat.le_of_ble_eq_true rfl) hM hS dX0_stoodOn_55 (by first | rfl | exact bI_nar _) (⟨b0 (fun z => z.2.2.2.elim c5 (fun z => z.elim c6 (fun z => absurd c7 (i_nle.mpr z)))), rfl⟩)
            · have c7 := c7
              refine lv_iconst (v := (1 : Int32)) hx hb dX0_stoodOn_50 (by decide) ?_
              refine lv_goto (tgt := 55) hx hb dX0_stoodOn_51 (by decide) ?_
              exact mp_zret hx hb hr hlocks (Nat.le_of_ble_eq_true rfl) (Nat.le_of_ble_eq_true rfl) hM hS dX0_stoodOn_55 (by first | rfl | exact bI_nar _) (⟨b1 ⟨c1, i_nlt.mp c3, c4, Or.inr (Or.inr (i_nle.mp c7))⟩, rfl⟩)
      · have c4 := c4
        refine lv_iconst (v := (0 : Int32)) hx hb dX0_stoodOn_24 (by decide) ?_
        exact mp_zret hx hb hr hlocks (Nat.le_of_ble_eq_true rfl) (Nat.le_of_ble_eq_true rfl) hM hS dX0_stoodOn_25 (by first | rfl | exact bI_nar _) (⟨b0 (fun z => c4 z.2.2.1), rfl⟩)
abbrev rmX5_addCorner : Room := { frames := 0, cells := 0, slots := 0, locals := 0 }
set_option maxHeartbeats 4000000 in
set_option maxRecDepth 100000 in
theorem c_X5_addCorner (l : Launch) (X : mp_X) (G : mp_G) (A : Nat → Prop) (M : mp_M) (i0 r1 ax1 ay1 : Nat) (R1 : rg_R) (hR1 : M (4, i0, 0) = some (r1, .inr (6, [.ref ax1, .ref ay1, .int (nI R1.2.2)]))) (hX1 : M (5, i0, 0) = some (ax1, .inl (G.2.2.1, 8, .inl R1.1))) (hY1 : M (6, i0, 0) = some (ay1, .inl (G.2.2.1, 8, .inl R1.2.1))) (hs1 : R1.2.2 ≤ 8) (x y : Int32) : mp_Met l X G A yX5_addCorner wsX5_addCorner rmX5_addCorner ([.ref r1, .int x, .int y] : List Value) M (fun r M1 => r = some (.int (bI (pB (R1.2.2 < 8)))) ∧ M1 = if pB (R1.2.2 < 8) then mp_set (mp_set (mp_set M (5, i0, 0) (ax1, .inl (G.2.2.1, 8, .inl (upd R1.1 R1.2.2 x)))) (6, i0, 0) (ay1, .inl (G.2.2.1, 8, .inl (upd R1.2.1 R1.2.2 y)))) (4, i0, 0) (r1, .inr (6, [.ref ax1, .ref ay1, .int (nI (R1.2.2 + 1))])) else M) 0 0 := by
  refine mp_ofW (cc := cX5_addCorner) (maxL := 3) (ret := (some .boolean)) (by decide) rfl (Nat.le_of_ble_eq_true rfl) ?_
  intro p e s m below meth c ls hx hb hr hts hown hlocks hnm hml hC hM hS hl
  have hl : lv_has ls 3 [(0, .ref r1), (1, .int x), (2, .int y)] := hl
  have hown : s.vm.findClass RX5 = some m.cls := hown
  have hin_wsX50 : ∀ w ∈ wsX50, w ∈ wsX5_addCorner := fun _ h => List.mem_cons_of_mem _ (List.mem_append_right _ h)
  have fl_18 := hts (.fieldLink RX5 18 "PlanningBench$Ring" "size" "I") (List.mem_of_getElem? (i := 1) rfl)
  have fl_11 := hts (.fieldLink RX5 11 "PlanningBench$Ring" "xs" "[I") (List.mem_of_getElem? (i := 2) rfl)
  have fl_15 := hts (.fieldLink RX5 15 "PlanningBench$Ring" "ys" "[I") (List.mem_of_getElem? (i := 3) rfl)
  refine lv_aload_n hx hb dX5_addCorner_0 rfl (lv_at hl 0 rfl) ?_
  refine va_get (D := G.1) (C := RX5) (T := TX5) (N := 3) (ci := 6) hx hb hts hin_wsX50 hown hC.1 (hM.one hR1) 0 rfl rfl 2 (by decide) fl_18 (fun _ z => z) rfl dX5_addCorner_1 ?_
  refine lv_bipush (v := (8 : Int32)) hx hb dX5_addCorner_4 (by decide) ?_
  refine lv_icmp_lt (tgt := 11) hx hb dX5_addCorner_6 (by decide) (fun c1 => ?_) (fun c1 => ?_)
  · have c1 := nn_lt (a := R1.2.2) (b := 8) (by omega) (by omega) c1
    refine lv_aload_n hx hb dX5_addCorner_11 rfl (lv_at hl 0 rfl) ?_
    refine va_get (D := G.1) (C := RX5) (T := TX5) (N := 3) (ci := 6) hx hb hts hin_wsX50 hown hC.1 (hM.one hR1) 0 rfl rfl 0 (by decide) fl_11 (fun _ z => z) rfl dX5_addCorner_12 ?_
    refine lv_aload_n hx hb dX5_addCorner_15 rfl (lv_at hl 0 rfl) ?_
    refine va_get (D := G.1) (C := RX5) (T := TX5) (N := 3) (ci := 6) hx hb hts hin_wsX50 hown hC.1 (hM.one hR1) 0 rfl rfl 2 (by decide) fl_18 (fun _ z => z) rfl dX5_addCorner_16 ?_
    refine lv_iload_n hx hb dX5_addCorner_19 rfl (lv_at hl 1 rfl) ?_
    refine ca_iast hx hb hC hM hS hX1 (j := R1.2.2) (by omega) (by decide) dX5_addCorner_20 (fun H locs hM hS => ?_)
    have hM : mp_P G.1 A (mp_set M (5, i0, 0) (ax1, .inl (G.2.2.1, 8, .inl (upd R1.1 R1.2.2 x)))) H := hM
    refine lv_aload_n hx hb dX5_addCorner_21 rfl (lv_at hl 0 rfl) ?_
    refine va_get (D := G.1) (C := RX5) (T := TX5) (N := 3) (ci := 6) hx hb hts hin_wsX50 hown hC.1 (hM.one ((mp_set_n _ _ _ (by simp)).trans hR1)) 0 rfl rfl 1 (by decide) fl_15 (fun _ z => z) rfl dX5_addCorner_22 ?_
    refine lv_aload_n hx hb dX5_addCorner_25 rfl (lv_at hl 0 rfl) ?_
    refine va_get (D := G.1) (C := RX5) (T := TX5) (N := 3) (ci := 6) hx hb hts hin_wsX50 hown hC.1 (hM.one ((mp_set_n _ _ _ (by simp)).trans hR1)) 0 rfl rfl 2 (by decide) fl_18 (fun _ z => z) rfl dX5_addCorner_26 ?_
    refine lv_iload_n hx hb dX5_addCorner_29 rfl (lv_at hl 2 rfl) ?_
    refine ca_iast hx hb hC hM hS ((mp_set_n _ _ _ (by simp)).trans hY1) (j := R1.2.2) (by omega) (by decide) dX5_addCorner_30 (fun H locs hM hS => ?_)
    have hM : mp_P G.1 A (mp_set (mp_set M (5, i0, 0) (ax1, .inl (G.2.2.1, 8, .inl (upd R1.1 R1.2.2 x)))) (6, i0, 0) (ay1, .inl (G.2.2.1, 8, .inl (upd R1.2.1 R1.2.2 y)))) H := hM
    refine lv_aload_n hx hb dX5_addCorner_31 rfl (lv_at hl 0 rfl) ?_
    refine lv_dup hx hb dX5_addCorner_32 rfl ?_
    refine va_get (D := G.1) (C := RX5) (T := TX5) (N := 3) (ci := 6) hx hb hts hin_wsX50 hown hC.1 (hM.one ((mp_set_n _ _ _ (by simp)).trans ((mp_set_n _ _ _ (by simp)).trans hR1))) 0 rfl rfl 2 (by decide) fl_18 (fun _ z => z) rfl dX5_addCorner_33 ?_
    refine lv_iconst (v := (1 : Int32)) hx hb dX5_addCorner_36 (by decide) ?_
    refine lv_iadd hx hb dX5_addCorner_37 ?_
    refine mp_top (nI (R1.2.2 + 1)) (nI_add R1.2.2 1) ?_
    refine mp_put (D := G.1) (C := RX5) (T := TX5) (N := 3) (ci := 6) hx hb hts hin_wsX50 tyX5 tyX5_ok nmX5 hown hC.1 hM hS ((mp_set_n _ _ _ (by simp)).trans ((mp_set_n _ _ _ (by simp)).trans hR1)) rfl 2 (by decide) fl_18 (fun _ z => z) rfl rfl rfl (Nat.le_of_ble_eq_true rfl) dX5_addCorner_38 (fs' := [.ref ax1, .ref ay1, .int (nI (R1.2.2 + 1))]) rfl (fun H locs hM hS => ?_)
    have hM : mp_P G.1 A (mp_set (mp_set (mp_set M (5, i0, 0) (ax1, .inl (G.2.2.1, 8, .inl (upd R1.1 R1.2.2 x)))) (6, i0, 0) (ay1, .inl (G.2.2.1, 8, .inl (upd R1.2.1 R1.2.2 y)))) (4, i0, 0) (r1, .inr (6, [.ref ax1, .ref ay1, .int (nI (R1.2.2 + 1))]))) H := hM
    refine lv_iconst (v := (1 : Int32)) hx hb dX5_addCorner_41 (by decide) ?_
    exact mp_zret hx hb hr hlocks (Nat.le_of_ble_eq_true rfl) (Nat.le_of_ble_eq_true rfl) hM hS dX5_addCorner_42 (by first | rfl | exact bI_nar _) (⟨b1 c1, by rw [pB_t c1]; rfl⟩)
  · have c1 := nn_nlt (a := R1.2.2) (b := 8) (by omega) (by omega) c1
    refine lv_iconst (v := (0 : Int32)) hx hb dX5_addCorner_9 (by decide) ?_
    exact mp_zret hx hb hr hlocks (Nat.le_of_ble_eq_true rfl) (Nat.le_of_ble_eq_true rfl) hM hS dX5_addCorner_10 (by first | rfl | exact bI_nar _) (⟨b0 (by omega), by rw [pB_f (by omega)]; rfl⟩)
abbrev rmX5_empty : Room := { frames := 0, cells := 0, slots := 0, locals := 0 }
set_option maxHeartbeats 4000000 in
set_option maxRecDepth 100000 in
theorem c_X5_empty (l : Launch) (X : mp_X) (G : mp_G) (A : Nat → Prop) (M : mp_M) (i0 r1 ax1 ay1 : Nat) (R1 : rg_R) (hR1 : M (4, i0, 0) = some (r1, .inr (6, [.ref ax1, .ref ay1, .int (nI R1.2.2)]))) (hX1 : M (5, i0, 0) = some (ax1, .inl (G.2.2.1, 8, .inl R1.1))) (hY1 : M (6, i0, 0) = some (ay1, .inl (G.2.2.1, 8, .inl R1.2.1))) (hs1 : R1.2.2 ≤ 8) : mp_Met l X G A yX5_empty wsX5_empty rmX5_empty ([.ref r1] : List Value) M (fun r M1 => r = none ∧ M1 = mp_set M (4, i0, 0) (r1, .inr (6, [.ref ax1, .ref ay1, .int (nI 0)]))) 0 0 := by
  refine mp_ofW (cc := cX5_empty) (maxL := 1) (ret := none) (by decide) rfl (Nat.le_of_ble_eq_true rfl) ?_
  intro p e s m below meth c ls hx hb hr hts hown hlocks hnm hml hC hM hS hl
  have hl : lv_has ls 1 [(0, .ref r1)] := hl
  have hown : s.vm.findClass RX5 = some m.cls := hown
  have hin_wsX50 : ∀ w ∈ wsX50, w ∈ wsX5_empty := fun _ h => List.mem_cons_of_mem _ (List.mem_append_right _ h)
  have fl_18 := hts (.fieldLink RX5 18 "PlanningBench$Ring" "size" "I") (List.mem_of_getElem? (i := 1) rfl)
  refine lv_aload_n hx hb dX5_empty_0 rfl (lv_at hl 0 rfl) ?_
  refine lv_iconst (v := (0 : Int32)) hx hb dX5_empty_1 (by decide) ?_
  refine mp_put (D := G.1) (C := RX5) (T := TX5) (N := 3) (ci := 6) hx hb hts hin_wsX50 tyX5 tyX5_ok nmX5 hown hC.1 hM hS hR1 rfl 2 (by decide) fl_18 (fun _ z => z) rfl rfl rfl (Nat.le_of_ble_eq_true rfl) dX5_empty_2 (fs' := [.ref ax1, .ref ay1, .int (0 : Int32)]) rfl (fun H locs hM hS => ?_)
  have hM : mp_P G.1 A (mp_set M (4, i0, 0) (r1, .inr (6, [.ref ax1, .ref ay1, .int (0 : Int32)]))) H := hM
  exact mp_vret hx hb hr hlocks (Nat.le_of_ble_eq_true rfl) (Nat.le_of_ble_eq_true rfl) hM hS dX5_empty_5 (⟨rfl, rfl⟩)
