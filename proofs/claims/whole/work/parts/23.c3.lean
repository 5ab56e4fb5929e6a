/-! ===== lists, and what constructors leave ===== -/
section CAQ
variable {p : Program} {l : Launch} {e : Env} {R : Room} {s : State} {m : MethodId} {args : Array Value} {below : List Frame} {meth : Method} {c : Code} {H : Heap} {locs : List Loc} {cells slots : Nat} {Q : State → Prop}
theorem ca_aald {cc : ByteArray} {pc : Nat} {ls : Array Slot} {rest : List Value} {X : mp_X} {G : mp_G} {A : Nat → Prop} {M : mp_M} {a n : Nat} {kn : mp_N} {g : Nat → Option Nat} (hx : p.tables.exec = Jvm.exec) (hb : c.code = cc) (hC : mp_C X G A s s.heap) (hM : mp_P G.1 A M H) (ha : M kn = some (a, .inl (G.2.2.2.2, n, .inr (.inr (.inr (.inr g)))))) {j q : Nat} (hj : j < n) (hl : n < 2 ^ 31) (hq : g j = some q) (hdg : decode cc pc = .ok (.aaload, 1))
    (kk : W p l e R s m args below meth c H locs cells slots Q (F0 m (pc + 1) ls (.ref q :: rest))) : W p l e R s m args below meth c H locs cells slots Q (F0 m pc ls (.int (nI j) :: .ref a :: rest)) := by
  refine va_aldq hx hb hC.1 (hM.one ha) 0 3 rfl rfl (vp_in_nI hj hl) hdg ?_
  rw [nI_clamp (Nat.lt_trans hj hl), hq]
  exact kk
theorem mp_callr {A : Nat → Prop} {D : va_G} {M0 : mp_M} {pc mc ms r : Nat} {ls : Array Slot} {rest st0 : List Value} {a : Array Value} (hr : va_Run p l e R s m args below meth c H locs cells slots mc ms (F0 m pc ls st0) rest (mp_Q D A (fun v M1 => v = some (.ref r) ∧ M1 = M0) a) A) (hS : va_S A s.heap H locs)
    (kk : ∀ (H1 : Heap) (locs1 : List Loc), mp_P D A M0 H1 → va_S A s.heap H1 locs1 → W p l e R s m args below meth c H1 locs1 (cells + mc) (slots + ms) Q (F0 m (pc + 3) ls (.ref r :: rest))) : W p l e R s m args below meth c H locs cells slots Q (F0 m pc ls st0) := mp_callD hr hS kk
end CAQ
/-- a list's object: how many, and where its array lies -/
def LsAt (M : mp_M) (a sz ad : Nat) : Prop := ∃ (k : mp_N) (mo : Int32), M k = some (a, .inr (0, [.int mo, .ref ad, .int (nI sz)]))
def DtAt (G : mp_G) (M : mp_M) (ad cap : Nat) (g : Nat → Option Nat) : Prop := ∃ k : mp_N, M k = some (ad, .inl (G.2.2.2.2, cap, .inr (.inr (.inr (.inr g)))))
abbrev rmX1_init : Room := { frames := 1, cells := 0, slots := 0, locals := 12 }
set_option maxHeartbeats 4000000 in
set_option maxRecDepth 100000 in
theorem c_X1_init (l : Launch) (X : mp_X) (G : mp_G) (A : Nat → Prop) (M : mp_M) (aq : Nat) (kn : mp_N) (pq : Int32) (x0 : Int32) (y0 : Int32) (x1 : Int32) (y1 : Int32) (ht : Int32) (us : Int32) (ha : M kn = some (aq, .inr (2, [.int (0 : Int32), .int (0 : Int32), .int (0 : Int32), .int (0 : Int32), .int (0 : Int32), .int (0 : Int32), .int (0 : Int32)]))) : mp_Met l X G A yX1_init wsX1_init rmX1_init ([.ref aq, .int pq, .int x0, .int y0, .int x1, .int y1, .int ht, .int us] : List Value) M (fun r M1 => r = none ∧ M1 = mp_set M kn (aq, .inr (2, [.int pq, .int x0, .int y0, .int x1, .int y1, .int ht, .int us]))) 0 0 := by
  refine mp_ofW (cc := cX1_init) (maxL := 8) (ret := none) (by decide) rfl (Nat.le_of_ble_eq_true rfl) ?_
  intro p e s m below meth c ls hx hb hr hts hown hlocks hnm hml hC hM hS hl
  have hl : lv_has ls 8 [(0, .ref aq), (1, .int pq), (2, .int x0), (3, .int y0), (4, .int x1), (5, .int y1), (6, .int ht), (7, .int us)] := hl
  have hown : s.vm.findClass RX1 = some m.cls := hown
  have oi_l := hts (.methodLink RX1 1 objectInit) (List.mem_of_getElem? (i := 1) rfl)
  have oi_i := hts (.instanceMethod objectInit) (List.mem_of_getElem? (i := 2) rfl)
  have oi_c := hts (.code objectInit ⟨#[0xb1]⟩ 1 none) (List.mem_of_getElem? (i := 3) rfl)
  have hin_wsX10 : ∀ w ∈ wsX10, w ∈ wsX1_init := fun _ h => List.mem_cons_of_mem _ (List.mem_append_right _ h)
  have fl_7 := hts (.fieldLink RX1 7 "PlanningBench$Design" "plot" "I") (List.mem_of_getElem? (i := 4) rfl)
  have fl_13 := hts (.fieldLink RX1 13 "PlanningBench$Design" "x0" "I") (List.mem_of_getElem? (i := 5) rfl)
  have fl_16 := hts (.fieldLink RX1 16 "PlanningBench$Design" "y0" "I") (List.mem_of_getElem? (i := 6) rfl)
  have fl_19 := hts (.fieldLink RX1 19 "PlanningBench$Design" "x1" "I") (List.mem_of_getElem? (i := 7) rfl)
  have fl_22 := hts (.fieldLink RX1 22 "PlanningBench$Design" "y1" "I") (List.mem_of_getElem? (i := 8) rfl)
  have fl_25 := hts (.fieldLink RX1 25 "PlanningBench$Design" "height" "I") (List.mem_of_getElem? (i := 9) rfl)
  have fl_28 := hts (.fieldLink RX1 28 "PlanningBench$Design" "use" "I") (List.mem_of_getElem? (i := 10) rfl)
  refine lv_aload_n hx hb dX1_init_0 rfl (lv_at hl 0 rfl) ?_
  refine W.objInit hx hb hown oi_l oi_i oi_c rfl (hl.1.trans hml.symm) rfl dX1_init_1 (Nat.le_of_ble_eq_true rfl) (Nat.le_of_ble_eq_true rfl) ?_
  refine lv_aload_n hx hb dX1_init_4 rfl (lv_at hl 0 rfl) ?_
  refine lv_iload_n hx hb dX1_init_5 rfl (lv_at hl 1 rfl) ?_
  refine mp_putF (D := G.1) (C := RX1) (T := TX1) (N := 7) (ci := 2) hx hb hts hin_wsX10 tyX1 tyX1_ok nmX1 hown hC.1 hM hS ha rfl 0 (by decide) fl_7 (fun _ z => z) rfl hnm rfl rfl rfl (Nat.le_of_ble_eq_true rfl) dX1_init_6 (fs' := [.int pq, .int (0 : Int32), .int (0 : Int32), .int (0 : Int32), .int (0 : Int32), .int (0 : Int32), .int (0 : Int32)]) rfl (fun H locs hM hS => ?_)
  have hM : mp_P G.1 A (mp_set M kn (aq, .inr (2, [.int pq, .int (0 : Int32), .int (0 : Int32), .int (0 : Int32), .int (0 : Int32), .int (0 : Int32), .int (0 : Int32)]))) H := hM
  refine lv_aload_n hx hb dX1_init_9 rfl (lv_at hl 0 rfl) ?_
  refine lv_iload_n hx hb dX1_init_10 rfl (lv_at hl 2 rfl) ?_
  refine mp_putF (D := G.1) (C := RX1) (T := TX1) (N := 7) (ci := 2) hx hb hts hin_wsX10 tyX1 tyX1_ok nmX1 hown hC.1 hM hS (mp_set_s _ _ _) rfl 1 (by decide) fl_13 (fun _ z => z) rfl hnm rfl rfl rfl (Nat.le_of_ble_eq_true rfl) dX1_init_11 (fs' := [.int pq, .int x0, .int (0 : Int32), .int (0 : Int32), .int (0 : Int32), .int (0 : Int32), .int (0 : Int32)]) rfl (fun H locs hM hS => ?_)
  rw [mp_set_set] at hM
  have hM : mp_P G.1 A (mp_set M kn (aq, .inr (2, [.int pq, .int x0, .int (0 : Int32), .int (0 : Int32), .int (0 : Int32), .int (0 : Int32), .int (0 : Int32)]))) H := hM
  refine lv_aload_n hx hb dX1_init_14 rfl (lv_at hl 0 rfl) ?_
  refine lv_iload_n hx hb dX1_init_15 rfl (lv_at hl 3 rfl) ?_
  refine mp_putF (D := G.1) (C := RX1) (T := TX1) (N := 7) (ci := 2) hx hb hts hin_wsX10 tyX1 tyX1_ok nmX1 hown hC.1 hM hS (mp_set_s _ _ _) rfl 2 (by decide) fl_16 (fun _ z => z) rfl hnm rfl rfl rfl (Nat.le_of_ble_eq_true rfl) dX1_init_16 (fs' := [.int pq, .int x0, .int y0, .int (0 : Int32), .int (0 : Int32), .int (0 : Int32), .int (0 : Int32)]) rfl (fun H locs hM hS => ?_)
  rw [mp_set_set] at hM
  have hM : mp_P G.1 A (mp_set M kn (aq, .inr (2, [.int pq, .int x0, .int y0, .int (0 : Int32), .int (0 : Int32), .int (0 : Int32), .int (0 : Int32)]))) H := hM
  refine lv_aload_n hx hb dX1_init_19 rfl (lv_at hl 0 rfl) ?_
  refine lv_iload hx hb dX1_init_20 (lv_at hl 4 rfl) ?_
  refine mp_putF (D := G.1) (C := RX1) (T := TX1) (N := 7) (ci := 2) hx hb hts hin_wsX10 tyX1 tyX1_ok nmX1 hown hC.1 hM hS (mp_set_s _ _ _) rfl 3 (by decide) fl_19 (fun _ z => z) rfl hnm rfl rfl rfl (Nat.le_of_ble_eq_true rfl) dX1_init_22 (fs' := [.int pq, .int x0, .int y0, .int x1, .int (0 : Int32), .int (0 : Int32), .int (0 : Int32)]) rfl (fun H locs hM hS => ?_)
  rw [mp_set_set] at hM
  have hM : mp_P G.1 A (mp_set M kn (aq, .inr (2, [.int pq, .int x0, .int y0, .int x1, .int (0 : Int32), .int (0 : Int32), .int (0 : Int32)]))) H := hM
  refine lv_aload_n hx hb dX1_init_25 rfl (lv_at hl 0 rfl) ?_
  refine lv_iload hx hb dX1_init_26 (lv_at hl 5 rfl) ?_
  refine mp_putF (D := G.1) (C := RX1) (T := TX1) (N := 7) (ci := 2) hx hb hts hin_wsX10 tyX1 tyX1_ok nmX1 hown hC.1 hM hS (mp_set_s _ _ _) rfl 4 (by decide) fl_22 (fun _ z => z) rfl hnm rfl rfl rfl (Nat.le_of_ble_eq_true rfl) dX1_init_28 (fs' := [.int pq, .int x0, .int y0, .int x1, .int y1, .int (0 : Int32), .int (0 : Int32)]) rfl (fun H locs hM hS => ?_)
  rw [mp_set_set] at hM
  have hM : mp_P G.1 A (mp_set M kn (aq, .inr (2, [.int pq, .int x0, .int y0, .int x1, .int y1, .int (0 : Int32), .int (0 : Int32)]))) H := hM
  refine lv_aload_n hx hb dX1_init_31 rfl (lv_at hl 0 rfl) ?_
  refine lv_iload hx hb dX1_init_32 (lv_at hl 6 rfl) ?_
  refine mp_putF (D := G.1) (C := RX1) (T := TX1) (N := 7) (ci := 2) hx hb hts hin_wsX10 tyX1 tyX1_ok nmX1 hown hC.1 hM hS (mp_set_s _ _ _) rfl 5 (by decide) fl_25 (fun _ z => z) rfl hnm rfl rfl rfl (Nat.le_of_ble_eq_true rfl) dX1_init_34 (fs' := [.int pq, .int x0, .int y0, .int x1, .int y1, .int ht, .int (0 : Int32)]) rfl (fun H locs hM hS => ?_)
  rw [mp_set_set] at hM
  have hM : mp_P G.1 A (mp_set M kn (aq, .inr (2, [.int pq, .int x0, .int y0, .int x1, .int y1, .int ht, .int (0 : Int32)]))) H := hM
  refine lv_aload_n hx hb dX1_init_37 rfl (lv_at hl 0 rfl) ?_
  refine lv_iload hx hb dX1_init_38 (lv_at hl 7 rfl) ?_
  refine mp_putF (D := G.1) (C := RX1) (T := TX1) (N := 7) (ci := 2) hx hb hts hin_wsX10 tyX1 tyX1_ok nmX1 hown hC.1 hM hS (mp_set_s _ _ _) rfl 6 (by decide) fl_28 (fun _ z => z) rfl hnm rfl rfl rfl (Nat.le_of_ble_eq_true rfl) dX1_init_40 (fs' := [.int pq, .int x0, .int y0, .int x1, .int y1, .int ht, .int us]) rfl (fun H locs hM hS => ?_)
  rw [mp_set_set] at hM
  have hM : mp_P G.1 A (mp_set M kn (aq, .inr (2, [.int pq, .int x0, .int y0, .int x1, .int y1, .int ht, .int us]))) H := hM
  exact mp_vret hx hb hr hlocks (Nat.le_of_ble_eq_true rfl) (Nat.le_of_ble_eq_true rfl) hM hS dX1_init_43 (⟨rfl, rfl⟩)
abbrev rmX2_init : Room := { frames := 1, cells := 0, slots := 0, locals := 12 }
set_option maxHeartbeats 4000000 in
set_option maxRecDepth 100000 in
theorem c_X2_init (l : Launch) (X : mp_X) (G : mp_G) (A : Nat → Prop) (M : mp_M) (aq : Nat) (kn : mp_N) (pq : Int32) (w : Int32) (t : Int32) (td : Int32) (ha : M kn = some (aq, .inr (3, [.int (0 : Int32), .int (0 : Int32), .int (0 : Int32), .int (0 : Int32)]))) : mp_Met l X G A yX2_init wsX2_init rmX2_init ([.ref aq, .int pq, .int w, .int t, .int td] : List Value) M (fun r M1 => r = none ∧ M1 = mp_set M kn (aq, .inr (3, [.int pq, .int w, .int t, .int td]))) 0 0 := by
  refine mp_ofW (cc := cX2_init) (maxL := 5) (ret := none) (by decide) rfl (Nat.le_of_ble_eq_true rfl) ?_
  intro p e s m below meth c ls hx hb hr hts hown hlocks hnm hml hC hM hS hl
  have hl : lv_has ls 5 [(0, .ref aq), (1, .int pq), (2, .int w), (3, .int t), (4, .int td)] := hl
  have hown : s.vm.findClass RX2 = some m.cls := hown
  have oi_l := hts (.methodLink RX2 1 objectInit) (List.mem_of_getElem? (i := 1) rfl)
  have oi_i := hts (.instanceMethod objectInit) (List.mem_of_getElem? (i := 2) rfl)
  have oi_c := hts (.code objectInit ⟨#[0xb1]⟩ 1 none) (List.mem_of_getElem? (i := 3) rfl)
  have hin_wsX20 : ∀ w ∈ wsX20, w ∈ wsX2_init := fun _ h => List.mem_cons_of_mem _ (List.mem_append_right _ h)
  have fl_7 := hts (.fieldLink RX2 7 "PlanningBench$Holding" "plot" "I") (List.mem_of_getElem? (i := 4) rfl)
  have fl_13 := hts (.fieldLink RX2 13 "PlanningBench$Holding" "person" "I") (List.mem_of_getElem? (i := 5) rfl)
  have fl_16 := hts (.fieldLink RX2 16 "PlanningBench$Holding" "since" "I") (List.mem_of_getElem? (i := 6) rfl)
  have fl_19 := hts (.fieldLink RX2 19 "PlanningBench$Holding" "knownFrom" "I") (List.mem_of_getElem? (i := 7) rfl)
  refine lv_aload_n hx hb dX2_init_0 rfl (lv_at hl 0 rfl) ?_
  refine W.objInit hx hb hown oi_l oi_i oi_c rfl (hl.1.trans hml.symm) rfl dX2_init_1 (Nat.le_of_ble_eq_true rfl) (Nat.le_of_ble_eq_true rfl) ?_
  refine lv_aload_n hx hb dX2_init_4 rfl (lv_at hl 0 rfl) ?_
  refine lv_iload_n hx hb dX2_init_5 rfl (lv_at hl 1 rfl) ?_
  refine mp_putF (D := G.1) (C := RX2) (T := TX2) (N := 4) (ci := 3) hx hb hts hin_wsX20 tyX2 tyX2_ok nmX2 hown hC.1 hM hS ha rfl 0 (by decide) fl_7 (fun _ z => z) rfl hnm rfl rfl rfl (Nat.le_of_ble_eq_true rfl) dX2_init_6 (fs' := [.int pq, .int (0 : Int32), .int (0 : Int32), .int (0 : Int32)]) rfl (fun H locs hM hS => ?_)
  have hM : mp_P G.1 A (mp_set M kn (aq, .inr (3, [.int pq, .int (0 : Int32), .int (0 : Int32), .int (0 : Int32)]))) H := hM
  refine lv_aload_n hx hb dX2_init_9 rfl (lv_at hl 0 rfl) ?_
  refine lv_iload_n hx hb dX2_init_10 rfl (lv_at hl 2 rfl) ?_
  refine mp_putF (D := G.1) (C := RX2) (T := TX2) (N := 4) (ci := 3) hx hb hts hin_wsX20 tyX2 tyX2_ok nmX2 hown hC.1 hM hS (mp_set_s _ _ _) rfl 1 (by decide) fl_13 (fun _ z => z) rfl hnm rfl rfl rfl (Nat.le_of_ble_eq_true rfl) dX2_init_11 (fs' := [.int pq, .int w, .int (0 : Int32), .int (0 : Int32)]) rfl (fun H locs hM hS => ?_)
  rw [mp_set_set] at hM
  have hM : mp_P G.1 A (mp_set M kn (aq, .inr (3, [.int pq, .int w, .int (0 : Int32), .int (0 : Int32)]))) H := hM
  refine lv_aload_n hx hb dX2_init_14 rfl (lv_at hl 0 rfl) ?_
  refine lv_iload_n hx hb dX2_init_15 rfl (lv_at hl 3 rfl) ?_
  refine mp_putF (D := G.1) (C := RX2) (T := TX2) (N := 4) (ci := 3) hx hb hts hin_wsX20 tyX2 tyX2_ok nmX2 hown hC.1 hM hS (mp_set_s _ _ _) rfl 2 (by decide) fl_16 (fun _ z => z) rfl hnm rfl rfl rfl (Nat.le_of_ble_eq_true rfl) dX2_init_16 (fs' := [.int pq, .int w, .int t, .int (0 : Int32)]) rfl (fun H locs hM hS => ?_)
  rw [mp_set_set] at hM
  have hM : mp_P G.1 A (mp_set M kn (aq, .inr (3, [.int pq, .int w, .int t, .int (0 : Int32)]))) H := hM
  refine lv_aload_n hx hb dX2_init_19 rfl (lv_at hl 0 rfl) ?_
  refine lv_iload hx hb dX2_init_20 (lv_at hl 4 rfl) ?_
  refine mp_putF (D := G.1) (C := RX2) (T := TX2) (N := 4) (ci := 3) hx hb hts hin_wsX20 tyX2 tyX2_ok nmX2 hown hC.1 hM hS (mp_set_s _ _ _) rfl 3 (by decide) fl_19 (fun _ z => z) rfl hnm rfl rfl rfl (Nat.le_of_ble_eq_true rfl) dX2_init_22 (fs' := [.int pq, .int w, .int t, .int td]) rfl (fun H locs hM hS => ?_)
  rw [mp_set_set] at hM
  have hM : mp_P G.1 A (mp_set M kn (aq, .inr (3, [.int pq, .int w, .int t, .int td]))) H := hM
  exact mp_vret hx hb hr hlocks (Nat.le_of_ble_eq_true rfl) (Nat.le_of_ble_eq_true rfl) hM hS dX2_init_25 (⟨rfl, rfl⟩)
abbrev rmX6_init : Room := { frames := 1, cells := 0, slots := 0, locals := 12 }
set_option maxHeartbeats 4000000 in
set_option maxRecDepth 100000 in
theorem c_X6_init (l : Launch) (X : mp_X) (G : mp_G) (A : Nat → Prop) (M : mp_M) (aq : Nat) (kn : mp_N)  (ha : M kn = some (aq, .inr (7, [.int (0 : Int32), .int (0 : Int32), .int (0 : Int32), .int (0 : Int32), .int (0 : Int32), .int (0 : Int32)]))) : mp_Met l X G A yX6_init wsX6_init rmX6_init ([.ref aq] : List Value) M (fun r M1 => r = none ∧ M1 = mp_set M kn (aq, .inr (7, [.int (0 : Int32), .int (0 : Int32), .int (-1 : Int32), .int (-1 : Int32), .int (-1 : Int32), .int (-1 : Int32)]))) 0 0 := by
  refine mp_ofW (cc := cX6_init) (maxL := 1) (ret := none) (by decide) rfl (Nat.le_of_ble_eq_true rfl) ?_
  intro p e s m below meth c ls hx hb hr hts hown hlocks hnm hml hC hM hS hl
  have hl : lv_has ls 1 [(0, .ref aq)] := hl
  have hown : s.vm.findClass RX6 = some m.cls := hown
  have oi_l := hts (.methodLink RX6 3 objectInit) (List.mem_of_getElem? (i := 1) rfl)
  have oi_i := hts (.instanceMethod objectInit) (List.mem_of_getElem? (i := 2) rfl)
  have oi_c := hts (.code objectInit ⟨#[0xb1]⟩ 1 none) (List.mem_of_getElem? (i := 3) rfl)
  have hin_wsX60 : ∀ w ∈ wsX60, w ∈ wsX6_init := fun _ h => List.mem_cons_of_mem _ (List.mem_append_right _ h)
  have fl_9 := hts (.fieldLink RX6 9 "PlanningBench$Zone" "plots" "I") (List.mem_of_getElem? (i := 4) rfl)
  have fl_15 := hts (.fieldLink RX6 15 "PlanningBench$Zone" "uses" "I") (List.mem_of_getElem? (i := 5) rfl)
  have fl_18 := hts (.fieldLink RX6 18 "PlanningBench$Zone" "height" "I") (List.mem_of_getElem? (i := 6) rfl)
  have fl_21 := hts (.fieldLink RX6 21 "PlanningBench$Zone" "cover" "I") (List.mem_of_getElem? (i := 7) rfl)
  have fl_24 := hts (.fieldLink RX6 24 "PlanningBench$Zone" "edge" "I") (List.mem_of_getElem? (i := 8) rfl)
  have fl_27 := hts (.fieldLink RX6 27 "PlanningBench$Zone" "shade" "I") (List.mem_of_getElem? (i := 9) rfl)
  refine lv_aload_n hx hb dX6_init_0 rfl (lv_at hl 0 rfl) ?_
  refine W.objInit hx hb hown oi_l oi_i oi_c rfl (hl.1.trans hml.symm) rfl dX6_init_1 (Nat.le_of_ble_eq_true rfl) (Nat.le_of_ble_eq_true rfl) ?_
  refine lv_aload_n hx hb dX6_init_4 rfl (lv_at hl 0 rfl) ?_
  refine lv_iconst (v := (0 : Int32)) hx hb dX6_init_5 (by decide) ?_
  refine mp_put (D := G.1) (C := RX6) (T := TX6) (N := 6) (ci := 7) hx hb hts hin_wsX60 tyX6 tyX6_ok nmX6 hown hC.1 hM hS ha rfl 0 (by decide) fl_9 (fun _ z => z) rfl rfl rfl (Nat.le_of_ble_eq_true rfl) dX6_init_6 (fs' := [.int (0 : Int32), .int (0 : Int32), .int (0 : Int32), .int (0 : Int32), .int (0 : Int32), .int (0 : Int32)]) rfl (fun H locs hM hS => ?_)
  have hM : mp_P G.1 A (mp_set M kn (aq, .inr (7, [.int (0 : Int32), .int (0 : Int32), .int (0 : Int32), .int (0 : Int32), .int (0 : Int32), .int (0 : Int32)]))) H := hM
  refine lv_aload_n hx hb dX6_init_9 rfl (lv_at hl 0 rfl) ?_
  refine lv_iconst (v := (0 : Int32)) hx hb dX6_init_10 (by decide) ?_
  refine mp_put (D := G.1) (C := RX6) (T := TX6) (N := 6) (ci := 7) hx hb hts hin_wsX60 tyX6 tyX6_ok nmX6 hown hC.1 hM hS (mp_set_s _ _ _) rfl 1 (by decide) fl_15 (fun _ z => z) rfl rfl rfl (Nat.le_of_ble_eq_true rfl) dX6_init_11 (fs' := [.int (0 : Int32), .int (0 : Int32), .int (0 : Int32), .int (0 : Int32), .int (0 : Int32), .int (0 : Int32)]) rfl (fun H locs hM hS => ?_)
  rw [mp_set_set] at hM
  have hM : mp_P G.1 A (mp_set M kn (aq, .inr (7, [.int (0 : Int32), .int (0 : Int32), .int (0 : Int32), .int (0 : Int32), .int (0 : Int32), .int (0 : Int32)]))) H := hM
  refine lv_aload_n hx hb dX6_init_14 rfl (lv_at hl 0 rfl) ?_
  refine lv_iconst (v := (-1 : Int32)) hx hb dX6_init_15 (by decide) ?_
  refine mp_put (D := G.1) (C := RX6) (T := TX6) (N := 6) (ci := 7) hx hb hts hin_wsX60 tyX6 tyX6_ok nmX6 hown hC.1 hM hS (mp_set_s _ _ _) rfl 2 (by decide) fl_18 (fun _ z => z) rfl rfl rfl (Nat.le_of_ble_eq_true rfl) dX6_init_16 (fs' := [.int (0 : Int32), .int (0 : Int32), .int (-1 : Int32), .int (0 : Int32), .int (0 : Int32), .int (0 : Int32)]) rfl (fun H locs hM hS => ?_)
  rw [mp_set_set] at hM
  have hM : mp_P G.1 A (mp_set M kn (aq, .inr (7, [.int (0 : Int32), .int (0 : Int32), .int (-1 : Int32), .int (0 : Int32), .int (0 : Int32), .int (0 : Int32)]))) H := hM
  refine lv_aload_n hx hb dX6_init_19 rfl (lv_at hl 0 rfl) ?_
  refine lv_iconst (v := (-1 : Int32)) hx hb dX6_init_20 (by decide) ?_
  refine mp_put (D := G.1) (C := RX6) (T := TX6) (N := 6) (ci := 7) hx hb hts hin_wsX60 tyX6 tyX6_ok nmX6 hown hC.1 hM hS (mp_set_s _ _ _) rfl 3 (by decide) fl_21 (fun _ z => z) rfl rfl rfl (Nat.le_of_ble_eq_true rfl) dX6_init_21 (fs' := [.int (0 : Int32), .int (0 : Int32), .int (-1 : Int32), .int (-1 : Int32), .int (0 : Int32), .int (0 : Int32)]) rfl (fun H locs hM hS => ?_)
  rw [mp_set_set] at hM
  have hM : mp_P G.1 A (mp_set M kn (aq, .inr (7, [.int (0 : Int32), .int (0 : Int32), .int (-1 : Int32), .int (-1 : Int32), .int (0 : Int32), .int (0 : Int32)]))) H := hM
  refine lv_aload_n hx hb dX6_init_24 rfl (lv_at hl 0 rfl) ?_
  refine lv_iconst (v := (-1 : Int32)) hx hb dX6_init_25 (by decide) ?_
  refine mp_put (D := G.1) (C := RX6) (T := TX6) (N := 6) (ci := 7) hx hb hts hin_wsX60 tyX6 tyX6_ok nmX6 hown hC.1 hM hS (mp_set_s _ _ _) rfl 4 (by decide) fl_24 (fun _ z => z) rfl rfl rfl (Nat.le_of_ble_eq_true rfl) dX6_init_26 (fs' := [.int (0 : Int32), .int (0 : Int32), .int (-1 : Int32), .int (-1 : Int32), .int (-1 : Int32), .int (0 : Int32)]) rfl (fun H locs hM hS => ?_)
  rw [mp_set_set] at hM
  have hM : mp_P G.1 A (mp_set M kn (aq, .inr (7, [.int (0 : Int32), .int (0 : Int32), .int (-1 : Int32), .int (-1 : Int32), .int (-1 : Int32), .int (0 : Int32)]))) H := hM
  refine lv_aload_n hx hb dX6_init_29 rfl (lv_at hl 0 rfl) ?_
  refine lv_iconst (v := (-1 : Int32)) hx hb dX6_init_30 (by decide) ?_
  refine mp_put (D := G.1) (C := RX6) (T := TX6) (N := 6) (ci := 7) hx hb hts hin_wsX60 tyX6 tyX6_ok nmX6 hown hC.1 hM hS (mp_set_s _ _ _) rfl 5 (by decide) fl_27 (fun _ z => z) rfl rfl rfl (Nat.le_of_ble_eq_true rfl) dX6_init_31 (fs' := [.int (0 : Int32), .int (0 : Int32), .int (-1 : Int32), .int (-1 : Int32), .int (-1 : Int32), .int (-1 : Int32)]) rfl (fun H locs hM hS => ?_)
  rw [mp_set_set] at hM
  have hM : mp_P G.1 A (mp_set M kn (aq, .inr (7, [.int (0 : Int32), .int (0 : Int32), .int (-1 : Int32), .int (-1 : Int32), .int (-1 : Int32), .int (-1 : Int32)]))) H := hM
  exact mp_vret hx hb hr hlocks (Nat.le_of_ble_eq_true rfl) (Nat.le_of_ble_eq_true rfl) hM hS dX6_init_34 (⟨rfl, rfl⟩)
abbrev rmX0_init : Room := { frames := 1, cells := 0, slots := 0, locals := 12 }
set_option maxHeartbeats 4000000 in
set_option maxRecDepth 100000 in
theorem c_X0_init (l : Launch) (X : mp_X) (G : mp_G) (A : Nat → Prop) (M : mp_M) (aq : Nat) (kn : mp_N) (dq : Nat) (td : Int32) (ha : M kn = some (aq, .inr (1, [.null, .int (0 : Int32), .int (0 : Int32), .int (0 : Int32), .int (0 : Int32), .int (0 : Int32), .int (0 : Int32), .int (0 : Int32), .int (0 : Int32), .int (0 : Int32), .int (0 : Int32), .int (0 : Int32)]))) : mp_Met l X G A yX0_init wsX0_init rmX0_init ([.ref aq, .ref dq, .int td] : List Value) M (fun r M1 => r = none ∧ M1 = mp_set M kn (aq, .inr (1, [.ref dq, .int td, .int (0 : Int32), .int (0 : Int32), .int (0 : Int32), .int (0 : Int32), .int (-1 : Int32), .int (-1 : Int32), .int (-1 : Int32), .int (0 : Int32), .int (-1 : Int32), .int (-1 : Int32)]))) 0 0 := by
  refine mp_ofW (cc := cX0_init) (maxL := 3) (ret := none) (by decide) rfl (Nat.le_of_ble_eq_true rfl) ?_
  intro p e s m below meth c ls hx hb hr hts hown hlocks hnm hml hC hM hS hl
  have hl : lv_has ls 3 [(0, .ref aq), (1, .ref dq), (2, .int td)] := hl
  have hown : s.vm.findClass RX0 = some m.cls := hown
  have oi_l := hts (.methodLink RX0 3 objectInit) (List.mem_of_getElem? (i := 1) rfl)
  have oi_i := hts (.instanceMethod objectInit) (List.mem_of_getElem? (i := 2) rfl)
  have oi_c := hts (.code objectInit ⟨#[0xb1]⟩ 1 none) (List.mem_of_getElem? (i := 3) rfl)
  have hin_wsX00 : ∀ w ∈ wsX00, w ∈ wsX0_init := fun _ h => List.mem_cons_of_mem _ (List.mem_append_right _ h)
  have fl_9 := hts (.fieldLink RX0 9 "PlanningBench$Application" "state" "I") (List.mem_of_getElem? (i := 4) rfl)
  have fl_15 := hts (.fieldLink RX0 15 "PlanningBench$Application" "objectors" "I") (List.mem_of_getElem? (i := 5) rfl)
  have fl_18 := hts (.fieldLink RX0 18 "PlanningBench$Application" "weight" "I") (List.mem_of_getElem? (i := 6) rfl)
  have fl_21 := hts (.fieldLink RX0 21 "PlanningBench$Application" "refusedBy" "I") (List.mem_of_getElem? (i := 7) rfl)
  have fl_24 := hts (.fieldLink RX0 24 "PlanningBench$Application" "decidedDay" "I") (List.mem_of_getElem? (i := 8) rfl)
  have fl_27 := hts (.fieldLink RX0 27 "PlanningBench$Application" "begunDay" "I") (List.mem_of_getElem? (i := 9) rfl)
  have fl_30 := hts (.fieldLink RX0 30 "PlanningBench$Application" "doneDay" "I") (List.mem_of_getElem? (i := 10) rfl)
  have fl_33 := hts (.fieldLink RX0 33 "PlanningBench$Application" "appealed" "Z") (List.mem_of_getElem? (i := 11) rfl)
  have fl_37 := hts (.fieldLink RX0 37 "PlanningBench$Application" "razedSince" "I") (List.mem_of_getElem? (i := 12) rfl)
  have fl_40 := hts (.fieldLink RX0 40 "PlanningBench$Application" "razeKnownFrom" "I") (List.mem_of_getElem? (i := 13) rfl)
  have fl_43 := hts (.fieldLink RX0 43 "PlanningBench$Application" "design" "LPlanningBench$Design;") (List.mem_of_getElem? (i := 14) rfl)
  have fl_47 := hts (.fieldLink RX0 47 "PlanningBench$Application" "day" "I") (List.mem_of_getElem? (i := 15) rfl)
  refine lv_aload_n hx hb dX0_init_0 rfl (lv_at hl 0 rfl) ?_
  refine W.objInit hx hb hown oi_l oi_i oi_c rfl (hl.1.trans hml.symm) rfl dX0_init_1 (Nat.le_of_ble_eq_true rfl) (Nat.le_of_ble_eq_true rfl) ?_
  refine lv_aload_n hx hb dX0_init_4 rfl (lv_at hl 0 rfl) ?_
  refine lv_iconst (v := (0 : Int32)) hx hb dX0_init_5 (by decide) ?_
  refine mp_put (D := G.1) (C := RX0) (T := TX0) (N := 12) (ci := 1) hx hb hts hin_wsX00 tyX0 tyX0_ok nmX0 hown hC.1 hM hS ha rfl 2 (by decide) fl_9 (fun _ z => z) rfl rfl rfl (Nat.le_of_ble_eq_true rfl) dX0_init_6 (fs' := [.null, .int (0 : Int32), .int (0 : Int32), .int (0 : Int32), .int (0 : Int32), .int (0 : Int32), .int (0 : Int32), .int (0 : Int32), .int (0 : Int32), .int (0 : Int32), .int (0 : Int32), .int (0 : Int32)]) rfl (fun H locs hM hS => ?_)
  have hM : mp_P G.1 A (mp_set M kn (aq, .inr (1, [.null, .int (0 : Int32), .int (0 : Int32), .int (0 : Int32), .int (0 : Int32), .int (0 : Int32), .int (0 : Int32), .int (0 : Int32), .int (0 : Int32), .int (0 : Int32), .int (0 : Int32), .int (0 : Int32)]))) H := hM
  refine lv_aload_n hx hb dX0_init_9 rfl (lv_at hl 0 rfl) ?_
  refine lv_iconst (v := (0 : Int32)) hx hb dX0_init_10 (by decide) ?_
  refine mp_put (D := G.1) (C := RX0) (T := TX0) (N := 12) (ci := 1) hx hb hts hin_wsX00 tyX0 tyX0_ok nmX0 hown hC.1 hM hS (mp_set_s _ _ _) rfl 3 (by decide) fl_15 (fun _ z => z) rfl rfl rfl (Nat.le_of_ble_eq_true rfl) dX0_init_11 (fs' := [.null, .int (0 : Int32), .int (0 : Int32), .int (0 : Int32), .int (0 : Int32), .int (0 : Int32), .int (0 : Int32), .int (0 : Int32), .int (0 : Int32), .int (0 : Int32), .int (0 : Int32), .int (0 : Int32)]) rfl (fun H locs hM hS => ?_)
  rw [mp_set_set] at hM
  have hM : mp_P G.1 A (mp_set M kn (aq, .inr (1, [.null, .int (0 : Int32), .int (0 : Int32), .int (0 : Int32), .int (0 : Int32), .int (0 : Int32), .int (0 : Int32), .int (0 : Int32), .int (0 : Int32), .int (0 : Int32), .int (0 : Int32), .int (0 : Int32)]))) H := hM
  refine lv_aload_n hx hb dX0_init_14 rfl (lv_at hl 0 rfl) ?_
  refine lv_iconst (v := (0 : Int32)) hx hb dX0_init_15 (by decide) ?_
  refine mp_put (D := G.1) (C := RX0) (T := TX0) (N := 12) (ci := 1) hx hb hts hin_wsX00 tyX0 tyX0_ok nmX0 hown hC.1 hM hS (mp_set_s _ _ _) rfl 4 (by decide) fl_18 (fun _ z => z) rfl rfl rfl (Nat.le_of_ble_eq_true rfl) dX0_init_16 (fs' := [.null, .int (0 : Int32), .int (0 : Int32), .int (0 : Int32), .int (0 : Int32), .int (0 : Int32), .int (0 : Int32), .int (0 : Int32), .int (0 : Int32), .int (0 : Int32), .int (0 : Int32), .int (0 : Int32)]) rfl (fun H locs hM hS => ?_)
  rw [mp_set_set] at hM
  have hM : mp_P G.1 A (mp_set M kn (aq, .inr (1, [.null, .int (0 : Int32), .int (0 : Int32), .int (0 : Int32), .int (0 : Int32), .int (0 : Int32), .int (0 : Int32), .int (0 : Int32), .int (0 : Int32), .int (0 : Int32), .int (0 : Int32), .int (0 : Int32)]))) H := hM
  refine lv_aload_n hx hb dX0_init_19 rfl (lv_at hl 0 rfl) ?_
  refine lv_iconst (v := (0 : Int32)) hx hb dX0_init_20 (by decide) ?_
  refine mp_put (D := G.1) (C := RX0) (T := TX0) (N := 12) (ci := 1) hx hb hts hin_wsX00 tyX0 tyX0_ok nmX0 hown hC.1 hM hS (mp_set_s _ _ _) rfl 5 (by decide) fl_21 (fun _ z => z) rfl rfl rfl (Nat.le_of_ble_eq_true rfl) dX0_init_21 (fs' := [.null, .int (0 : Int32), .int (0 : Int32), .int (0 : Int32), .int (0 : Int32), .int (0 : Int32), .int (0 : Int32), .int (0 : Int32), .int (0 : Int32), .int (0 : Int32), .int (0 : Int32), .int (0 : Int32)]) rfl (fun H locs hM hS => ?_)
  rw [mp_set_set] at hM
  have hM : mp_P G.1 A (mp_set M kn (aq, .inr (1, [.null, .int (0 : Int32), .int (0 : Int32), .int (0 : Int32), .int (0 : Int32), .int (0 : Int32), .int (0 : Int32), .int (0 : Int32), .int (0 : Int32), .int (0 : Int32), .int (0 : Int32), .int (0 : Int32)]))) H := hM
  refine lv_aload_n hx hb dX0_init_24 rfl (lv_at hl 0 rfl) ?_
  refine lv_iconst (v := (-1 : Int32)) hx hb dX0_init_25 (by decide) ?_
  refine mp_put (D := G.1) (C := RX0) (T := TX0) (N := 12) (ci := 1) hx hb hts hin_wsX00 tyX0 tyX0_ok nmX0 hown hC.1 hM hS (mp_set_s _ _ _) rfl 6 (by decide) fl_24 (fun _ z => z) rfl rfl rfl (Nat.le_of_ble_eq_true rfl) dX0_init_26 (fs' := [.null, .int (0 : Int32), .int (0 : Int32), .int (0 : Int32), .int (0 : Int32), .int (0 : Int32), .int (-1 : Int32), .int (0 : Int32), .int (0 : Int32), .int (0 : Int32), .int (0 : Int32), .int (0 : Int32)]) rfl (fun H locs hM hS => ?_)
  rw [mp_set_set] at hM
  have hM : mp_P G.1 A (mp_set M kn (aq, .inr (1, [.null, .int (0 : Int32), .int (0 : Int32), .int (0 : Int32), .int (0 : Int32), .int (0 : Int32), .int (-1 : Int32), .int (0 : Int32), .int (0 : Int32), .int (0 : Int32), .int (0 : Int32), .int (0 : Int32)]))) H := hM
  refine lv_aload_n hx hb dX0_init_29 rfl (lv_at hl 0 rfl) ?_
  refine lv_iconst (v := (-1 : Int32)) hx hb dX0_init_30 (by decide) ?_
  refine mp_put (D := G.1) (C := RX0) (T := TX0) (N := 12) (ci := 1) hx hb hts hin_wsX00 tyX0 tyX0_ok nmX0 hown hC.1 hM hS (mp_set_s _ _ _) rfl 7 (by decide) fl_27 (fun _ z => z) rfl rfl rfl (Nat.le_of_ble_eq_true rfl) dX0_init_31 (fs' := [.null, .int (0 : Int32), .int (0 : Int32), .int (0 : Int32), .int (0 : Int32), .int (0 : Int32), .int (-1 : Int32), .int (-1 : Int32), .int (0 : Int32), .int (0 : Int32), .int (0 : Int32), .int (0 : Int32)]) rfl (fun H locs hM hS => ?_)
  rw [mp_set_set] at hM
  have hM : mp_P G.1 A (mp_set M kn (aq, .inr (1, [.null, .int (0 : Int32), .int (0 : Int32), .int (0 : Int32), .int (0 : Int32), .int (0 : Int32), .int (-1 : Int32), .int (-1 : Int32), .int (0 : Int32), .int (0 : Int32), .int (0 : Int32), .int (0 : Int32)]))) H := hM
  refine lv_aload_n hx hb dX0_init_34 rfl (lv_at hl 0 rfl) ?_
  refine lv_iconst (v := (-1 : Int32)) hx hb dX0_init_35 (by decide) ?_
  refine mp_put (D := G.1) (C := RX0) (T := TX0) (N := 12) (ci := 1) hx hb hts hin_wsX00 tyX0 tyX0_ok nmX0 hown hC.1 hM hS (mp_set_s _ _ _) rfl 8 (by decide) fl_30 (fun _ z => z) rfl rfl rfl (Nat.le_of_ble_eq_true rfl) dX0_init_36 (fs' := [.null, .int (0 : Int32), .int (0 : Int32), .int (0 : Int32), .int (0 : Int32), .int (0 : Int32), .int (-1 : Int32), .int (-1 : Int32), .int (-1 : Int32), .int (0 : Int32), .int (0 : Int32), .int (0 : Int32)]) rfl (fun H locs hM hS => ?_)
  rw [mp_set_set] at hM
  have hM : mp_P G.1 A (mp_set M kn (aq, .inr (1, [.null, .int (0 : Int32), .int (0 : Int32), .int (0 : Int32), .int (0 : Int32), .int (0 : Int32), .int (-1 : Int32), .int (-1 : Int32), .int (-1 : Int32), .int (0 : Int32), .int (0 : Int32), .int (0 : Int32)]))) H := hM
  refine lv_aload_n hx hb dX0_init_39 rfl (lv_at hl 0 rfl) ?_
  refine lv_iconst (v := (0 : Int32)) hx hb dX0_init_40 (by decide) ?_
  refine mp_put (D := G.1) (C := RX0) (T := TX0) (N := 12) (ci := 1) hx hb hts hin_wsX00 tyX0 tyX0_ok nmX0 hown hC.1 hM hS (mp_set_s _ _ _) rfl 9 (by decide) fl_33 (fun _ z => z) rfl rfl rfl (Nat.le_of_ble_eq_true rfl) dX0_init_41 (fs' := [.null, .int (0 : Int32), .int (0 : Int32), .int (0 : Int32), .int (0 : Int32), .int (0 : Int32), .int (-1 : Int32), .int (-1 : Int32), .int (-1 : Int32), .int (0 : Int32), .int (0 : Int32), .int (0 : Int32)]) rfl (fun H locs hM hS => ?_)
  rw [mp_set_set] at hM
  have hM : mp_P G.1 A (mp_set M kn (aq, .inr (1, [.null, .int (0 : Int32), .int (0 : Int32), .int (0 : Int32), .int (0 : Int32), .int (0 : Int32), .int (-1 : Int32), .int (-1 : Int32), .int (-1 : Int32), .int (0 : Int32), .int (0 : Int32), .int (0 : Int32)]))) H := hM
  refine lv_aload_n hx hb dX0_init_44 rfl (lv_at hl 0 rfl) ?_
  refine lv_iconst (v := (-1 : Int32)) hx hb dX0_init_45 (by decide) ?_
  refine mp_put (D := G.1) (C := RX0) (T := TX0) (N := 12) (ci := 1) hx hb hts hin_wsX00 tyX0 tyX0_ok nmX0 hown hC.1 hM hS (mp_set_s _ _ _) rfl 10 (by decide) fl_37 (fun _ z => z) rfl rfl rfl (Nat.le_of_ble_eq_true rfl) dX0_init_46 (fs' := [.null, .int (0 : Int32), .int (0 : Int32), .int (0 : Int32), .int (0 : Int32), .int (0 : Int32), .int (-1 : Int32), .int (-1 : Int32), .int (-1 : Int32), .int (0 : Int32), .int (-1 : Int32), .int (0 : Int32)]) rfl (fun H locs hM hS => ?_)
  rw [mp_set_set] at hM
  have hM : mp_P G.1 A (mp_set M kn (aq, .inr (1, [.null, .int (0 : Int32), .int (0 : Int32), .int (0 : Int32), .int (0 : Int32), .int (0 : Int32), .int (-1 : Int32), .int (-1 : Int32), .int (-1 : Int32), .int (0 : Int32), .int (-1 : Int32), .int (0 : Int32)]))) H := hM
  refine lv_aload_n hx hb dX0_init_49 rfl (lv_at hl 0 rfl) ?_
  refine lv_iconst (v := (-1 : Int32)) hx hb dX0_init_50 (by decide) ?_
  refine mp_put (D := G.1) (C := RX0) (T := TX0) (N := 12) (ci := 1) hx hb hts hin_wsX00 tyX0 tyX0_ok nmX0 hown hC.1 hM hS (mp_set_s _ _ _) rfl 11 (by decide) fl_40 (fun _ z => z) rfl rfl rfl (Nat.le_of_ble_eq_true rfl) dX0_init_51 (fs' := [.null, .int (0 : Int32), .int (0 : Int32), .int (0 : Int32), .int (0 : Int32), .int (0 : Int32), .int (-1 : Int32), .int (-1 : Int32), .int (-1 : Int32), .int (0 : Int32), .int (-1 : Int32), .int (-1 : Int32)]) rfl (fun H locs hM hS => ?_)
  rw [mp_set_set] at hM
  have hM : mp_P G.1 A (mp_set M kn (aq, .inr (1, [.null, .int (0 : Int32), .int (0 : Int32), .int (0 : Int32), .int (0 : Int32), .int (0 : Int32), .int (-1 : Int32), .int (-1 : Int32), .int (-1 : Int32), .int (0 : Int32), .int (-1 : Int32), .int (-1 : Int32)]))) H := hM
  refine lv_aload_n hx hb dX0_init_54 rfl (lv_at hl 0 rfl) ?_
  refine lv_aload_n hx hb dX0_init_55 rfl (lv_at hl 1 rfl) ?_
  refine mp_putF (D := G.1) (C := RX0) (T := TX0) (N := 12) (ci := 1) hx hb hts hin_wsX00 tyX0 tyX0_ok nmX0 hown hC.1 hM hS (mp_set_s _ _ _) rfl 0 (by decide) fl_43 (fun _ z => z) rfl hnm rfl rfl rfl (Nat.le_of_ble_eq_true rfl) dX0_init_56 (fs' := [.ref dq, .int (0 : Int32), .int (0 : Int32), .int (0 : Int32), .int (0 : Int32), .int (0 : Int32), .int (-1 : Int32), .int (-1 : Int32), .int (-1 : Int32), .int (0 : Int32), .int (-1 : Int32), .int (-1 : Int32)]) rfl (fun H locs hM hS => ?_)
  rw [mp_set_set] at hM
  have hM : mp_P G.1 A (mp_set M kn (aq, .inr (1, [.ref dq, .int (0 : Int32), .int (0 : Int32), .int (0 : Int32), .int (0 : Int32), .int (0 : Int32), .int (-1 : Int32), .int (-1 : Int32), .int (-1 : Int32), .int (0 : Int32), .int (-1 : Int32), .int (-1 : Int32)]))) H := hM
  refine lv_aload_n hx hb dX0_init_59 rfl (lv_at hl 0 rfl) ?_
  refine lv_iload_n hx hb dX0_init_60 rfl (lv_at hl 2 rfl) ?_
  refine mp_putF (D := G.1) (C := RX0) (T := TX0) (N := 12) (ci := 1) hx hb hts hin_wsX00 tyX0 tyX0_ok nmX0 hown hC.1 hM hS (mp_set_s _ _ _) rfl 1 (by decide) fl_47 (fun _ z => z) rfl hnm rfl rfl rfl (Nat.le_of_ble_eq_true rfl) dX0_init_61 (fs' := [.ref dq, .int td, .int (0 : Int32), .int (0 : Int32), .int (0 : Int32), .int (0 : Int32), .int (-1 : Int32), .int (-1 : Int32), .int (-1 : Int32), .int (0 : Int32), .int (-1 : Int32), .int (-1 : Int32)]) rfl (fun H locs hM hS => ?_)
  rw [mp_set_set] at hM
  have hM : mp_P G.1 A (mp_set M kn (aq, .inr (1, [.ref dq, .int td, .int (0 : Int32), .int (0 : Int32), .int (0 : Int32), .int (0 : Int32), .int (-1 : Int32), .int (-1 : Int32), .int (-1 : Int32), .int (0 : Int32), .int (-1 : Int32), .int (-1 : Int32)]))) H := hM
  exact mp_vret hx hb hr hlocks (Nat.le_of_ble_eq_true rfl) (Nat.le_of_ble_eq_true rfl) hM hS dX0_init_64 (⟨rfl, rfl⟩)
abbrev rmJ3_checkIndex_8e157 : Room := { frames := 0, cells := 0, slots := 0, locals := 0 }
set_option maxHeartbeats 4000000 in
set_option maxRecDepth 100000 in
theorem c_J3_checkIndex_8e157 (l : Launch) (X : mp_X) (G : mp_G) (A : Nat → Prop) (M : mp_M) (i n : Nat) (hi : i < n) (hn : n < 2 ^ 31) : mp_Met l X G A yJ3_checkIndex_8e157 wsJ3_checkIndex_8e157 rmJ3_checkIndex_8e157 ([.int (nI i), .int (nI n), .null] : List Value) M (fun r M1 => r = some (.int (nI i)) ∧ M1 = M) 0 0 := by
  refine mp_ofW (cc := cJ3_checkIndex_8e157) (maxL := 3) (ret := (some .int)) (by decide) rfl (Nat.le_of_ble_eq_true rfl) ?_
  intro p e s m below meth c ls hx hb hr hts hown hlocks hnm hml hC hM hS hl
  have hl : lv_has ls 3 [(0, .int (nI i)), (1, .int (nI n)), (2, .null)] := hl
  have hown : s.vm.findClass RJ3 = some m.cls := hown
  refine lv_iload_n hx hb dJ3_checkIndex_8e157_0 rfl (lv_at hl 0 rfl) ?_
  refine lv_if_lt (tgt := 9) hx hb dJ3_checkIndex_8e157_1 (by decide) (fun c_1 => ?_) (fun c_1 => ?_)
  · have c_1 := nn_lt (a := i) (b := 0) (by omega) (by omega) c_1
    exact absurd c_1 (Nat.not_lt_zero _)
  · have c_1 := nn_nlt (a := i) (b := 0) (by omega) (by omega) c_1
    refine lv_iload_n hx hb dJ3_checkIndex_8e157_4 rfl (lv_at hl 0 rfl) ?_
    refine lv_iload_n hx hb dJ3_checkIndex_8e157_5 rfl (lv_at hl 1 rfl) ?_
    refine lv_icmp_lt (tgt := 16) hx hb dJ3_checkIndex_8e157_6 (by decide) (fun c_2 => ?_) (fun c_2 => ?_)
    · have c_2 := nn_lt (a := i) (b := n) (by omega) (by omega) c_2
      refine lv_iload_n hx hb dJ3_checkIndex_8e157_16 rfl (lv_at hl 0 rfl) ?_
      exact mp_iret hx hb hr hlocks (Nat.le_of_ble_eq_true rfl) (Nat.le_of_ble_eq_true rfl) hM hS dJ3_checkIndex_8e157_17 (⟨rfl, rfl⟩)
    · have c_2 := nn_nlt (a := i) (b := n) (by omega) (by omega) c_2
      exact absurd c_2 (by omega)
abbrev rmJ15_checkIndex_7cf53 : Room := { frames := 1, cells := 0, slots := 0, locals := 22 }
set_option maxHeartbeats 4000000 in
set_option maxRecDepth 100000 in
theorem c_J15_checkIndex_7cf53 (l : Launch) (X : mp_X) (G : mp_G) (A : Nat → Prop) (M : mp_M) (i n : Nat) (hi : i < n) (hn : n < 2 ^ 31) : mp_Met l X G A yJ15_checkIndex_7cf53 wsJ15_checkIndex_7cf53 rmJ15_checkIndex_7cf53 ([.int (nI i), .int (nI n)] : List Value) M (fun r M1 => r = some (.int (nI i)) ∧ M1 = M) 0 0 := by
  refine mp_ofW (cc := cJ15_checkIndex_7cf53) (maxL := 2) (ret := (some .int)) (by decide) rfl (Nat.le_of_ble_eq_true rfl) ?_
  intro p e s m below meth c ls hx hb hr hts hown hlocks hnm hml hC hM hS hl
  have hl : lv_has ls 2 [(0, .int (nI i)), (1, .int (nI n))] := hl
  have hown : s.vm.findClass RJ15 = some m.cls := hown
  refine lv_iload_n hx hb dJ15_checkIndex_7cf53_0 rfl (lv_at hl 0 rfl) ?_
  refine lv_iload_n hx hb dJ15_checkIndex_7cf53_1 rfl (lv_at hl 1 rfl) ?_
  refine lv_null hx hb dJ15_checkIndex_7cf53_2 ?_
  refine mp_calli (va_runS (As := [.int (nI i), .int (nI n), .null]) (rest := []) ⟨hx, hb, hml, hown, hts⟩ (c_J3_checkIndex_8e157 l X G A M i n (by omega) (by omega)) (va_cwS 3 hts gJ15_checkIndex_7cf53_J3_checkIndex_8e157 rfl rfl rfl (by decide +kernel) ⟨Nat.le_of_ble_eq_true rfl, Nat.le_of_ble_eq_true rfl⟩) (mp_preS hC hS hM) rfl rfl hl.1 rfl (lv_room (Nat.le_of_ble_eq_true rfl)) dJ15_checkIndex_7cf53_3 ⟨Nat.le_of_ble_eq_true rfl, Nat.le_of_ble_eq_true rfl⟩) hS (fun H locs hM hS => ?_)
  exact mp_iret hx hb hr hlocks (Nat.le_of_ble_eq_true rfl) (Nat.le_of_ble_eq_true rfl) hM hS dJ15_checkIndex_7cf53_6 (⟨rfl, rfl⟩)
abbrev rmJx4a65c_size_8abf5 : Room := { frames := 0, cells := 0, slots := 0, locals := 0 }
set_option maxHeartbeats 4000000 in
set_option maxRecDepth 100000 in
theorem c_Jx4a65c_size_8abf5 (l : Launch) (X : mp_X) (G : mp_G) (A : Nat → Prop) (M : mp_M) (lq sz dq : Nat) (hL : LsAt M lq sz dq) : mp_Met l X G A yJx4a65c_size_8abf5 wsJx4a65c_size_8abf5 rmJx4a65c_size_8abf5 ([.ref lq] : List Value) M (fun r M1 => r = some (.int (nI sz)) ∧ M1 = M) 0 0 := by
  refine mp_ofW (cc := cJx4a65c_size_8abf5) (maxL := 1) (ret := (some .int)) (by decide) rfl (Nat.le_of_ble_eq_true rfl) ?_
  intro p e s m below meth c ls hx hb hr hts hown hlocks hnm hml hC hM hS hl
  have hl : lv_has ls 1 [(0, .ref lq)] := hl
  have hown : s.vm.findClass RJx4a65c = some m.cls := hown
  have hin_wsJx4a65c0 : ∀ w ∈ wsJx4a65c0, w ∈ wsJx4a65c_size_8abf5 := fun _ h => List.mem_cons_of_mem _ (List.mem_append_right _ h)
  have fl_48 := hts (.fieldLink RJx4a65c 48 "java/util/ArrayList" "size" "I") (List.mem_of_getElem? (i := 1) rfl)
  obtain ⟨kl1, mo, hL1⟩ := id hL
  refine lv_aload_n hx hb dJx4a65c_size_8abf5_0 rfl (lv_at hl 0 rfl) ?_
  refine va_get (D := G.1) (C := RJx4a65c) (T := TJx4a65c) (N := 3) (ci := 0) hx hb hts hin_wsJx4a65c0 hown hC.1 (hM.one hL1) 0 rfl rfl 2 (by decide) fl_48 (fun _ z => z) rfl dJx4a65c_size_8abf5_1 ?_
  exact mp_iret hx hb hr hlocks (Nat.le_of_ble_eq_true rfl) (Nat.le_of_ble_eq_true rfl) hM hS dJx4a65c_size_8abf5_4 (⟨rfl, rfl⟩)
abbrev rmJx4a65c_elementData_915e3 : Room := { frames := 0, cells := 0, slots := 0, locals := 0 }
set_option maxHeartbeats 4000000 in
set_option maxRecDepth 100000 in
theorem c_Jx4a65c_elementData_915e3 (l : Launch) (X : mp_X) (G : mp_G) (A : Nat → Prop) (M : mp_M) (lq sz dq : Nat) (hL : LsAt M lq sz dq) (cap : Nat) (g : Nat → Option Nat) (hD : DtAt G M dq cap g) (hcap : cap < 2 ^ 31) (i q : Nat) (hi : i < cap) (hq : g i = some q) : mp_Met l X G A yJx4a65c_elementData_915e3 wsJx4a65c_elementData_915e3 rmJx4a65c_elementData_915e3 ([.ref lq, .int (nI i)] : List Value) M (fun r M1 => r = some (.ref q) ∧ M1 = M) 0 0 := by
  refine mp_ofW (cc := cJx4a65c_elementData_915e3) (maxL := 2) (ret := (some (.object "java/lang/Object"))) (by decide) rfl (Nat.le_of_ble_eq_true rfl) ?_
  intro p e s m below meth c ls hx hb hr hts hown hlocks hnm hml hC hM hS hl
  have hl : lv_has ls 2 [(0, .ref lq), (1, .int (nI i))] := hl
  have hown : s.vm.findClass RJx4a65c = some m.cls := hown
  have hin_wsJx4a65c0 : ∀ w ∈ wsJx4a65c0, w ∈ wsJx4a65c_elementData_915e3 := fun _ h => List.mem_cons_of_mem _ (List.mem_append_right _ h)
  have fl_9 := hts (.fieldLink RJx4a65c 9 "java/util/ArrayList" "elementData" "[Ljava/lang/Object;") (List.mem_of_getElem? (i := 1) rfl)
  obtain ⟨kl1, mo, hL1⟩ := id hL
  obtain ⟨kd1, hD1⟩ := id hD
  refine lv_aload_n hx hb dJx4a65c_elementData_915e3_0 rfl (lv_at hl 0 rfl) ?_
  refine va_get (D := G.1) (C := RJx4a65c) (T := TJx4a65c) (N := 3) (ci := 0) hx hb hts hin_wsJx4a65c0 hown hC.1 (hM.one hL1) 0 rfl rfl 1 (by decide) fl_9 (fun _ z => z) rfl dJx4a65c_elementData_915e3_1 ?_
  refine lv_iload_n hx hb dJx4a65c_elementData_915e3_4 rfl (lv_at hl 1 rfl) ?_
  refine ca_aald hx hb hC hM hD1 (j := i) (by omega) (by omega) hq dJx4a65c_elementData_915e3_5 ?_
  exact mp_aret hx hb hr hlocks (Nat.le_of_ble_eq_true rfl) (Nat.le_of_ble_eq_true rfl) hM hS dJx4a65c_elementData_915e3_6 (by first | exact Or.inl ⟨_, rfl⟩ | exact Or.inr ⟨_, rfl⟩) (by first | exact Or.inl rfl | exact Or.inr ⟨_, rfl⟩) (⟨rfl, rfl⟩)
abbrev rmJx4a65c_get_915e3 : Room := { frames := 2, cells := 0, slots := 0, locals := 43 }
set_option maxHeartbeats 4000000 in
set_option maxRecDepth 100000 in
theorem c_Jx4a65c_get_915e3 (l : Launch) (X : mp_X) (G : mp_G) (A : Nat → Prop) (M : mp_M) (lq sz dq : Nat) (hL : LsAt M lq sz dq) (cap : Nat) (g : Nat → Option Nat) (hD : DtAt G M dq cap g) (hcap : cap < 2 ^ 31) (i q : Nat) (hi : i < sz) (hsc : sz ≤ cap) (hq : g i = some q) : mp_Met l X G A yJx4a65c_get_915e3 wsJx4a65c_get_915e3 rmJx4a65c_get_915e3 ([.ref lq, .int (nI i)] : List Value) M (fun r M1 => r = some (.ref q) ∧ M1 = M) 0 0 := by
  refine mp_ofW (cc := cJx4a65c_get_915e3) (maxL := 2) (ret := (some (.object "java/lang/Object"))) (by decide) rfl (Nat.le_of_ble_eq_true rfl) ?_
  intro p e s m below meth c ls hx hb hr hts hown hlocks hnm hml hC hM hS hl
  have hl : lv_has ls 2 [(0, .ref lq), (1, .int (nI i))] := hl
  have hown : s.vm.findClass RJx4a65c = some m.cls := hown
  have hin_wsJx4a65c0 : ∀ w ∈ wsJx4a65c0, w ∈ wsJx4a65c_get_915e3 := fun _ h => List.mem_cons_of_mem _ (List.mem_append_right _ h)
  have fl_48 := hts (.fieldLink RJx4a65c 48 "java/util/ArrayList" "size" "I") (List.mem_of_getElem? (i := 1) rfl)
  obtain ⟨kl1, mo, hL1⟩ := id hL
  obtain ⟨kd1, hD1⟩ := id hD
  refine lv_iload_n hx hb dJx4a65c_get_915e3_0 rfl (lv_at hl 1 rfl) ?_
  refine lv_aload_n hx hb dJx4a65c_get_915e3_1 rfl (lv_at hl 0 rfl) ?_
  refine va_get (D := G.1) (C := RJx4a65c) (T := TJx4a65c) (N := 3) (ci := 0) hx hb hts hin_wsJx4a65c0 hown hC.1 (hM.one hL1) 0 rfl rfl 2 (by decide) fl_48 (fun _ z => z) rfl dJx4a65c_get_915e3_2 ?_
  refine mp_calli (va_runS (As := [.int (nI i), .int (nI sz)]) (rest := []) ⟨hx, hb, hml, hown, hts⟩ (c_J15_checkIndex_7cf53 l X G A M i sz (by omega) (by omega)) (va_cwS 2 hts gJx4a65c_get_915e3_J15_checkIndex_7cf53 rfl rfl rfl (by decide +kernel) ⟨Nat.le_of_ble_eq_true rfl, Nat.le_of_ble_eq_true rfl⟩) (mp_preS hC hS hM) rfl rfl hl.1 rfl (lv_room (Nat.le_of_ble_eq_true rfl)) dJx4a65c_get_915e3_5 ⟨Nat.le_of_ble_eq_true rfl, Nat.le_of_ble_eq_true rfl⟩) hS (fun H locs hM hS => ?_)
  refine lv_pop hx hb dJx4a65c_get_915e3_8 rfl ?_
  refine lv_aload_n hx hb dJx4a65c_get_915e3_9 rfl (lv_at hl 0 rfl) ?_
  refine lv_iload_n hx hb dJx4a65c_get_915e3_10 rfl (lv_at hl 1 rfl) ?_
  refine mp_callr (va_runV (As := [.int (nI i)]) (rest := []) ⟨hx, hb, hml, hown, hts⟩ (c_Jx4a65c_elementData_915e3 l X G A M lq sz dq hL cap g hD hcap i q (by omega) hq) (cwV 1 hts gJx4a65c_get_915e3_Jx4a65c_elementData_915e3 rfl rfl rfl (by decide +kernel) ⟨Nat.le_of_ble_eq_true rfl, Nat.le_of_ble_eq_true rfl⟩) (mp_preV hC hS hM (mp_recv hC.1 hM hL1 (r := (RJx4a65c, TJx4a65c, 3)) rfl)) rfl rfl hl.1 rfl (lv_room (Nat.le_of_ble_eq_true rfl)) dJx4a65c_get_915e3_11 ⟨Nat.le_of_ble_eq_true rfl, Nat.le_of_ble_eq_true rfl⟩) hS (fun H locs hM hS => ?_)
  exact mp_aret hx hb hr hlocks (Nat.le_of_ble_eq_true rfl) (Nat.le_of_ble_eq_true rfl) hM hS dJx4a65c_get_915e3_14 (by first | exact Or.inl ⟨_, rfl⟩ | exact Or.inr ⟨_, rfl⟩) (by first | exact Or.inl rfl | exact Or.inr ⟨_, rfl⟩) (⟨rfl, rfl⟩)
