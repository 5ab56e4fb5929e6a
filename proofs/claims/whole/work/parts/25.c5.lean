/-! ===== arrays of references; a list grows ===== -/
theorem mp_P.mv {D : va_G} {A : Nat → Prop} {M : mp_M} {H : Heap} {t k : mp_N} {x : Nat × va_E} (h : mp_P D A (mp_set M t x) H) (ht : M t = none) : mp_P D A (mp_set M k x) H := by
  have hx := mp_set_s M t x
  have key : ∀ (j : mp_N) (q : Nat × va_E), mp_set M k x j = some q → (j = k ∧ q = x) ∨ (j ≠ k ∧ j ≠ t ∧ mp_set M t x j = some q) := by
    intro j q hj
    by_cases hjk : j = k
    · rw [hjk, mp_set_s] at hj
      exact Or.inl ⟨hjk, (Option.some.inj hj).symm⟩
    · rw [mp_set_n _ _ _ hjk] at hj
      have hjt : j ≠ t := fun z => by rw [z, ht] at hj; cases hj
      exact Or.inr ⟨hjk, hjt, by rw [mp_set_n _ _ _ hjt]; exact hj⟩
  refine ⟨fun j q hj => ?_, fun i j y z hi hj hxy => ?_, fun j q hj => ?_⟩
  · rcases key j q hj with ⟨-, e⟩ | ⟨-, -, hj'⟩
    · rw [e]; exact h.1 t x hx
    · exact h.1 j q hj'
  · rcases key i y hi with ⟨e1, e2⟩ | ⟨-, n1, hi'⟩ <;> rcases key j z hj with ⟨e3, e4⟩ | ⟨-, n2, hj'⟩
    · rw [e1, e3]
    · rw [e2] at hxy
      exact absurd (h.2.1 j t z x hj' hx hxy.symm) n2
    · rw [e4] at hxy
      exact absurd (h.2.1 i t y x hi' hx hxy) n1
    · exact h.2.1 i j y z hi' hj' hxy
  · rcases key j q hj with ⟨-, e⟩ | ⟨-, -, hj'⟩
    · rw [e]; exact h.2.2 t x hx
    · exact h.2.2 j q hj'
section CLQ
variable {p : Program} {l : Launch} {e : Env} {R : Room} {s : State} {m : MethodId} {args : Array Value} {below : List Frame} {meth : Method} {c : Code} {H : Heap} {locs : List Loc} {cells slots : Nat} {Q : State → Prop}
variable {cc : ByteArray} {pc : Nat} {ls : Array Slot} {rest : List Value} {X : mp_X} {G : mp_G} {A : Nat → Prop} {M : mp_M} {a : Nat}
theorem mp_newq (hx : p.tables.exec = Jvm.exec) (hb : c.code = cc) {own : String} {index : Nat} (hown : s.vm.findClass own = some m.cls) (hclink : (Cond.classLink own index "java/lang/Object").before args s = true) (hC : mp_C X G A s s.heap) (hM : mp_P G.1 A M H) (hS : va_S A s.heap H locs) {N' : Nat} (hbytes : N' ≤ 100000000) (hcells : cells + 1 ≤ R.cells) (hslots : slots + N' ≤ R.slots) (hdg : decode cc pc = .ok (.anewarray index, 3)) {kn : mp_N} (hk : M kn = none)
    (kk : ∀ (q : Nat) (H1 : Heap), mp_P G.1 A (mp_set M kn (q, .inl (G.2.2.2.2, N', .inr (.inr (.inr (.inr (fun _ => none))))))) H1 → va_S A s.heap H1 locs → W p l e R s m args below meth c H1 locs (cells + 1) (slots + N') Q (F0 m (pc + 3) ls (.ref q :: rest))) : W p l e R s m args below meth c H locs cells slots Q (F0 m pc ls (.int (nI N') :: rest)) := by
  have hN : (nI N').toNatClampNeg = N' := nI_clamp (by omega)
  obtain ⟨kO, compO, g1, g2, g3, g4⟩ := (hC.1.2 3 _ rfl).2
  refine W.anew hx hb hown hclink (va_AO.use hC.2.2.1.2.2.2.2.2.1) rfl hdg rfl (nI_pos (by omega)) (by rw [hN]; omega) hcells (by rw [hN]; exact hslots) fun cA kA comp f1 f2 f3 f4 => ?_
  have hcc : cA = G.2.2.2.2 := Option.some.inj (f1.symm.trans g4)
  rw [hcc, hN]
  generalize hH1 : H.push ({ cls := G.2.2.2.2, slots := Array.replicate N' .null, vm := .none } : Cell) = H1
  have z1 : H1.size = H.size + 1 := by rw [← hH1, Array.size_push]
  have e1 : H1[H.size]? = some (arrV G.2.2.2.2 N' (fun _ => .null)) := by rw [← hH1, Array.getElem?_push_size, ← arrV_new]
  have o1 : ∀ q : Nat, q < H.size → H1[q]? = H[q]? := fun q hq => by rw [← hH1, Array.getElem?_push, if_neg (Nat.ne_of_lt hq)]
  exact kk H.size H1 (hM.new hk (hC.2.2.2 _ hS.1) (by show H1[H.size]? = some (vp_cell _ _); rw [vp_cell_q]; exact e1) o1) ⟨Nat.le_trans hS.1 (by omega), fun y h1 h2 => (o1 y (Nat.lt_of_lt_of_le h1 hS.1)).trans (hS.2.1 y h1 h2), hS.2.2⟩
theorem mp_astq (hx : p.tables.exec = Jvm.exec) (hb : c.code = cc) (hC : mp_C X G A s s.heap) (hM : mp_P G.1 A M H) (hS : va_S A s.heap H locs) {kn ke : mp_N} {n v ci : Nat} {g : Nat → Option Nat} {fs : List Value} {r : vw_C} (ha : M kn = some (a, .inl (G.2.2.2.2, n, .inr (.inr (.inr (.inr g)))))) (he : M ke = some (v, .inr (ci, fs))) (hc : vwCl[ci]? = some r) (hca : Cond.castable r.1 "java/lang/Object" ∈ mp_nw) {j : Nat} (hj : j < n) (hl : n < 2 ^ 31) (hdg : decode cc pc = .ok (.aastore, 1))
    (kk : ∀ (H1 : Heap) (locs1 : List Loc), mp_P G.1 A (mp_set M kn (a, .inl (G.2.2.2.2, n, .inr (.inr (.inr (.inr (va_up g j (some v)))))))) H1 → va_S A s.heap H1 locs1 → W p l e R s m args below meth c H1 locs1 cells slots Q (F0 m (pc + 1) ls rest)) : W p l e R s m args below meth c H locs cells slots Q (F0 m pc ls (.ref v :: .int (nI j) :: .ref a :: rest)) := by
  have hN : (nI j).toNatClampNeg = j := nI_clamp (by omega)
  obtain ⟨r', hr', cellV, g1, g2, g3, -⟩ := hM.1 ke _ he
  have hcls := (hC.1.1 ci r hc).2
  obtain ⟨kA, comp, k1, k2, k3, -⟩ := (hC.1.2 3 _ rfl).2
  obtain ⟨kE, hkE, -⟩ := Vm.findClass_spec k3
  have hasg := vb_asgC (hC.2.1 _ hca) comp (G.1.1 ci) k3 hcls.1
  obtain ⟨kC, hkC, -⟩ := hcls.2
  refine W.aast hx hb (hM.1 kn _ ha) (fun q h => by cases h) (fun h => by cases h) k1 k2 rfl hkE ⟨nI_pos (by omega), by show _ < (arrV _ _ _).slots.size; rw [arrV_size, hN]; exact hj⟩ g1 (fun q h => by rw [g3] at h; cases h) (by rw [g2]; exact hkC) (by rw [g2]; exact hasg) rfl rfl hdg fun H1 e1 z oq => ?_
  refine kk H1 _ (hM.put ha ?_ oq) (hS.put z oq (hM.2.2 kn _ ha))
  show H1[a]? = some (vp_cell _ _)
  rw [e1, vp_cell_q, vp_cell_q, arrV_store, hN]
  congr 2
  funext q
  by_cases hq : q = j
  · subst hq
    simp [updV, va_up, va_rf]
  · simp [updV, va_up, hq]
theorem mp_copyq (hx : p.tables.exec = Jvm.exec) (hb : c.code = cc) (hml : c.maxLocals = ls.size) {own : String} {index : Nat} (hown : s.vm.findClass own = some m.cls) (hlink : (Cond.methodLink own index arraycopyName).before args s = true) (hnat : (Cond.native arraycopyName).before args s = true) (hstat : (Cond.static arraycopyName).before args s = true) (hini : (Cond.initialized "java/lang/System").before args s = true)
    (hC : mp_C X G A s s.heap) (hM : mp_P G.1 A M H) (hS : va_S A s.heap H locs) {ka kd : mp_N} {a0 n0 n1 ci k0 : Nat} {f g : Nat → Option Nat} {r : vw_C} (ha0 : M ka = some (a0, .inl (G.2.2.2.2, n0, .inr (.inr (.inr (.inr f)))))) (ha1 : M kd = some (a, .inl (G.2.2.2.2, n1, .inr (.inr (.inr (.inr g)))))) (hk0 : k0 ≤ n0) (hk1 : k0 ≤ n1) (hn0 : n0 < 2 ^ 31) (hel : ∀ i, i < k0 → ∀ y, f i = some y → ∃ (k : mp_N) (fs : List Value), M k = some (y, .inr (ci, fs))) (hc : vwCl[ci]? = some r) (hca : Cond.castable r.1 "java/lang/Object" ∈ mp_nw)
    (hframes : 1 ≤ R.frames) (hlocals : (rest.map fun v => v.category).sum + (nativeFrameWords "java/lang/System" "arraycopy" 5 + 11) ≤ R.locals) (hdg : decode cc pc = .ok (.invokestatic index, 3))
    (kk : ∀ (H1 : Heap) (locs1 : List Loc), mp_P G.1 A (mp_set M kd (a, .inl (G.2.2.2.2, n1, .inr (.inr (.inr (.inr (va_cpy f g 0 0 k0))))))) H1 → va_S A s.heap H1 locs1 → W p l e R s m args below meth c H1 locs1 cells slots Q (F0 m (pc + 3) ls rest)) : W p l e R s m args below meth c H locs cells slots Q (F0 m pc ls (.int (nI k0) :: .int 0 :: .ref a :: .int 0 :: .ref a0 :: rest)) := by
  have ec : (nI k0).toNatClampNeg = k0 := nI_clamp (by omega)
  have e0 : (0 : Int32).toNatClampNeg = 0 := by decide
  have h3 : ¬ nI k0 < 0 := nI_pos (by omega)
  have et : (nI k0).toInt = (k0 : Int) := by
    have hz0 : (0 : Int) ≤ (nI k0).toInt := by
      have := Int32.not_lt.mp h3
      simpa using Int32.le_iff_toInt_le.mp this
    have hz1 : (nI k0).toInt = (((nI k0).toInt.toNat : Nat) : Int) := by omega
    rw [hz1]
    exact congrArg _ ec
  have et0 : (0 : Int32).toInt = 0 := by decide
  have hc0 : H[a0]? = some (vp_cell G.2.2.2.2 (n0, .inr (.inr (.inr (.inr f))))) := hM.1 ka _ ha0
  have hc1 : H[a]? = some (vp_cell G.2.2.2.2 (n1, .inr (.inr (.inr (.inr g))))) := hM.1 kd _ ha1
  obtain ⟨-, kO, hkO, cmO, hkkO⟩ := (hC.1.2 3 _ rfl).1 n0 (fun j => va_rf (f j))
  intro T hT X1
  obtain ⟨vm', X', step⟩ := X1.arraycopy hx hown hlink hnat hstat hini (src := a0) (dst := a) (cs := vp_cell G.2.2.2.2 (n0, .inr (.inr (.inr (.inr f))))) (cd := vp_cell G.2.2.2.2 (n1, .inr (.inr (.inr (.inr g))))) (srcPos := 0) (destPos := 0) (n := nI k0) (by rw [hT]; exact hc0) (by rw [hT]; exact hc1)
    (fun _ h => by cases h) (fun _ h => by cases h) (fun h => by cases h) (fun h => by cases h) hkO hkO hkkO hkkO rfl (by decide) (by decide) h3
    (by rw [et, et0]; show ¬ _ > ((arrV G.2.2.2.2 n0 (fun j => va_rf (f j))).slots.size : Int); rw [arrV_size]; omega)
    (by rw [et, et0]; show ¬ _ > ((arrV G.2.2.2.2 n1 (fun j => va_rf (g j))).slots.size : Int); rw [arrV_size]; omega)
    (fun vm₁ hal i hi => by
      rw [ec] at hi
      have e : (vp_cell G.2.2.2.2 (n0, .inr (.inr (.inr (.inr f))))).slots.getD ((0 : Int32).toNatClampNeg + i) .null = va_rf (f i) := by
        show (arrV G.2.2.2.2 n0 (fun j => va_rf (f j))).slots.getD _ _ = _
        rw [e0, Nat.zero_add, Array.getD_eq_getD_getElem?, arrV_read _ _ (by omega)]
        rfl
      rw [e]
      cases hy : f i with
      | none => exact ⟨rfl, trivial⟩
      | some y =>
        obtain ⟨k, fs, hke⟩ := hel i hi y hy
        obtain ⟨r', hr', cellV, g1, g2, g3, -⟩ := hM.1 k _ hke
        have hcls := (hC.1.1 ci r hc).2
        obtain ⟨kA, comp, r1, r2, r3, -⟩ := (hC.1.2 3 _ rfl).2
        cases hkO.symm.trans r1
        cases hkkO.symm.trans r2
        obtain ⟨kE, hkE, -⟩ := Vm.findClass_spec r3
        obtain ⟨kC, hkC, -⟩ := hcls.2
        have hkC : s.vm.classes[cellV.cls]? = some kC := by rw [g2]; exact hkC
        obtain ⟨kC', hkC', -⟩ := hal.2.2 _ _ hkC
        obtain ⟨kE', hkE', -⟩ := hal.2.2 _ _ hkE
        refine ⟨rfl, cellV, (show T.heap[y]? = some cellV by rw [hT]; exact g1), (fun q h => by rw [h] at g3; cases g3), ⟨kC', hkC'⟩, ⟨kE', hkE'⟩, ?_⟩
        show vm₁.assignable _ _ = true
        rw [hal.assignable, g2]
        exact vb_asgC (hC.2.1 _ hca) _ _ r3 hcls.1)
    (g := F0 m pc ls (.int (nI k0) :: .int 0 :: .ref a :: .int 0 :: .ref a0 :: rest)) rfl (by rw [hml]) (rest := rest) rfl (by rw [hb]; exact hdg) hframes (by show 2 * 0 + _ + _ ≤ _; omega)
  have e1 : copied (vp_cell G.2.2.2.2 (n0, .inr (.inr (.inr (.inr f))))) (vp_cell G.2.2.2.2 (n1, .inr (.inr (.inr (.inr g))))) 0 0 (nI k0) = vp_cell G.2.2.2.2 (n1, .inr (.inr (.inr (.inr (va_cpy f g 0 0 k0))))) := by
    have := va_copied (fun z => va_rf z) G.2.2.2.2 G.2.2.2.2 f g (n0 := n0) (n1 := n1) (sp := 0) (dp := 0) (n := k0) (by omega)
    rw [vp_cell_q, vp_cell_q, vp_cell_q]
    show (arrV _ _ _).storeRun (0 : Int32).toNatClampNeg ((arrV _ _ _).stretch (0 : Int32).toNatClampNeg (nI k0).toNatClampNeg) = _
    rw [ec, e0]
    exact this
  rw [e1] at X' step
  have hl : a < H.size := (Array.getElem?_eq_some_iff.mp hc1).1
  generalize hcell : vp_cell G.2.2.2.2 (n1, .inr (.inr (.inr (.inr (va_cpy f g 0 0 k0))))) = cell at X' step
  have hheap : ((T.setVm vm').setCell a cell).heap = H.setIfInBounds a cell := by rw [← hT]; rfl
  have oq : ∀ q : Nat, q ≠ a → (H.setIfInBounds a cell)[q]? = H[q]? := fun q hq => by simp [Array.getElem?_setIfInBounds, Ne.symm hq]
  obtain ⟨t, a1, b1⟩ := kk _ _ (hM.put ha1 (show (H.setIfInBounds a cell)[a]? = some (vp_cell _ _) by rw [hcell]; simp [Array.getElem?_setIfInBounds, hl]) oq) ⟨by simp; exact hS.1, fun q g1 g2 => by
      rw [oq q (fun e => g2 (by rw [e]; exact hM.2.2 kd _ ha1))]
      exact hS.2.1 q g1 g2, fun q hq => by
      rcases List.mem_append.mp hq with h | h
      · exact hS.2.2 q h
      · obtain ⟨z, -, hz⟩ := List.mem_map.mp h
        rw [← hz]
        exact hM.2.2 kd _ ha1⟩ _ hheap X'
  exact ⟨t, step t a1, b1⟩
end CLQ
theorem cl_max {a b : Nat} (ha : a < 2 ^ 31) (hb : b < 2 ^ 31) : (if nI a < nI b then nI b else nI a) = nI (if a < b then b else a) := by
  by_cases h : a < b
  · rw [if_pos (nI_lt h hb), if_pos h]
  · rw [if_neg (nI_nlt (by omega) ha), if_neg h]
theorem cl_min {a b : Nat} (ha : a < 2 ^ 31) (hb : b < 2 ^ 31) : (if nI b < nI a then nI b else nI a) = nI (if b < a then b else a) := by
  by_cases h : b < a
  · rw [if_pos (nI_lt h ha), if_pos h]
  · rw [if_neg (nI_nlt (by omega) hb), if_neg h]
theorem cl_ne {M : mp_M} {k j : mp_N} {y lq ci cj : Nat} {fs fl : List Value} (h1 : M k = some (y, .inr (ci, fs))) (h2 : M j = some (lq, .inr (cj, fl))) (h : ci ≠ cj) : k ≠ j := by
  intro z
  rw [z, h2] at h1
  simp at h1
  exact h h1.2.1.symm
theorem cl_neA {M : mp_M} {k j : mp_N} {y dq ci : Nat} {fs : List Value} {x : ClassId × vp_A} (h1 : M k = some (y, .inr (ci, fs))) (h2 : M j = some (dq, .inl x)) : k ≠ j := by
  intro z
  rw [z, h2] at h1
  simp at h1
theorem cl_neN {M : mp_M} {k j : mp_N} {x : Nat × va_E} (h1 : M k = some x) (h2 : M j = none) : k ≠ j := by
  intro z
  rw [z, h2] at h1
  cases h1
/-- a list's array behind an addition -/
def LG (g g' : Nat → Option Nat) (sz q cap : Nat) : Prop := 10 ≤ cap ∧ cap ≤ 150 ∧ sz + 1 ≤ cap ∧ g' sz = some q ∧ ∀ i, i < sz → g' i = g i
theorem cl_half {n : Nat} (h : n < 2 ^ 31) : nI n >>> ((1 : Int32) &&& 31) = nI (n / 2) := by
  have k := pk_shrN (n := n) h ((1 : Int32) &&& 31) 1 (by decide)
  rw [Nat.pow_one] at k
  exact k
abbrev rmJ8_newLength_cabcc : Room := { frames := 1, cells := 0, slots := 0, locals := 24 }
set_option maxHeartbeats 4000000 in
set_option maxRecDepth 100000 in
theorem c_J8_newLength_cabcc (l : Launch) (X : mp_X) (G : mp_G) (A : Nat → Prop) (M : mp_M) (a b d : Nat) (hab : a + b + d < 10000) (hb0 : 0 < b) : mp_Met l X G A yJ8_newLength_cabcc wsJ8_newLength_cabcc rmJ8_newLength_cabcc ([.int (nI a), .int (nI b), .int (nI d)] : List Value) M (fun r M1 => r = some (.int (nI (a + (if b < d then d else b)))) ∧ M1 = M) 0 0 := by
  refine mp_ofW (cc := cJ8_newLength_cabcc) (maxL := 4) (ret := (some .int)) (by decide) rfl (Nat.le_of_ble_eq_true rfl) ?_
  intro p e s m below meth c ls hx hb hr hts hown hlocks hnm hml hC hM hS hl
  have hl : lv_has ls 4 [(0, .int (nI a)), (1, .int (nI b)), (2, .int (nI d))] := hl
  have hown : s.vm.findClass RJ8 = some m.cls := hown
  have mm_l194 := hts (.methodLink RJ8 194 Lib.Math.max.name) (List.mem_of_getElem? (i := 1) rfl)
  have mm_smax := hts (.static Lib.Math.max.name) (List.mem_of_getElem? (i := 2) rfl)
  have mm_i := hts (.initialized "java/lang/Math") (List.mem_of_getElem? (i := 3) rfl)
  have mm_cmax := hts (.code Lib.Math.max.name Lib.Math.max.code 2 (some .int)) (List.mem_of_getElem? (i := 4) rfl)
  have hw_200 := hts (.constant RJ8 200 (2147483639)) (List.mem_of_getElem? (i := 5) rfl)
  have hmx : (if b < d then d else b) ≤ b + d ∧ 0 < (if b < d then d else b) := by split <;> omega
  refine lv_iload_n hx hb dJ8_newLength_cabcc_0 rfl (lv_at hl 0 rfl) ?_
  refine lv_iload_n hx hb dJ8_newLength_cabcc_1 rfl (lv_at hl 1 rfl) ?_
  refine lv_iload_n hx hb dJ8_newLength_cabcc_2 rfl (lv_at hl 2 rfl) ?_
  refine va_mmax hx hb (hml.trans hl.1.symm) hown mm_l194 mm_smax mm_i mm_cmax (Nat.le_of_ble_eq_true rfl) (Nat.le_of_ble_eq_true rfl) (Nat.le_of_ble_eq_true rfl) ((Nat.le_of_ble_eq_true rfl)) dJ8_newLength_cabcc_3 ?_
  refine mp_top (nI (if b < d then d else b)) (cl_max (a := b) (b := d) (by omega) (by omega)) ?_
  refine lv_iadd hx hb dJ8_newLength_cabcc_6 ?_
  refine mp_top (nI (a + (if b < d then d else b))) (nI_add a (if b < d then d else b)) ?_
  refine lv_istore_n (lv' := [(3, .int (nI (a + (if b < d then d else b)))), (0, .int (nI a)), (1, .int (nI b)), (2, .int (nI d))]) hx hb dJ8_newLength_cabcc_7 rfl hl (by decide) rfl (fun ls hl => ?_)
  refine lv_iconst (v := (0 : Int32)) hx hb dJ8_newLength_cabcc_8 (by decide) ?_
  refine lv_iload_n hx hb dJ8_newLength_cabcc_9 rfl (lv_at hl 0 rfl) ?_
  refine lv_icmp_ge (tgt := 21) hx hb dJ8_newLength_cabcc_10 (by decide) (fun c1 => ?_) (fun c1 => ?_)
  · have c1 := nn_le (a := a + (if b < d then d else b)) (b := 0) (by omega) (by omega) c1
    exact absurd c1 (by omega)
  · have c1 := nn_nle (a := a + (if b < d then d else b)) (b := 0) (by omega) (by omega) c1
    refine lv_iload_n hx hb dJ8_newLength_cabcc_13 rfl (lv_at hl 0 rfl) ?_
    refine lv_ldc (v := 2147483639) hx hb hown hw_200 dJ8_newLength_cabcc_14 ?_
    refine lv_icmp_gt (tgt := 21) hx hb dJ8_newLength_cabcc_16 (by decide) (fun c3 => ?_) (fun c3 => ?_)
    · have c3 := nn_lt (a := 2147483639) (b := a + (if b < d then d else b)) (by omega) (by omega) c3
      exact absurd c3 (by omega)
    · have c3 := nn_nlt (a := 2147483639) (b := a + (if b < d then d else b)) (by omega) (by omega) c3
      refine lv_iload_n hx hb dJ8_newLength_cabcc_19 rfl (lv_at hl 0 rfl) ?_
      exact mp_iret hx hb hr hlocks (Nat.le_of_ble_eq_true rfl) (Nat.le_of_ble_eq_true rfl) hM hS dJ8_newLength_cabcc_20 (⟨rfl, rfl⟩)
abbrev rmJ7_copyOf_6403c : Room := { frames := 1, cells := 1, slots := 150, locals := 40 }
set_option maxHeartbeats 4000000 in
set_option maxRecDepth 100000 in
theorem c_J7_copyOf_6403c (l : Launch) (X : mp_X) (G : mp_G) (A : Nat → Prop) (M : mp_M) (dq cap : Nat) (g : Nat → Option Nat) (kd t : mp_N) (hD : M kd = some (dq, .inl (G.2.2.2.2, cap, .inr (.inr (.inr (.inr g)))))) (ht : M t = none) (ci : Nat) (rr : vw_C) (hc : vwCl[ci]? = some rr) (hca : Cond.castable rr.1 "java/lang/Object" ∈ mp_nw) (hel : ∀ i, i < cap → ∀ y, g i = some y → ∃ (k : mp_N) (fs : List Value), M k = some (y, .inr (ci, fs))) (nn : Nat) (hn1 : cap ≤ nn) (hn2 : nn ≤ 150) : mp_Met l X G A yJ7_copyOf_6403c wsJ7_copyOf_6403c rmJ7_copyOf_6403c ([.ref dq, .int (nI nn), .ref X.2.1] : List Value) M (fun r M1 => ∃ q : Nat, r = some (.ref q) ∧ M1 = mp_set M t (q, .inl (G.2.2.2.2, nn, .inr (.inr (.inr (.inr (va_cpy g (fun _ => none) 0 0 cap))))))) 1 150 := by
  refine mp_ofW (cc := cJ7_copyOf_6403c) (maxL := 4) (ret := (some (.array (.object "java/lang/Object")))) (by decide) rfl (Nat.le_of_ble_eq_true rfl) ?_
  intro p e s m below meth c ls hx hb hr hts hown hlocks hnm hml hC hM hS hl
  have hl : lv_has ls 4 [(0, .ref dq), (1, .int (nI nn)), (2, .ref X.2.1)] := hl
  have hown : s.vm.findClass RJ7 = some m.cls := hown
  have cl_110 := hts (.classLink RJ7 110 "[Ljava/lang/Object;") (List.mem_of_getElem? (i := 1) rfl)
  have cl_2 := hts (.classLink RJ7 2 "java/lang/Object") (List.mem_of_getElem? (i := 2) rfl)
  have mm_l304 := hts (.methodLink RJ7 304 Lib.Math.min.name) (List.mem_of_getElem? (i := 3) rfl)
  have mm_smin := hts (.static Lib.Math.min.name) (List.mem_of_getElem? (i := 4) rfl)
  have mm_i := hts (.initialized "java/lang/Math") (List.mem_of_getElem? (i := 5) rfl)
  have mm_cmin := hts (.code Lib.Math.min.name Lib.Math.min.code 2 (some .int)) (List.mem_of_getElem? (i := 6) rfl)
  have ac_l := hts (.methodLink RJ7 150 arraycopyName) (List.mem_of_getElem? (i := 7) rfl)
  have ac_n := hts (.native arraycopyName) (List.mem_of_getElem? (i := 8) rfl)
  have ac_s := hts (.static arraycopyName) (List.mem_of_getElem? (i := 9) rfl)
  have ac_i := hts (.initialized "java/lang/System") (List.mem_of_getElem? (i := 10) rfl)
  refine lv_aload_n hx hb dJ7_copyOf_6403c_0 rfl (lv_at hl 2 rfl) ?_
  refine va_ldcM hx hb hown cl_110 hC.2.2.1.2.2.2.1 dJ7_copyOf_6403c_1 ?_
  refine lv_acmp_ne (rx := some X.2.1) (ry := some X.2.1) (tgt := 13) hx hb dJ7_copyOf_6403c_3 (by decide) (fun z => absurd rfl z) (fun _ => ?_)
  refine lv_iload_n hx hb dJ7_copyOf_6403c_6 rfl (lv_at hl 1 rfl) ?_
  refine mp_newq (kn := t) hx hb hown cl_2 hC hM hS (N' := nn) (by omega) (Nat.le_of_ble_eq_true rfl) (show 0 + nn ≤ 150 by omega) dJ7_copyOf_6403c_7 ht (fun qa_1 H hM hS => ?_)
  refine lv_goto (tgt := 24) hx hb dJ7_copyOf_6403c_10 (by decide) ?_
  refine lv_astore_n (lv' := [(3, .ref qa_1), (0, .ref dq), (1, .int (nI nn)), (2, .ref X.2.1)]) hx hb dJ7_copyOf_6403c_24 rfl hl (by decide) rfl (fun ls hl => ?_)
  refine lv_aload_n hx hb dJ7_copyOf_6403c_25 rfl (lv_at hl 1 rfl) ?_
  refine lv_iconst (v := (0 : Int32)) hx hb dJ7_copyOf_6403c_26 (by decide) ?_
  refine lv_aload_n hx hb dJ7_copyOf_6403c_27 rfl (lv_at hl 0 rfl) ?_
  refine lv_iconst (v := (0 : Int32)) hx hb dJ7_copyOf_6403c_28 (by decide) ?_
  refine lv_aload_n hx hb dJ7_copyOf_6403c_29 rfl (lv_at hl 1 rfl) ?_
  refine va_alen hx hb hC.1 (hM.one ((mp_set_n _ _ _ (cl_neN hD ht)).trans hD)) 0 3 rfl rfl (v := nI cap) rfl dJ7_copyOf_6403c_30 ?_
  refine lv_iload_n hx hb dJ7_copyOf_6403c_31 rfl (lv_at hl 2 rfl) ?_
  refine va_mmin hx hb (hml.trans hl.1.symm) hown mm_l304 mm_smin mm_i mm_cmin (Nat.le_of_ble_eq_true rfl) (Nat.le_of_ble_eq_true rfl) (Nat.le_of_ble_eq_true rfl) ((show 0 + nn ≤ 150 by omega)) dJ7_copyOf_6403c_32 ?_
  refine mp_top (nI (if nn < cap then nn else cap)) (cl_min (a := cap) (b := nn) (by omega) (by omega)) ?_
  refine mp_top (nI cap) (congrArg nI (if_neg (by omega))) ?_
  refine mp_copyq hx hb (hml.trans hl.1.symm) hown ac_l ac_n ac_s ac_i hC hM hS ((mp_set_n _ _ _ (cl_neN hD ht)).trans hD) (mp_set_s _ _ _) (k0 := cap) (by omega) (by omega) (by omega) (fun i hi y hy => by obtain ⟨k, fs, hk⟩ := hel i hi y hy; exact ⟨k, fs, (mp_set_n _ _ _ (cl_neN hk ht)).trans hk⟩) hc hca (Nat.le_of_ble_eq_true rfl) (Nat.le_of_ble_eq_true rfl) dJ7_copyOf_6403c_35 (fun H locs hM hS => ?_)
  rw [mp_set_set] at hM
  have hM : mp_P G.1 A (mp_set M t (qa_1, .inl (G.2.2.2.2, nn, .inr (.inr (.inr (.inr (va_cpy g (fun _ => none) 0 0 cap))))))) H := hM
  refine lv_aload_n hx hb dJ7_copyOf_6403c_38 rfl (lv_at hl 0 rfl) ?_
  exact mp_aret hx hb hr hlocks (Nat.le_of_ble_eq_true rfl) (show 0 + nn ≤ 150 by omega) hM hS dJ7_copyOf_6403c_39 (by first | exact Or.inl ⟨_, rfl⟩ | exact Or.inr ⟨_, rfl⟩) (by first | exact Or.inl rfl | exact Or.inr ⟨_, rfl⟩) (⟨_, rfl, rfl⟩)
abbrev rmJ7_copyOf_1904c : Room := { frames := 2, cells := 1, slots := 150, locals := 63 }
set_option maxHeartbeats 4000000 in
set_option maxRecDepth 100000 in
theorem c_J7_copyOf_1904c (l : Launch) (X : mp_X) (G : mp_G) (A : Nat → Prop) (M : mp_M) (dq cap : Nat) (g : Nat → Option Nat) (kd t : mp_N) (hD : M kd = some (dq, .inl (G.2.2.2.2, cap, .inr (.inr (.inr (.inr g)))))) (ht : M t = none) (ci : Nat) (rr : vw_C) (hc : vwCl[ci]? = some rr) (hca : Cond.castable rr.1 "java/lang/Object" ∈ mp_nw) (hel : ∀ i, i < cap → ∀ y, g i = some y → ∃ (k : mp_N) (fs : List Value), M k = some (y, .inr (ci, fs))) (nn : Nat) (hn1 : cap ≤ nn) (hn2 : nn ≤ 150) : mp_Met l X G A yJ7_copyOf_1904c wsJ7_copyOf_1904c rmJ7_copyOf_1904c ([.ref dq, .int (nI nn)] : List Value) M (fun r M1 => ∃ q : Nat, r = some (.ref q) ∧ M1 = mp_set M t (q, .inl (G.2.2.2.2, nn, .inr (.inr (.inr (.inr (va_cpy g (fun _ => none) 0 0 cap))))))) 1 150 := by
  refine mp_ofW (cc := cJ7_copyOf_1904c) (maxL := 2) (ret := (some (.array (.object "java/lang/Object")))) (by decide) rfl (Nat.le_of_ble_eq_true rfl) ?_
  intro p e s m below meth c ls hx hb hr hts hown hlocks hnm hml hC hM hS hl
  have hl : lv_has ls 2 [(0, .ref dq), (1, .int (nI nn))] := hl
  have hown : s.vm.findClass RJ7 = some m.cls := hown
  have gc_l := hts (.methodLink RJ7 86 ⟨"java/lang/Object", "getClass", "()Ljava/lang/Class;"⟩) (List.mem_of_getElem? (i := 1) rfl)
  have gc_s := hts (.selects "[Ljava/lang/Object;" ⟨"java/lang/Object", "getClass", "()Ljava/lang/Class;"⟩ ⟨"java/lang/Object", "getClass", "()Ljava/lang/Class;"⟩) (List.mem_of_getElem? (i := 2) rfl)
  have gc_i := hts (.instanceMethod ⟨"java/lang/Object", "getClass", "()Ljava/lang/Class;"⟩) (List.mem_of_getElem? (i := 3) rfl)
  have gc_n := hts (.native ⟨"java/lang/Object", "getClass", "()Ljava/lang/Class;"⟩) (List.mem_of_getElem? (i := 4) rfl)
  refine lv_aload_n hx hb dJ7_copyOf_1904c_0 rfl (lv_at hl 0 rfl) ?_
  refine lv_iload_n hx hb dJ7_copyOf_1904c_1 rfl (lv_at hl 1 rfl) ?_
  refine lv_aload_n hx hb dJ7_copyOf_1904c_2 rfl (lv_at hl 0 rfl) ?_
  refine va_getC hx hb (hml.trans hl.1.symm) hown gc_l (va_Dc.use hC.2.2.1.2.2.2.2.1) gc_s gc_i gc_n hC.2.2.1.2.2.2.1 ⟨_, hM.1 _ _ hD, rfl, va_nmO (hC.1.2 3 _ rfl).2 rfl⟩ (Nat.le_of_ble_eq_true rfl) (Nat.le_of_ble_eq_true rfl) dJ7_copyOf_1904c_3 ?_
  refine mp_call (va_runS (As := [.ref dq, .int (nI nn), .ref X.2.1]) (rest := []) ⟨hx, hb, hml, hown, hts⟩ (c_J7_copyOf_6403c l X G A M dq cap g kd t hD ht ci rr hc hca hel nn hn1 hn2) (va_cwS 3 hts gJ7_copyOf_1904c_J7_copyOf_6403c rfl rfl rfl (by decide +kernel) ⟨Nat.le_of_ble_eq_true rfl, Nat.le_of_ble_eq_true rfl⟩) (mp_preS hC hS hM) rfl rfl hl.1 rfl (lv_room (Nat.le_of_ble_eq_true rfl)) dJ7_copyOf_1904c_6 ⟨Nat.le_of_ble_eq_true rfl, Nat.le_of_ble_eq_true rfl⟩) hS (fun v M1 H locs hp hM hS => ?_)
  obtain ⟨q, rfl, rfl⟩ := hp
  exact mp_aret hx hb hr hlocks (Nat.le_of_ble_eq_true rfl) (Nat.le_of_ble_eq_true rfl) hM hS dJ7_copyOf_1904c_9 (by first | exact Or.inl ⟨_, rfl⟩ | exact Or.inr ⟨_, rfl⟩) (by first | exact Or.inl rfl | exact Or.inr ⟨_, rfl⟩) (⟨q, rfl, rfl⟩)
abbrev rmJx4a65c_grow_92f84 : Room := { frames := 3, cells := 1, slots := 150, locals := 84 }
set_option maxHeartbeats 4000000 in
set_option maxRecDepth 100000 in
theorem c_Jx4a65c_grow_92f84 (l : Launch) (X : mp_X) (G : mp_G) (A : Nat → Prop) (M : mp_M) (dq cap : Nat) (g : Nat → Option Nat) (kd t : mp_N) (hD : M kd = some (dq, .inl (G.2.2.2.2, cap, .inr (.inr (.inr (.inr g)))))) (ht : M t = none) (lq sz : Nat) (mo : Int32) (kl : mp_N) (hL : M kl = some (lq, .inr (0, [.int mo, .ref dq, .int (nI sz)]))) (ci : Nat) (rr : vw_C) (hc : vwCl[ci]? = some rr) (hca : Cond.castable rr.1 "java/lang/Object" ∈ mp_nw) (hel : ∀ i, i < sz → ∀ y, g i = some y → ∃ (k : mp_N) (fs : List Value), M k = some (y, .inr (ci, fs))) (hcap : 10 ≤ cap) (hcap2 : cap ≤ 150) (hsz : sz = cap) (hlt : sz < 100) (hkk : kd ≠ kl) : mp_Met l X G A yJx4a65c_grow_92f84 wsJx4a65c_grow_92f84 rmJx4a65c_grow_92f84 ([.ref lq, .int (nI (sz + 1))] : List Value) M (fun r M1 => ∃ q : Nat, r = some (.ref q) ∧ M1 = mp_set (mp_set M kd (q, .inl (G.2.2.2.2, cap + cap / 2, .inr (.inr (.inr (.inr (va_cpy g (fun _ => none) 0 0 cap))))))) kl (lq, .inr (0, [.int mo, .ref q, .int (nI sz)]))) 1 150 := by
  refine mp_ofW (cc := cJx4a65c_grow_92f84) (maxL := 4) (ret := (some (.array (.object "java/lang/Object")))) (by decide) rfl (Nat.le_of_ble_eq_true rfl) ?_
  intro p e s m below meth c ls hx hb hr hts hown hlocks hnm hml hC hM hS hl
  have hl : lv_has ls 4 [(0, .ref lq), (1, .int (nI (sz + 1)))] := hl
  have hown : s.vm.findClass RJx4a65c = some m.cls := hown
  have hin_wsJx4a65c0 : ∀ w ∈ wsJx4a65c0, w ∈ wsJx4a65c_grow_92f84 := fun _ h => List.mem_cons_of_mem _ (List.mem_append_right _ h)
  have fl_9 := hts (.fieldLink RJx4a65c 9 "java/util/ArrayList" "elementData" "[Ljava/lang/Object;") (List.mem_of_getElem? (i := 1) rfl)
  have hkk2 := hkk
  refine lv_aload_n hx hb dJx4a65c_grow_92f84_0 rfl (lv_at hl 0 rfl) ?_
  refine va_get (D := G.1) (C := RJx4a65c) (T := TJx4a65c) (N := 3) (ci := 0) hx hb hts hin_wsJx4a65c0 hown hC.1 (hM.one hL) 0 rfl rfl 1 (by decide) fl_9 (fun _ z => z) rfl dJx4a65c_grow_92f84_1 ?_
  refine va_alen hx hb hC.1 (hM.one hD) 0 3 rfl rfl (v := nI cap) rfl dJx4a65c_grow_92f84_4 ?_
  refine lv_istore_n (lv' := [(2, .int (nI cap)), (0, .ref lq), (1, .int (nI (sz + 1)))]) hx hb dJx4a65c_grow_92f84_5 rfl hl (by decide) rfl (fun ls hl => ?_)
  refine lv_iload_n hx hb dJx4a65c_grow_92f84_6 rfl (lv_at hl 0 rfl) ?_
  refine lv_if_gt (tgt := 20) hx hb dJx4a65c_grow_92f84_7 (by decide) (fun c_1 => ?_) (fun c_1 => ?_)
  · have c_1 := nn_lt (a := 0) (b := cap) (by omega) (by omega) c_1
    refine lv_iload_n hx hb dJx4a65c_grow_92f84_20 rfl (lv_at hl 0 rfl) ?_
    refine lv_iload_n hx hb dJx4a65c_grow_92f84_21 rfl (lv_at hl 2 rfl) ?_
    refine lv_iload_n hx hb dJx4a65c_grow_92f84_22 rfl (lv_at hl 0 rfl) ?_
    refine lv_isub hx hb dJx4a65c_grow_92f84_23 ?_
    refine mp_top (nI ((sz + 1) - cap)) (pk_sub (a := sz + 1) (b := cap) (by omega)) ?_
    refine lv_iload_n hx hb dJx4a65c_grow_92f84_24 rfl (lv_at hl 0 rfl) ?_
    refine lv_iconst (v := (1 : Int32)) hx hb dJx4a65c_grow_92f84_25 (by decide) ?_
    refine lv_ishr hx hb dJx4a65c_grow_92f84_26 ?_
    refine mp_top (nI (cap / 2)) (cl_half (n := cap) (by omega)) ?_
    refine mp_calli (va_runS (As := [.int (nI cap), .int (nI ((sz + 1) - cap)), .int (nI (cap / 2))]) (rest := []) ⟨hx, hb, hml, hown, hts⟩ (c_J8_newLength_cabcc l X G A M cap ((sz + 1) - cap) (cap / 2) (by omega) (by omega)) (va_cwS 3 hts gJx4a65c_grow_92f84_J8_newLength_cabcc rfl rfl rfl (by decide +kernel) ⟨Nat.le_of_ble_eq_true rfl, Nat.le_of_ble_eq_true rfl⟩) (mp_preS hC hS hM) rfl rfl hl.1 rfl (lv_room (Nat.le_of_ble_eq_true rfl)) dJx4a65c_grow_92f84_27 ⟨Nat.le_of_ble_eq_true rfl, Nat.le_of_ble_eq_true rfl⟩) hS (fun H locs hM hS => ?_)
    refine mp_top (nI (cap + cap / 2)) (congrArg nI (by split <;> omega)) ?_
    refine lv_istore_n (lv' := [(3, .int (nI (cap + cap / 2))), (2, .int (nI cap)), (0, .ref lq), (1, .int (nI (sz + 1)))]) hx hb dJx4a65c_grow_92f84_30 rfl hl (by decide) rfl (fun ls hl => ?_)
    refine lv_aload_n hx hb dJx4a65c_grow_92f84_31 rfl (lv_at hl 2 rfl) ?_
    refine lv_aload_n hx hb dJx4a65c_grow_92f84_32 rfl (lv_at hl 2 rfl) ?_
    refine va_get (D := G.1) (C := RJx4a65c) (T := TJx4a65c) (N := 3) (ci := 0) hx hb hts hin_wsJx4a65c0 hown hC.1 (hM.one hL) 0 rfl rfl 1 (by decide) fl_9 (fun _ z => z) rfl dJx4a65c_grow_92f84_33 ?_
    refine lv_iload_n hx hb dJx4a65c_grow_92f84_36 rfl (lv_at hl 0 rfl) ?_
    refine mp_call (va_runS (As := [.ref dq, .int (nI (cap + cap / 2))]) (rest := [.ref lq]) ⟨hx, hb, hml, hown, hts⟩ (c_J7_copyOf_1904c l X G A M dq cap g kd t hD ht ci rr hc hca (by rw [hsz] at hel; exact hel) (cap + cap / 2) (by omega) (by omega)) (va_cwS 2 hts gJx4a65c_grow_92f84_J7_copyOf_1904c rfl rfl rfl (by decide +kernel) ⟨Nat.le_of_ble_eq_true rfl, Nat.le_of_ble_eq_true rfl⟩) (mp_preS hC hS hM) rfl rfl hl.1 rfl (lv_room (Nat.le_of_ble_eq_true rfl)) dJx4a65c_grow_92f84_37 ⟨Nat.le_of_ble_eq_true rfl, Nat.le_of_ble_eq_true rfl⟩) hS (fun v M1 H locs hp hM hS => ?_)
    obtain ⟨q, rfl, rfl⟩ := hp
    refine lv_dup_x1 hx hb dJx4a65c_grow_92f84_40 rfl rfl ?_
    refine mp_put (D := G.1) (C := RJx4a65c) (T := TJx4a65c) (N := 3) (ci := 0) hx hb hts hin_wsJx4a65c0 tyJx4a65c tyJx4a65c_ok nmJx4a65c hown hC.1 hM hS ((mp_set_n _ _ _ (cl_neN hL ht)).trans hL) rfl 1 (by decide) fl_9 (fun _ z => z) rfl rfl rfl (Nat.le_of_ble_eq_true rfl) dJx4a65c_grow_92f84_41 (fs' := [.int mo, .ref q, .int (nI sz)]) rfl (fun H locs hM hS => ?_)
    have hM : mp_P G.1 A (mp_set (mp_set M t (q, .inl (G.2.2.2.2, cap + cap / 2, .inr (.inr (.inr (.inr (va_cpy g (fun _ => none) 0 0 cap))))))) kl (lq, .inr (0, [.int mo, .ref q, .int (nI sz)]))) H := hM
    have hM : mp_P G.1 A (mp_set (mp_set M kd (q, .inl (G.2.2.2.2, cap + cap / 2, .inr (.inr (.inr (.inr (va_cpy g (fun _ => none) 0 0 cap))))))) kl (lq, .inr (0, [.int mo, .ref q, .int (nI sz)]))) H := by
      rw [mp_set_comm _ _ _ (Ne.symm (cl_neN hL ht))] at hM
      rw [mp_set_comm _ _ _ hkk]
      exact mp_P.mv hM ((mp_set_n _ _ _ (Ne.symm (cl_neN hL ht))).trans ht)
    exact mp_aret hx hb hr hlocks (Nat.le_of_ble_eq_true rfl) (Nat.le_of_ble_eq_true rfl) hM hS dJx4a65c_grow_92f84_44 (by first | exact Or.inl ⟨_, rfl⟩ | exact Or.inr ⟨_, rfl⟩) (by first | exact Or.inl rfl | exact Or.inr ⟨_, rfl⟩) (⟨q, rfl, rfl⟩)
  · have c_1 := nn_nlt (a := 0) (b := cap) (by omega) (by omega) c_1
    exact absurd c_1 (by omega)
abbrev rmJx4a65c_grow_d5877 : Room := { frames := 4, cells := 1, slots := 150, locals := 107 }
set_option maxHeartbeats 4000000 in
set_option maxRecDepth 100000 in
theorem c_Jx4a65c_grow_d5877 (l : Launch) (X : mp_X) (G : mp_G) (A : Nat → Prop) (M : mp_M) (dq cap : Nat) (g : Nat → Option Nat) (kd t : mp_N) (hD : M kd = some (dq, .inl (G.2.2.2.2, cap, .inr (.inr (.inr (.inr g)))))) (ht : M t = none) (lq sz : Nat) (mo : Int32) (kl : mp_N) (hL : M kl = some (lq, .inr (0, [.int mo, .ref dq, .int (nI sz)]))) (ci : Nat) (rr : vw_C) (hc : vwCl[ci]? = some rr) (hca : Cond.castable rr.1 "java/lang/Object" ∈ mp_nw) (hel : ∀ i, i < sz → ∀ y, g i = some y → ∃ (k : mp_N) (fs : List Value), M k = some (y, .inr (ci, fs))) (hcap : 10 ≤ cap) (hcap2 : cap ≤ 150) (hsz : sz = cap) (hlt : sz < 100) (hkk : kd ≠ kl) : mp_Met l X G A yJx4a65c_grow_d5877 wsJx4a65c_grow_d5877 rmJx4a65c_grow_d5877 ([.ref lq] : List Value) M (fun r M1 => ∃ q : Nat, r = some (.ref q) ∧ M1 = mp_set (mp_set M kd (q, .inl (G.2.2.2.2, cap + cap / 2, .inr (.inr (.inr (.inr (va_cpy g (fun _ => none) 0 0 cap))))))) kl (lq, .inr (0, [.int mo, .ref q, .int (nI sz)]))) 1 150 := by
  refine mp_ofW (cc := cJx4a65c_grow_d5877) (maxL := 1) (ret := (some (.array (.object "java/lang/Object")))) (by decide) rfl (Nat.le_of_ble_eq_true rfl) ?_
  intro p e s m below meth c ls hx hb hr hts hown hlocks hnm hml hC hM hS hl
  have hl : lv_has ls 1 [(0, .ref lq)] := hl
  have hown : s.vm.findClass RJx4a65c = some m.cls := hown
  have hin_wsJx4a65c0 : ∀ w ∈ wsJx4a65c0, w ∈ wsJx4a65c_grow_d5877 := fun _ h => List.mem_cons_of_mem _ (List.mem_append_right _ h)
  have fl_48 := hts (.fieldLink RJx4a65c 48 "java/util/ArrayList" "size" "I") (List.mem_of_getElem? (i := 1) rfl)
  refine lv_aload_n hx hb dJx4a65c_grow_d5877_0 rfl (lv_at hl 0 rfl) ?_
  refine lv_aload_n hx hb dJx4a65c_grow_d5877_1 rfl (lv_at hl 0 rfl) ?_
  refine va_get (D := G.1) (C := RJx4a65c) (T := TJx4a65c) (N := 3) (ci := 0) hx hb hts hin_wsJx4a65c0 hown hC.1 (hM.one hL) 0 rfl rfl 2 (by decide) fl_48 (fun _ z => z) rfl dJx4a65c_grow_d5877_2 ?_
  refine lv_iconst (v := (1 : Int32)) hx hb dJx4a65c_grow_d5877_5 (by decide) ?_
  refine lv_iadd hx hb dJx4a65c_grow_d5877_6 ?_
  refine mp_top (nI (sz + 1)) (nI_add sz 1) ?_
  refine mp_call (va_runV (As := [.int (nI (sz + 1))]) (rest := []) ⟨hx, hb, hml, hown, hts⟩ (c_Jx4a65c_grow_92f84 l X G A M dq cap g kd t hD ht lq sz mo kl hL ci rr hc hca hel hcap hcap2 hsz hlt hkk) (cwV 1 hts gJx4a65c_grow_d5877_Jx4a65c_grow_92f84 rfl rfl rfl (by decide +kernel) ⟨Nat.le_of_ble_eq_true rfl, Nat.le_of_ble_eq_true rfl⟩) (mp_preV hC hS hM (mp_recv hC.1 hM hL (r := (RJx4a65c, TJx4a65c, 3)) rfl)) rfl rfl hl.1 rfl (lv_room (Nat.le_of_ble_eq_true rfl)) dJx4a65c_grow_d5877_7 ⟨Nat.le_of_ble_eq_true rfl, Nat.le_of_ble_eq_true rfl⟩) hS (fun v M1 H locs hp hM hS => ?_)
  obtain ⟨q, rfl, rfl⟩ := hp
  exact mp_aret hx hb hr hlocks (Nat.le_of_ble_eq_true rfl) (Nat.le_of_ble_eq_true rfl) hM hS dJx4a65c_grow_d5877_10 (by first | exact Or.inl ⟨_, rfl⟩ | exact Or.inr ⟨_, rfl⟩) (by first | exact Or.inl rfl | exact Or.inr ⟨_, rfl⟩) (⟨q, rfl, rfl⟩)
abbrev rmJx4a65c_add_72be8 : Room := { frames := 5, cells := 1, slots := 150, locals := 127 }
set_option maxHeartbeats 4000000 in
set_option maxRecDepth 100000 in
theorem c_Jx4a65c_add_72be8 (l : Launch) (X : mp_X) (G : mp_G) (A : Nat → Prop) (M : mp_M) (dq cap : Nat) (g : Nat → Option Nat) (kd t : mp_N) (hD : M kd = some (dq, .inl (G.2.2.2.2, cap, .inr (.inr (.inr (.inr g)))))) (ht : M t = none) (lq sz : Nat) (mo : Int32) (kl : mp_N) (hL : M kl = some (lq, .inr (0, [.int mo, .ref dq, .int (nI sz)]))) (ci : Nat) (rr : vw_C) (hc : vwCl[ci]? = some rr) (hca : Cond.castable rr.1 "java/lang/Object" ∈ mp_nw) (hel : ∀ i, i < sz → ∀ y, g i = some y → ∃ (k : mp_N) (fs : List Value), M k = some (y, .inr (ci, fs))) (hcap : 10 ≤ cap) (hcap2 : cap ≤ 150) (hsz : sz = cap) (hlt : sz < 100) (hkk : kd ≠ kl)(ke : mp_N) (eq : Nat) (fe : List Value) (he : M ke = some (eq, .inr (ci, fe))) (hci : ci ≠ 0)  : mp_Met l X G A yJx4a65c_add_72be8 wsJx4a65c_add_72be8 rmJx4a65c_add_72be8 ([.ref lq, .ref eq, .ref dq, .int (nI sz)] : List Value) M (fun r M1 => r = none ∧ ∃ (dq1 cap1 : Nat) (g1 : Nat → Option Nat), M1 = mp_set (mp_set M kd (dq1, .inl (G.2.2.2.2, cap1, .inr (.inr (.inr (.inr g1)))))) kl (lq, .inr (0, [.int mo, .ref dq1, .int (nI (sz + 1))])) ∧ LG g g1 sz eq cap1) 1 150 := by
  refine mp_ofW (cc := cJx4a65c_add_72be8) (maxL := 4) (ret := none) (by decide) rfl (Nat.le_of_ble_eq_true rfl) ?_
  intro p e s m below meth c ls hx hb hr hts hown hlocks hnm hml hC hM hS hl
  have hl : lv_has ls 4 [(0, .ref lq), (1, .ref eq), (2, .ref dq), (3, .int (nI sz))] := hl
  have hown : s.vm.findClass RJx4a65c = some m.cls := hown
  have hin_wsJx4a65c0 : ∀ w ∈ wsJx4a65c0, w ∈ wsJx4a65c_add_72be8 := fun _ h => List.mem_cons_of_mem _ (List.mem_append_right _ h)
  have fl_48 := hts (.fieldLink RJx4a65c 48 "java/util/ArrayList" "size" "I") (List.mem_of_getElem? (i := 1) rfl)
  have hel1 : ke ≠ kl := cl_ne he hL hci
  have hel2 : ke ≠ kd := cl_neA he hD
  refine lv_iload_n hx hb dJx4a65c_add_72be8_0 rfl (lv_at hl 3 rfl) ?_
  refine lv_aload_n hx hb dJx4a65c_add_72be8_1 rfl (lv_at hl 2 rfl) ?_
  refine va_alen hx hb hC.1 (hM.one hD) 0 3 rfl rfl (v := nI cap) rfl dJx4a65c_add_72be8_2 ?_
  refine lv_icmp_ne (tgt := 11) hx hb dJx4a65c_add_72be8_3 (by decide) (fun c_1 => ?_) (fun c_1 => ?_)
  · have c_1 := nn_neq (a := sz) (b := cap) (by omega) (by omega) c_1
    exact absurd c_1 (by omega)
  · have c_1 := nn_eq (a := sz) (b := cap) (by omega) (by omega) c_1
    refine lv_aload_n hx hb dJx4a65c_add_72be8_6 rfl (lv_at hl 0 rfl) ?_
    refine mp_call (va_runV (As := []) (rest := []) ⟨hx, hb, hml, hown, hts⟩ (c_Jx4a65c_grow_d5877 l X G A M dq cap g kd t hD ht lq sz mo kl hL ci rr hc hca hel hcap hcap2 hsz hlt hkk) (cwV 0 hts gJx4a65c_add_72be8_Jx4a65c_grow_d5877 rfl rfl rfl (by decide +kernel) ⟨Nat.le_of_ble_eq_true rfl, Nat.le_of_ble_eq_true rfl⟩) (mp_preV hC hS hM (mp_recv hC.1 hM hL (r := (RJx4a65c, TJx4a65c, 3)) rfl)) rfl rfl hl.1 rfl (lv_room (Nat.le_of_ble_eq_true rfl)) dJx4a65c_add_72be8_7 ⟨Nat.le_of_ble_eq_true rfl, Nat.le_of_ble_eq_true rfl⟩) hS (fun v M1 H locs hp hM hS => ?_)
    obtain ⟨q, rfl, rfl⟩ := hp
    refine lv_astore_n (lv' := [(2, .ref q), (0, .ref lq), (1, .ref eq), (3, .int (nI sz))]) hx hb dJx4a65c_add_72be8_10 rfl hl (by decide) rfl (fun ls hl => ?_)
    refine lv_aload_n hx hb dJx4a65c_add_72be8_11 rfl (lv_at hl 0 rfl) ?_
    refine lv_iload_n hx hb dJx4a65c_add_72be8_12 rfl (lv_at hl 3 rfl) ?_
    refine lv_aload_n hx hb dJx4a65c_add_72be8_13 rfl (lv_at hl 2 rfl) ?_
    refine mp_astq hx hb hC hM hS ((mp_set_n _ _ _ hkk).trans (mp_set_s _ _ _)) ((mp_set_n _ _ _ hel1).trans ((mp_set_n _ _ _ hel2).trans he)) hc hca (j := sz) (by omega) (by omega) dJx4a65c_add_72be8_14 (fun H locs hM hS => ?_)
    have hM : mp_P G.1 A (mp_set (mp_set (mp_set M kd (q, .inl (G.2.2.2.2, cap + cap / 2, .inr (.inr (.inr (.inr (va_cpy g (fun _ => none) 0 0 cap))))))) kl (lq, .inr (0, [.int mo, .ref q, .int (nI sz)]))) kd (q, .inl (G.2.2.2.2, cap + cap / 2, .inr (.inr (.inr (.inr (va_up (va_cpy g (fun _ => none) 0 0 cap) sz (some eq)))))))) H := hM
    refine lv_aload_n hx hb dJx4a65c_add_72be8_15 rfl (lv_at hl 1 rfl) ?_
    refine lv_iload_n hx hb dJx4a65c_add_72be8_16 rfl (lv_at hl 3 rfl) ?_
    refine lv_iconst (v := (1 : Int32)) hx hb dJx4a65c_add_72be8_17 (by decide) ?_
    refine lv_iadd hx hb dJx4a65c_add_72be8_18 ?_
    refine mp_top (nI (sz + 1)) (nI_add sz 1) ?_
    refine mp_put (D := G.1) (C := RJx4a65c) (T := TJx4a65c) (N := 3) (ci := 0) hx hb hts hin_wsJx4a65c0 tyJx4a65c tyJx4a65c_ok nmJx4a65c hown hC.1 hM hS ((mp_set_n _ _ _ (by first | assumption | exact Ne.symm (by assumption) | simp)).trans (mp_set_s _ _ _)) rfl 2 (by decide) fl_48 (fun _ z => z) rfl rfl rfl (Nat.le_of_ble_eq_true rfl) dJx4a65c_add_72be8_19 (fs' := [.int mo, .ref q, .int (nI (sz + 1))]) rfl (fun H locs hM hS => ?_)
    have hM : mp_P G.1 A (mp_set (mp_set (mp_set (mp_set M kd (q, .inl (G.2.2.2.2, cap + cap / 2, .inr (.inr (.inr (.inr (va_cpy g (fun _ => none) 0 0 cap))))))) kl (lq, .inr (0, [.int mo, .ref q, .int (nI sz)]))) kd (q, .inl (G.2.2.2.2, cap + cap / 2, .inr (.inr (.inr (.inr (va_up (va_cpy g (fun _ => none) 0 0 cap) sz (some eq)))))))) kl (lq, .inr (0, [.int mo, .ref q, .int (nI (sz + 1))]))) H := hM
    exact mp_vret hx hb hr hlocks (Nat.le_of_ble_eq_true rfl) (Nat.le_of_ble_eq_true rfl) hM hS dJx4a65c_add_72be8_22 (⟨rfl, _, _, _, by rw [mp_set_comm _ _ _ (Ne.symm hkk), mp_set_set, mp_set_set], by omega, by omega, by omega, by simp [va_up], fun i hi => by simp only [va_up, va_cpy]; rw [if_neg (by omega), if_pos (by omega)]; simp⟩)
abbrev rmJx4a65c_add_9ea2d : Room := { frames := 6, cells := 1, slots := 150, locals := 150 }
set_option maxHeartbeats 4000000 in
set_option maxRecDepth 100000 in
theorem c_Jx4a65c_add_9ea2d (l : Launch) (X : mp_X) (G : mp_G) (A : Nat → Prop) (M : mp_M) (dq cap : Nat) (g : Nat → Option Nat) (kd t : mp_N) (hD : M kd = some (dq, .inl (G.2.2.2.2, cap, .inr (.inr (.inr (.inr g)))))) (ht : M t = none) (lq sz : Nat) (mo : Int32) (kl : mp_N) (hL : M kl = some (lq, .inr (0, [.int mo, .ref dq, .int (nI sz)]))) (ci : Nat) (rr : vw_C) (hc : vwCl[ci]? = some rr) (hca : Cond.castable rr.1 "java/lang/Object" ∈ mp_nw) (hel : ∀ i, i < sz → ∀ y, g i = some y → ∃ (k : mp_N) (fs : List Value), M k = some (y, .inr (ci, fs))) (hcap : 10 ≤ cap) (hcap2 : cap ≤ 150) (hsz : sz = cap) (hlt : sz < 100) (hkk : kd ≠ kl)(ke : mp_N) (eq : Nat) (fe : List Value) (he : M ke = some (eq, .inr (ci, fe))) (hci : ci ≠ 0)  : mp_Met l X G A yJx4a65c_add_9ea2d wsJx4a65c_add_9ea2d rmJx4a65c_add_9ea2d ([.ref lq, .ref eq] : List Value) M (fun r M1 => r = some (.int 1) ∧ ∃ (dq1 cap1 : Nat) (g1 : Nat → Option Nat), M1 = mp_set (mp_set M kd (dq1, .inl (G.2.2.2.2, cap1, .inr (.inr (.inr (.inr g1)))))) kl (lq, .inr (0, [.int (mo + 1), .ref dq1, .int (nI (sz + 1))])) ∧ LG g g1 sz eq cap1) 1 150 := by
  refine mp_ofW (cc := cJx4a65c_add_9ea2d) (maxL := 2) (ret := (some .boolean)) (by decide) rfl (Nat.le_of_ble_eq_true rfl) ?_
  intro p e s m below meth c ls hx hb hr hts hown hlocks hnm hml hC hM hS hl
  have hl : lv_has ls 2 [(0, .ref lq), (1, .ref eq)] := hl
  have hown : s.vm.findClass RJx4a65c = some m.cls := hown
  have hin_wsJx4a65c0 : ∀ w ∈ wsJx4a65c0, w ∈ wsJx4a65c_add_9ea2d := fun _ h => List.mem_cons_of_mem _ (List.mem_append_right _ h)
  have fl_63 := hts (.fieldLink RJx4a65c 63 "java/util/ArrayList" "modCount" "I") (List.mem_of_getElem? (i := 1) rfl)
  have sf_63 := hts (.sameField "java/util/ArrayList" "java/util/AbstractList" "modCount" "I") (List.mem_of_getElem? (i := 2) rfl)
  have fl_9 := hts (.fieldLink RJx4a65c 9 "java/util/ArrayList" "elementData" "[Ljava/lang/Object;") (List.mem_of_getElem? (i := 3) rfl)
  have fl_48 := hts (.fieldLink RJx4a65c 48 "java/util/ArrayList" "size" "I") (List.mem_of_getElem? (i := 4) rfl)
  have hel1 : ke ≠ kl := cl_ne he hL hci
  refine lv_aload_n hx hb dJx4a65c_add_9ea2d_0 rfl (lv_at hl 0 rfl) ?_
  refine lv_dup hx hb dJx4a65c_add_9ea2d_1 rfl ?_
  refine va_get (D := G.1) (C := RJx4a65c) (T := TJx4a65c) (N := 3) (ci := 0) hx hb hts hin_wsJx4a65c0 hown hC.1 (hM.one hL) 0 rfl rfl 0 (by decide) fl_63 (u_same sf_63) rfl dJx4a65c_add_9ea2d_2 ?_
  refine lv_iconst (v := (1 : Int32)) hx hb dJx4a65c_add_9ea2d_5 (by decide) ?_
  refine lv_iadd hx hb dJx4a65c_add_9ea2d_6 ?_
  refine mp_put (D := G.1) (C := RJx4a65c) (T := TJx4a65c) (N := 3) (ci := 0) hx hb hts hin_wsJx4a65c0 tyJx4a65c tyJx4a65c_ok nmJx4a65c hown hC.1 hM hS hL rfl 0 (by decide) fl_63 (u_same sf_63) rfl rfl rfl (Nat.le_of_ble_eq_true rfl) dJx4a65c_add_9ea2d_7 (fs' := [.int (mo + (1 : Int32)), .ref dq, .int (nI sz)]) rfl (fun H locs hM hS => ?_)
  have hM : mp_P G.1 A (mp_set M kl (lq, .inr (0, [.int (mo + (1 : Int32)), .ref dq, .int (nI sz)]))) H := hM
  refine lv_aload_n hx hb dJx4a65c_add_9ea2d_10 rfl (lv_at hl 0 rfl) ?_
  refine lv_aload_n hx hb dJx4a65c_add_9ea2d_11 rfl (lv_at hl 1 rfl) ?_
  refine lv_aload_n hx hb dJx4a65c_add_9ea2d_12 rfl (lv_at hl 0 rfl) ?_
  refine va_get (D := G.1) (C := RJx4a65c) (T := TJx4a65c) (N := 3) (ci := 0) hx hb hts hin_wsJx4a65c0 hown hC.1 (hM.one (mp_set_s _ _ _)) 0 rfl rfl 1 (by decide) fl_9 (fun _ z => z) rfl dJx4a65c_add_9ea2d_13 ?_
  refine lv_aload_n hx hb dJx4a65c_add_9ea2d_16 rfl (lv_at hl 0 rfl) ?_
  refine va_get (D := G.1) (C := RJx4a65c) (T := TJx4a65c) (N := 3) (ci := 0) hx hb hts hin_wsJx4a65c0 hown hC.1 (hM.one (mp_set_s _ _ _)) 0 rfl rfl 2 (by decide) fl_48 (fun _ z => z) rfl dJx4a65c_add_9ea2d_17 ?_
  refine mp_call (va_runV (As := [.ref eq, .ref dq, .int (nI sz)]) (rest := []) ⟨hx, hb, hml, hown, hts⟩ (c_Jx4a65c_add_72be8 l X G A (mp_set M kl (lq, .inr (0, [.int (mo + 1), .ref dq, .int (nI sz)]))) dq cap g kd t ((mp_set_n _ _ _ hkk).trans hD) ((mp_set_n _ _ _ (Ne.symm (cl_neN hL ht))).trans ht) lq sz (mo + 1) kl (mp_set_s _ _ _) ci rr hc hca (fun i hi y hy => by obtain ⟨k, fs, hk⟩ := hel i hi y hy; exact ⟨k, fs, (mp_set_n _ _ _ (cl_ne hk hL hci)).trans hk⟩) hcap hcap2 hsz hlt hkk ke eq fe ((mp_set_n _ _ _ hel1).trans he) hci) (cwV 3 hts gJx4a65c_add_9ea2d_Jx4a65c_add_72be8 rfl rfl rfl (by decide +kernel) ⟨Nat.le_of_ble_eq_true rfl, Nat.le_of_ble_eq_true rfl⟩) (mp_preV hC hS hM (mp_recv hC.1 hM (mp_set_s _ _ _) (r := (RJx4a65c, TJx4a65c, 3)) rfl)) rfl rfl hl.1 rfl (lv_room (Nat.le_of_ble_eq_true rfl)) dJx4a65c_add_9ea2d_20 ⟨Nat.le_of_ble_eq_true rfl, Nat.le_of_ble_eq_true rfl⟩) hS (fun v M1 H locs hp hM hS => ?_)
  obtain ⟨rfl, dq1, cap1, g1, rfl, hg⟩ := hp
  refine lv_iconst (v := (1 : Int32)) hx hb dJx4a65c_add_9ea2d_23 (by decide) ?_
  exact mp_zret hx hb hr hlocks (Nat.le_of_ble_eq_true rfl) (Nat.le_of_ble_eq_true rfl) hM hS dJx4a65c_add_9ea2d_24 (by first | rfl | exact bI_nar _) (⟨rfl, dq1, cap1, g1, by rw [mp_set_comm _ _ _ (Ne.symm hkk), mp_set_set], hg⟩)
set_option maxHeartbeats 4000000 in
set_option maxRecDepth 100000 in
theorem c_Jx4a65c_grow_92f84_a (l : Launch) (X : mp_X) (G : mp_G) (A : Nat → Prop) (M : mp_M) (lq : Nat) (mo : Int32) (kl kd : mp_N) (hL : M kl = some (lq, .inr (0, [.int mo, .ref X.1, .int (nI 0)]))) (hk : M kd = none) (hkk : kd ≠ kl)  : mp_Met l X G A yJx4a65c_grow_92f84 wsJx4a65c_grow_92f84 rmJx4a65c_grow_92f84 ([.ref lq, .int (nI 1)] : List Value) M (fun r M1 => ∃ q : Nat, r = some (.ref q) ∧ M1 = mp_set (mp_set M kd (q, .inl (G.2.2.2.2, 10, .inr (.inr (.inr (.inr (fun _ => none))))))) kl (lq, .inr (0, [.int mo, .ref q, .int (nI 0)]))) 1 150 := by
  refine mp_ofW (cc := cJx4a65c_grow_92f84) (maxL := 4) (ret := (some (.array (.object "java/lang/Object")))) (by decide) rfl (Nat.le_of_ble_eq_true rfl) ?_
  intro p e s m below meth c ls hx hb hr hts hown hlocks hnm hml hC hM hS hl
  have hl : lv_has ls 4 [(0, .ref lq), (1, .int (nI 1))] := hl
  have hown : s.vm.findClass RJx4a65c = some m.cls := hown
  have hin_wsJx4a65c0 : ∀ w ∈ wsJx4a65c0, w ∈ wsJx4a65c_grow_92f84 := fun _ h => List.mem_cons_of_mem _ (List.mem_append_right _ h)
  have fl_9 := hts (.fieldLink RJx4a65c 9 "java/util/ArrayList" "elementData" "[Ljava/lang/Object;") (List.mem_of_getElem? (i := 1) rfl)
  have fl_39 := hts (.fieldLink RJx4a65c 39 "java/util/ArrayList" "DEFAULTCAPACITY_EMPTY_ELEMENTDATA" "[Ljava/lang/Object;") (List.mem_of_getElem? (i := 2) rfl)
  have mm_l79 := hts (.methodLink RJx4a65c 79 Lib.Math.max.name) (List.mem_of_getElem? (i := 3) rfl)
  have mm_smax := hts (.static Lib.Math.max.name) (List.mem_of_getElem? (i := 4) rfl)
  have mm_i := hts (.initialized "java/lang/Math") (List.mem_of_getElem? (i := 5) rfl)
  have mm_cmax := hts (.code Lib.Math.max.name Lib.Math.max.code 2 (some .int)) (List.mem_of_getElem? (i := 6) rfl)
  have cl_7 := hts (.classLink RJx4a65c 7 "java/lang/Object") (List.mem_of_getElem? (i := 7) rfl)
  refine lv_aload_n hx hb dJx4a65c_grow_92f84_0 rfl (lv_at hl 0 rfl) ?_
  refine va_get (D := G.1) (C := RJx4a65c) (T := TJx4a65c) (N := 3) (ci := 0) hx hb hts hin_wsJx4a65c0 hown hC.1 (hM.one hL) 0 rfl rfl 1 (by decide) fl_9 (fun _ z => z) rfl dJx4a65c_grow_92f84_1 ?_
  refine va_tlen hx hb hC.2.2.1.2.1 hS (v := nI 0) rfl dJx4a65c_grow_92f84_4 ?_
  refine lv_istore_n (lv' := [(2, .int (nI 0)), (0, .ref lq), (1, .int (nI 1))]) hx hb dJx4a65c_grow_92f84_5 rfl hl (by decide) rfl (fun ls hl => ?_)
  refine lv_iload_n hx hb dJx4a65c_grow_92f84_6 rfl (lv_at hl 0 rfl) ?_
  refine lv_if_gt (tgt := 20) hx hb dJx4a65c_grow_92f84_7 (by decide) (fun c_1 => ?_) (fun c_1 => ?_)
  · have c_1 := nn_lt (a := 0) (b := 0) (by omega) (by omega) c_1
    exact absurd c_1 (by omega)
  · have c_1 := nn_nlt (a := 0) (b := 0) (by omega) (by omega) c_1
    refine lv_aload_n hx hb dJx4a65c_grow_92f84_10 rfl (lv_at hl 1 rfl) ?_
    refine va_get (D := G.1) (C := RJx4a65c) (T := TJx4a65c) (N := 3) (ci := 0) hx hb hts hin_wsJx4a65c0 hown hC.1 (hM.one hL) 0 rfl rfl 1 (by decide) fl_9 (fun _ z => z) rfl dJx4a65c_grow_92f84_11 ?_
    refine va_gets hx hb hC.2.2.1.1 hS hown fl_39 (fun _ z => z) dJx4a65c_grow_92f84_14 ?_
    refine lv_acmp_eq (rx := some X.1) (ry := some X.1) (tgt := 45) hx hb dJx4a65c_grow_92f84_17 (by decide) (fun _ => ?_) (fun z => absurd rfl z)
    refine lv_aload_n hx hb dJx4a65c_grow_92f84_45 rfl (lv_at hl 1 rfl) ?_
    refine lv_bipush (v := (10 : Int32)) hx hb dJx4a65c_grow_92f84_46 (by decide) ?_
    refine lv_iload_n hx hb dJx4a65c_grow_92f84_48 rfl (lv_at hl 2 rfl) ?_
    refine va_mmax hx hb (hml.trans hl.1.symm) hown mm_l79 mm_smax mm_i mm_cmax (Nat.le_of_ble_eq_true rfl) (Nat.le_of_ble_eq_true rfl) (Nat.le_of_ble_eq_true rfl) ((Nat.le_of_ble_eq_true rfl)) dJx4a65c_grow_92f84_49 ?_
    refine mp_top (nI (if 10 < 1 then 1 else 10)) (cl_max (a := 10) (b := 1) (by omega) (by omega)) ?_
    refine mp_top (nI 10) (congrArg nI (if_neg (by omega))) ?_
    refine mp_newq (kn := kd) hx hb hown cl_7 hC hM hS (N' := 10) (by omega) (Nat.le_of_ble_eq_true rfl) (Nat.le_of_ble_eq_true rfl) dJx4a65c_grow_92f84_52 hk (fun qa_2 H hM hS => ?_)
    refine lv_dup_x1 hx hb dJx4a65c_grow_92f84_55 rfl rfl ?_
    refine mp_put (D := G.1) (C := RJx4a65c) (T := TJx4a65c) (N := 3) (ci := 0) hx hb hts hin_wsJx4a65c0 tyJx4a65c tyJx4a65c_ok nmJx4a65c hown hC.1 hM hS ((mp_set_n _ _ _ (cl_neN hL hk)).trans hL) rfl 1 (by decide) fl_9 (fun _ z => z) rfl rfl rfl (Nat.le_of_ble_eq_true rfl) dJx4a65c_grow_92f84_56 (fs' := [.int mo, .ref qa_2, .int (nI 0)]) rfl (fun H locs hM hS => ?_)
    have hM : mp_P G.1 A (mp_set (mp_set M kd (qa_2, .inl (G.2.2.2.2, 10, .inr (.inr (.inr (.inr (fun _ => none))))))) kl (lq, .inr (0, [.int mo, .ref qa_2, .int (nI 0)]))) H := hM
    exact mp_aret hx hb hr hlocks (Nat.le_of_ble_eq_true rfl) (Nat.le_of_ble_eq_true rfl) hM hS dJx4a65c_grow_92f84_59 (by first | exact Or.inl ⟨_, rfl⟩ | exact Or.inr ⟨_, rfl⟩) (by first | exact Or.inl rfl | exact Or.inr ⟨_, rfl⟩) (⟨_, rfl, rfl⟩)
set_option maxHeartbeats 4000000 in
set_option maxRecDepth 100000 in
theorem c_Jx4a65c_grow_d5877_a (l : Launch) (X : mp_X) (G : mp_G) (A : Nat → Prop) (M : mp_M) (lq : Nat) (mo : Int32) (kl kd : mp_N) (hL : M kl = some (lq, .inr (0, [.int mo, .ref X.1, .int (nI 0)]))) (hk : M kd = none) (hkk : kd ≠ kl)  : mp_Met l X G A yJx4a65c_grow_d5877 wsJx4a65c_grow_d5877 rmJx4a65c_grow_d5877 ([.ref lq] : List Value) M (fun r M1 => ∃ q : Nat, r = some (.ref q) ∧ M1 = mp_set (mp_set M kd (q, .inl (G.2.2.2.2, 10, .inr (.inr (.inr (.inr (fun _ => none))))))) kl (lq, .inr (0, [.int mo, .ref q, .int (nI 0)]))) 1 150 := by
  refine mp_ofW (cc := cJx4a65c_grow_d5877) (maxL := 1) (ret := (some (.array (.object "java/lang/Object")))) (by decide) rfl (Nat.le_of_ble_eq_true rfl) ?_
  intro p e s m below meth c ls hx hb hr hts hown hlocks hnm hml hC hM hS hl
  have hl : lv_has ls 1 [(0, .ref lq)] := hl
  have hown : s.vm.findClass RJx4a65c = some m.cls := hown
  have hin_wsJx4a65c0 : ∀ w ∈ wsJx4a65c0, w ∈ wsJx4a65c_grow_d5877 := fun _ h => List.mem_cons_of_mem _ (List.mem_append_right _ h)
  have fl_48 := hts (.fieldLink RJx4a65c 48 "java/util/ArrayList" "size" "I") (List.mem_of_getElem? (i := 1) rfl)
  refine lv_aload_n hx hb dJx4a65c_grow_d5877_0 rfl (lv_at hl 0 rfl) ?_
  refine lv_aload_n hx hb dJx4a65c_grow_d5877_1 rfl (lv_at hl 0 rfl) ?_
  refine va_get (D := G.1) (C := RJx4a65c) (T := TJx4a65c) (N := 3) (ci := 0) hx hb hts hin_wsJx4a65c0 hown hC.1 (hM.one hL) 0 rfl rfl 2 (by decide) fl_48 (fun _ z => z) rfl dJx4a65c_grow_d5877_2 ?_
  refine lv_iconst (v := (1 : Int32)) hx hb dJx4a65c_grow_d5877_5 (by decide) ?_
  refine lv_iadd hx hb dJx4a65c_grow_d5877_6 ?_
  refine mp_top (nI (0 + 1)) (nI_add 0 1) ?_
  refine mp_top (nI 1) rfl ?_
  refine mp_call (va_runV (As := [.int (nI 1)]) (rest := []) ⟨hx, hb, hml, hown, hts⟩ (c_Jx4a65c_grow_92f84_a l X G A M lq mo kl kd hL hk hkk) (cwV 1 hts gJx4a65c_grow_d5877_Jx4a65c_grow_92f84 rfl rfl rfl (by decide +kernel) ⟨Nat.le_of_ble_eq_true rfl, Nat.le_of_ble_eq_true rfl⟩) (mp_preV hC hS hM (mp_recv hC.1 hM hL (r := (RJx4a65c, TJx4a65c, 3)) rfl)) rfl rfl hl.1 rfl (lv_room (Nat.le_of_ble_eq_true rfl)) dJx4a65c_grow_d5877_7 ⟨Nat.le_of_ble_eq_true rfl, Nat.le_of_ble_eq_true rfl⟩) hS (fun v M1 H locs hp hM hS => ?_)
  obtain ⟨q, rfl, rfl⟩ := hp
  exact mp_aret hx hb hr hlocks (Nat.le_of_ble_eq_true rfl) (Nat.le_of_ble_eq_true rfl) hM hS dJx4a65c_grow_d5877_10 (by first | exact Or.inl ⟨_, rfl⟩ | exact Or.inr ⟨_, rfl⟩) (by first | exact Or.inl rfl | exact Or.inr ⟨_, rfl⟩) (⟨q, rfl, rfl⟩)
set_option maxHeartbeats 4000000 in
set_option maxRecDepth 100000 in
theorem c_Jx4a65c_add_72be8_a (l : Launch) (X : mp_X) (G : mp_G) (A : Nat → Prop) (M : mp_M) (lq : Nat) (mo : Int32) (kl kd : mp_N) (hL : M kl = some (lq, .inr (0, [.int mo, .ref X.1, .int (nI 0)]))) (hk : M kd = none) (hkk : kd ≠ kl) (ci : Nat) (rr : vw_C) (hc : vwCl[ci]? = some rr) (hca : Cond.castable rr.1 "java/lang/Object" ∈ mp_nw) (ke : mp_N) (eq : Nat) (fe : List Value) (he : M ke = some (eq, .inr (ci, fe))) (hci : ci ≠ 0)  : mp_Met l X G A yJx4a65c_add_72be8 wsJx4a65c_add_72be8 rmJx4a65c_add_72be8 ([.ref lq, .ref eq, .ref X.1, .int (nI 0)] : List Value) M (fun r M1 => r = none ∧ ∃ (dq1 cap1 : Nat) (g1 : Nat → Option Nat), M1 = mp_set (mp_set M kd (dq1, .inl (G.2.2.2.2, cap1, .inr (.inr (.inr (.inr g1)))))) kl (lq, .inr (0, [.int mo, .ref dq1, .int (nI (0 + 1))])) ∧ LG (fun _ => none) g1 0 eq cap1) 1 150 := by
  refine mp_ofW (cc := cJx4a65c_add_72be8) (maxL := 4) (ret := none) (by decide) rfl (Nat.le_of_ble_eq_true rfl) ?_
  intro p e s m below meth c ls hx hb hr hts hown hlocks hnm hml hC hM hS hl
  have hl : lv_has ls 4 [(0, .ref lq), (1, .ref eq), (2, .ref X.1), (3, .int (nI 0))] := hl
  have hown : s.vm.findClass RJx4a65c = some m.cls := hown
  have hin_wsJx4a65c0 : ∀ w ∈ wsJx4a65c0, w ∈ wsJx4a65c_add_72be8 := fun _ h => List.mem_cons_of_mem _ (List.mem_append_right _ h)
  have fl_48 := hts (.fieldLink RJx4a65c 48 "java/util/ArrayList" "size" "I") (List.mem_of_getElem? (i := 1) rfl)
  have hel1 : ke ≠ kl := cl_ne he hL hci
  have hel2 : ke ≠ kd := cl_neN he hk
  refine lv_iload_n hx hb dJx4a65c_add_72be8_0 rfl (lv_at hl 3 rfl) ?_
  refine lv_aload_n hx hb dJx4a65c_add_72be8_1 rfl (lv_at hl 2 rfl) ?_
  refine va_tlen hx hb hC.2.2.1.2.1 hS (v := nI 0) rfl dJx4a65c_add_72be8_2 ?_
  refine lv_icmp_ne (tgt := 11) hx hb dJx4a65c_add_72be8_3 (by decide) (fun c_1 => ?_) (fun c_1 => ?_)
  · have c_1 := nn_neq (a := 0) (b := 0) (by omega) (by omega) c_1
    exact absurd c_1 (by omega)
  · have c_1 := nn_eq (a := 0) (b := 0) (by omega) (by omega) c_1
    refine lv_aload_n hx hb dJx4a65c_add_72be8_6 rfl (lv_at hl 0 rfl) ?_
    refine mp_call (va_runV (As := []) (rest := []) ⟨hx, hb, hml, hown, hts⟩ (c_Jx4a65c_grow_d5877_a l X G A M lq mo kl kd hL hk hkk) (cwV 0 hts gJx4a65c_add_72be8_Jx4a65c_grow_d5877 rfl rfl rfl (by decide +kernel) ⟨Nat.le_of_ble_eq_true rfl, Nat.le_of_ble_eq_true rfl⟩) (mp_preV hC hS hM (mp_recv hC.1 hM hL (r := (RJx4a65c, TJx4a65c, 3)) rfl)) rfl rfl hl.1 rfl (lv_room (Nat.le_of_ble_eq_true rfl)) dJx4a65c_add_72be8_7 ⟨Nat.le_of_ble_eq_true rfl, Nat.le_of_ble_eq_true rfl⟩) hS (fun v M1 H locs hp hM hS => ?_)
    obtain ⟨q, rfl, rfl⟩ := hp
    refine lv_astore_n (lv' := [(2, .ref q), (0, .ref lq), (1, .ref eq), (3, .int (nI 0))]) hx hb dJx4a65c_add_72be8_10 rfl hl (by decide) rfl (fun ls hl => ?_)
    refine lv_aload_n hx hb dJx4a65c_add_72be8_11 rfl (lv_at hl 0 rfl) ?_
    refine lv_iload_n hx hb dJx4a65c_add_72be8_12 rfl (lv_at hl 3 rfl) ?_
    refine lv_aload_n hx hb dJx4a65c_add_72be8_13 rfl (lv_at hl 2 rfl) ?_
    refine mp_astq hx hb hC hM hS ((mp_set_n _ _ _ hkk).trans (mp_set_s _ _ _)) ((mp_set_n _ _ _ hel1).trans ((mp_set_n _ _ _ hel2).trans he)) hc hca (j := 0) (by omega) (by omega) dJx4a65c_add_72be8_14 (fun H locs hM hS => ?_)
    have hM : mp_P G.1 A (mp_set (mp_set (mp_set M kd (q, .inl (G.2.2.2.2, 10, .inr (.inr (.inr (.inr (fun _ => none))))))) kl (lq, .inr (0, [.int mo, .ref q, .int (nI 0)]))) kd (q, .inl (G.2.2.2.2, 10, .inr (.inr (.inr (.inr (va_up (fun _ => none) 0 (some eq)))))))) H := hM
    refine lv_aload_n hx hb dJx4a65c_add_72be8_15 rfl (lv_at hl 1 rfl) ?_
    refine lv_iload_n hx hb dJx4a65c_add_72be8_16 rfl (lv_at hl 3 rfl) ?_
    refine lv_iconst (v := (1 : Int32)) hx hb dJx4a65c_add_72be8_17 (by decide) ?_
    refine lv_iadd hx hb dJx4a65c_add_72be8_18 ?_
    refine mp_top (nI (0 + 1)) (nI_add 0 1) ?_
    refine mp_put (D := G.1) (C := RJx4a65c) (T := TJx4a65c) (N := 3) (ci := 0) hx hb hts hin_wsJx4a65c0 tyJx4a65c tyJx4a65c_ok nmJx4a65c hown hC.1 hM hS ((mp_set_n _ _ _ (by first | assumption | exact Ne.symm (by assumption) | simp)).trans (mp_set_s _ _ _)) rfl 2 (by decide) fl_48 (fun _ z => z) rfl rfl rfl (Nat.le_of_ble_eq_true rfl) dJx4a65c_add_72be8_19 (fs' := [.int mo, .ref q, .int (nI (0 + 1))]) rfl (fun H locs hM hS => ?_)
    have hM : mp_P G.1 A (mp_set (mp_set (mp_set (mp_set M kd (q, .inl (G.2.2.2.2, 10, .inr (.inr (.inr (.inr (fun _ => none))))))) kl (lq, .inr (0, [.int mo, .ref q, .int (nI 0)]))) kd (q, .inl (G.2.2.2.2, 10, .inr (.inr (.inr (.inr (va_up (fun _ => none) 0 (some eq)))))))) kl (lq, .inr (0, [.int mo, .ref q, .int (nI (0 + 1))]))) H := hM
    exact mp_vret hx hb hr hlocks (Nat.le_of_ble_eq_true rfl) (Nat.le_of_ble_eq_true rfl) hM hS dJx4a65c_add_72be8_22 (⟨rfl, _, _, _, by rw [mp_set_comm _ _ _ (Ne.symm hkk), mp_set_set, mp_set_set], by omega, by omega, by omega, by simp [va_up], fun i hi => absurd hi (Nat.not_lt_zero _)⟩)
set_option maxHeartbeats 4000000 in
set_option maxRecDepth 100000 in
theorem c_Jx4a65c_add_72be8_c (l : Launch) (X : mp_X) (G : mp_G) (A : Nat → Prop) (M : mp_M) (dq cap : Nat) (g : Nat → Option Nat) (kd : mp_N) (hD : M kd = some (dq, .inl (G.2.2.2.2, cap, .inr (.inr (.inr (.inr g)))))) (lq sz : Nat) (mo : Int32) (kl : mp_N) (hL : M kl = some (lq, .inr (0, [.int mo, .ref dq, .int (nI sz)]))) (ci : Nat) (rr : vw_C) (hc : vwCl[ci]? = some rr) (hca : Cond.castable rr.1 "java/lang/Object" ∈ mp_nw)  (hcap : 10 ≤ cap) (hcap2 : cap ≤ 150) (hsz : sz < cap) (hkk : kd ≠ kl)(ke : mp_N) (eq : Nat) (fe : List Value) (he : M ke = some (eq, .inr (ci, fe))) (hci : ci ≠ 0)  : mp_Met l X G A yJx4a65c_add_72be8 wsJx4a65c_add_72be8 rmJx4a65c_add_72be8 ([.ref lq, .ref eq, .ref dq, .int (nI sz)] : List Value) M (fun r M1 => r = none ∧ ∃ (dq1 cap1 : Nat) (g1 : Nat → Option Nat), M1 = mp_set (mp_set M kd (dq1, .inl (G.2.2.2.2, cap1, .inr (.inr (.inr (.inr g1)))))) kl (lq, .inr (0, [.int mo, .ref dq1, .int (nI (sz + 1))])) ∧ LG g g1 sz eq cap1) 1 150 := by
  refine mp_ofW (cc := cJx4a65c_add_72be8) (maxL := 4) (ret := none) (by decide) rfl (Nat.le_of_ble_eq_true rfl) ?_
  intro p e s m below meth c ls hx hb hr hts hown hlocks hnm hml hC hM hS hl
  have hl : lv_has ls 4 [(0, .ref lq), (1, .ref eq), (2, .ref dq), (3, .int (nI sz))] := hl
  have hown : s.vm.findClass RJx4a65c = some m.cls := hown
  have hin_wsJx4a65c0 : ∀ w ∈ wsJx4a65c0, w ∈ wsJx4a65c_add_72be8 := fun _ h => List.mem_cons_of_mem _ (List.mem_append_right _ h)
  have fl_48 := hts (.fieldLink RJx4a65c 48 "java/util/ArrayList" "size" "I") (List.mem_of_getElem? (i := 1) rfl)
  have hel1 : ke ≠ kl := cl_ne he hL hci
  have hel2 : ke ≠ kd := cl_neA he hD
  refine lv_iload_n hx hb dJx4a65c_add_72be8_0 rfl (lv_at hl 3 rfl) ?_
  refine lv_aload_n hx hb dJx4a65c_add_72be8_1 rfl (lv_at hl 2 rfl) ?_
  refine va_alen hx hb hC.1 (hM.one hD) 0 3 rfl rfl (v := nI cap) rfl dJx4a65c_add_72be8_2 ?_
  refine lv_icmp_ne (tgt := 11) hx hb dJx4a65c_add_72be8_3 (by decide) (fun c_1 => ?_) (fun c_1 => ?_)
  · have c_1 := nn_neq (a := sz) (b := cap) (by omega) (by omega) c_1
    refine lv_aload_n hx hb dJx4a65c_add_72be8_11 rfl (lv_at hl 2 rfl) ?_
    refine lv_iload_n hx hb dJx4a65c_add_72be8_12 rfl (lv_at hl 3 rfl) ?_
    refine lv_aload_n hx hb dJx4a65c_add_72be8_13 rfl (lv_at hl 1 rfl) ?_
    refine mp_astq hx hb hC hM hS hD he hc hca (j := sz) (by omega) (by omega) dJx4a65c_add_72be8_14 (fun H locs hM hS => ?_)
    have hM : mp_P G.1 A (mp_set M kd (dq, .inl (G.2.2.2.2, cap, .inr (.inr (.inr (.inr (va_up g sz (some eq)))))))) H := hM
    refine lv_aload_n hx hb dJx4a65c_add_72be8_15 rfl (lv_at hl 0 rfl) ?_
    refine lv_iload_n hx hb dJx4a65c_add_72be8_16 rfl (lv_at hl 3 rfl) ?_
    refine lv_iconst (v := (1 : Int32)) hx hb dJx4a65c_add_72be8_17 (by decide) ?_
    refine lv_iadd hx hb dJx4a65c_add_72be8_18 ?_
    refine mp_top (nI (sz + 1)) (nI_add sz 1) ?_
    refine mp_put (D := G.1) (C := RJx4a65c) (T := TJx4a65c) (N := 3) (ci := 0) hx hb hts hin_wsJx4a65c0 tyJx4a65c tyJx4a65c_ok nmJx4a65c hown hC.1 hM hS ((mp_set_n _ _ _ (by first | assumption | exact Ne.symm (by assumption) | simp)).trans hL) rfl 2 (by decide) fl_48 (fun _ z => z) rfl rfl rfl (Nat.le_of_ble_eq_true rfl) dJx4a65c_add_72be8_19 (fs' := [.int mo, .ref dq, .int (nI (sz + 1))]) rfl (fun H locs hM hS => ?_)
    have hM : mp_P G.1 A (mp_set (mp_set M kd (dq, .inl (G.2.2.2.2, cap, .inr (.inr (.inr (.inr (va_up g sz (some eq)))))))) kl (lq, .inr (0, [.int mo, .ref dq, .int (nI (sz + 1))]))) H := hM
    exact mp_vret hx hb hr hlocks (Nat.le_of_ble_eq_true rfl) (Nat.le_of_ble_eq_true rfl) hM hS dJx4a65c_add_72be8_22 (⟨rfl, _, _, _, rfl, by omega, by omega, by omega, by simp [va_up], fun i hi => by simp only [va_up]; rw [if_neg (by omega)]⟩)
  · have c_1 := nn_eq (a := sz) (b := cap) (by omega) (by omega) c_1
    exact absurd c_1 (by omega)
set_option maxHeartbeats 4000000 in
set_option maxRecDepth 100000 in
theorem c_Jx4a65c_add_9ea2d_a (l : Launch) (X : mp_X) (G : mp_G) (A : Nat → Prop) (M : mp_M) (lq : Nat) (mo : Int32) (kl kd : mp_N) (hL : M kl = some (lq, .inr (0, [.int mo, .ref X.1, .int (nI 0)]))) (hk : M kd = none) (hkk : kd ≠ kl) (ci : Nat) (rr : vw_C) (hc : vwCl[ci]? = some rr) (hca : Cond.castable rr.1 "java/lang/Object" ∈ mp_nw) (ke : mp_N) (eq : Nat) (fe : List Value) (he : M ke = some (eq, .inr (ci, fe))) (hci : ci ≠ 0)  : mp_Met l X G A yJx4a65c_add_9ea2d wsJx4a65c_add_9ea2d rmJx4a65c_add_9ea2d ([.ref lq, .ref eq] : List Value) M (fun r M1 => r = some (.int 1) ∧ ∃ (dq1 cap1 : Nat) (g1 : Nat → Option Nat), M1 = mp_set (mp_set M kd (dq1, .inl (G.2.2.2.2, cap1, .inr (.inr (.inr (.inr g1)))))) kl (lq, .inr (0, [.int (mo + 1), .ref dq1, .int (nI (0 + 1))])) ∧ LG (fun _ => none) g1 0 eq cap1) 1 150 := by
  refine mp_ofW (cc := cJx4a65c_add_9ea2d) (maxL := 2) (ret := (some .boolean)) (by decide) rfl (Nat.le_of_ble_eq_true rfl) ?_
  intro p e s m below meth c ls hx hb hr hts hown hlocks hnm hml hC hM hS hl
  have hl : lv_has ls 2 [(0, .ref lq), (1, .ref eq)] := hl
  have hown : s.vm.findClass RJx4a65c = some m.cls := hown
  have hin_wsJx4a65c0 : ∀ w ∈ wsJx4a65c0, w ∈ wsJx4a65c_add_9ea2d := fun _ h => List.mem_cons_of_mem _ (List.mem_append_right _ h)
  have fl_63 := hts (.fieldLink RJx4a65c 63 "java/util/ArrayList" "modCount" "I") (List.mem_of_getElem? (i := 1) rfl)
  have sf_63 := hts (.sameField "java/util/ArrayList" "java/util/AbstractList" "modCount" "I") (List.mem_of_getElem? (i := 2) rfl)
  have fl_9 := hts (.fieldLink RJx4a65c 9 "java/util/ArrayList" "elementData" "[Ljava/lang/Object;") (List.mem_of_getElem? (i := 3) rfl)
  have fl_48 := hts (.fieldLink RJx4a65c 48 "java/util/ArrayList" "size" "I") (List.mem_of_getElem? (i := 4) rfl)
  have hel1 : ke ≠ kl := cl_ne he hL hci
  refine lv_aload_n hx hb dJx4a65c_add_9ea2d_0 rfl (lv_at hl 0 rfl) ?_
  refine lv_dup hx hb dJx4a65c_add_9ea2d_1 rfl ?_
  refine va_get (D := G.1) (C := RJx4a65c) (T := TJx4a65c) (N := 3) (ci := 0) hx hb hts hin_wsJx4a65c0 hown hC.1 (hM.one hL) 0 rfl rfl 0 (by decide) fl_63 (u_same sf_63) rfl dJx4a65c_add_9ea2d_2 ?_
  refine lv_iconst (v := (1 : Int32)) hx hb dJx4a65c_add_9ea2d_5 (by decide) ?_
  refine lv_iadd hx hb dJx4a65c_add_9ea2d_6 ?_
  refine mp_put (D := G.1) (C := RJx4a65c) (T := TJx4a65c) (N := 3) (ci := 0) hx hb hts hin_wsJx4a65c0 tyJx4a65c tyJx4a65c_ok nmJx4a65c hown hC.1 hM hS hL rfl 0 (by decide) fl_63 (u_same sf_63) rfl rfl rfl (Nat.le_of_ble_eq_true rfl) dJx4a65c_add_9ea2d_7 (fs' := [.int (mo + (1 : Int32)), .ref X.1, .int (nI 0)]) rfl (fun H locs hM hS => ?_)
  have hM : mp_P G.1 A (mp_set M kl (lq, .inr (0, [.int (mo + (1 : Int32)), .ref X.1, .int (nI 0)]))) H := hM
  refine lv_aload_n hx hb dJx4a65c_add_9ea2d_10 rfl (lv_at hl 0 rfl) ?_
  refine lv_aload_n hx hb dJx4a65c_add_9ea2d_11 rfl (lv_at hl 1 rfl) ?_
  refine lv_aload_n hx hb dJx4a65c_add_9ea2d_12 rfl (lv_at hl 0 rfl) ?_
  refine va_get (D := G.1) (C := RJx4a65c) (T := TJx4a65c) (N := 3) (ci := 0) hx hb hts hin_wsJx4a65c0 hown hC.1 (hM.one (mp_set_s _ _ _)) 0 rfl rfl 1 (by decide) fl_9 (fun _ z => z) rfl dJx4a65c_add_9ea2d_13 ?_
  refine lv_aload_n hx hb dJx4a65c_add_9ea2d_16 rfl (lv_at hl 0 rfl) ?_
  refine va_get (D := G.1) (C := RJx4a65c) (T := TJx4a65c) (N := 3) (ci := 0) hx hb hts hin_wsJx4a65c0 hown hC.1 (hM.one (mp_set_s _ _ _)) 0 rfl rfl 2 (by decide) fl_48 (fun _ z => z) rfl dJx4a65c_add_9ea2d_17 ?_
  refine mp_call (va_runV (As := [.ref eq, .ref X.1, .int (nI 0)]) (rest := []) ⟨hx, hb, hml, hown, hts⟩ (c_Jx4a65c_add_72be8_a l X G A (mp_set M kl (lq, .inr (0, [.int (mo + 1), .ref X.1, .int (nI 0)]))) lq (mo + 1) kl kd (mp_set_s _ _ _) ((mp_set_n _ _ _ hkk).trans hk) hkk ci rr hc hca ke eq fe ((mp_set_n _ _ _ hel1).trans he) hci) (cwV 3 hts gJx4a65c_add_9ea2d_Jx4a65c_add_72be8 rfl rfl rfl (by decide +kernel) ⟨Nat.le_of_ble_eq_true rfl, Nat.le_of_ble_eq_true rfl⟩) (mp_preV hC hS hM (mp_recv hC.1 hM (mp_set_s _ _ _) (r := (RJx4a65c, TJx4a65c, 3)) rfl)) rfl rfl hl.1 rfl (lv_room (Nat.le_of_ble_eq_true rfl)) dJx4a65c_add_9ea2d_20 ⟨Nat.le_of_ble_eq_true rfl, Nat.le_of_ble_eq_true rfl⟩) hS (fun v M1 H locs hp hM hS => ?_)
  obtain ⟨rfl, dq1, cap1, g1, rfl, hg⟩ := hp
  refine lv_iconst (v := (1 : Int32)) hx hb dJx4a65c_add_9ea2d_23 (by decide) ?_
  exact mp_zret hx hb hr hlocks (Nat.le_of_ble_eq_true rfl) (Nat.le_of_ble_eq_true rfl) hM hS dJx4a65c_add_9ea2d_24 (by first | rfl | exact bI_nar _) (⟨rfl, dq1, cap1, g1, by rw [mp_set_comm _ _ _ (Ne.symm hkk), mp_set_set], hg⟩)
set_option maxHeartbeats 4000000 in
set_option maxRecDepth 100000 in
theorem c_Jx4a65c_add_9ea2d_c (l : Launch) (X : mp_X) (G : mp_G) (A : Nat → Prop) (M : mp_M) (dq cap : Nat) (g : Nat → Option Nat) (kd : mp_N) (hD : M kd = some (dq, .inl (G.2.2.2.2, cap, .inr (.inr (.inr (.inr g)))))) (lq sz : Nat) (mo : Int32) (kl : mp_N) (hL : M kl = some (lq, .inr (0, [.int mo, .ref dq, .int (nI sz)]))) (ci : Nat) (rr : vw_C) (hc : vwCl[ci]? = some rr) (hca : Cond.castable rr.1 "java/lang/Object" ∈ mp_nw)  (hcap : 10 ≤ cap) (hcap2 : cap ≤ 150) (hsz : sz < cap) (hkk : kd ≠ kl)(ke : mp_N) (eq : Nat) (fe : List Value) (he : M ke = some (eq, .inr (ci, fe))) (hci : ci ≠ 0)  : mp_Met l X G A yJx4a65c_add_9ea2d wsJx4a65c_add_9ea2d rmJx4a65c_add_9ea2d ([.ref lq, .ref eq] : List Value) M (fun r M1 => r = some (.int 1) ∧ ∃ (dq1 cap1 : Nat) (g1 : Nat → Option Nat), M1 = mp_set (mp_set M kd (dq1, .inl (G.2.2.2.2, cap1, .inr (.inr (.inr (.inr g1)))))) kl (lq, .inr (0, [.int (mo + 1), .ref dq1, .int (nI (sz + 1))])) ∧ LG g g1 sz eq cap1) 1 150 := by
  refine mp_ofW (cc := cJx4a65c_add_9ea2d) (maxL := 2) (ret := (some .boolean)) (by decide) rfl (Nat.le_of_ble_eq_true rfl) ?_
  intro p e s m below meth c ls hx hb hr hts hown hlocks hnm hml hC hM hS hl
  have hl : lv_has ls 2 [(0, .ref lq), (1, .ref eq)] := hl
  have hown : s.vm.findClass RJx4a65c = some m.cls := hown
  have hin_wsJx4a65c0 : ∀ w ∈ wsJx4a65c0, w ∈ wsJx4a65c_add_9ea2d := fun _ h => List.mem_cons_of_mem _ (List.mem_append_right _ h)
  have fl_63 := hts (.fieldLink RJx4a65c 63 "java/util/ArrayList" "modCount" "I") (List.mem_of_getElem? (i := 1) rfl)
  have sf_63 := hts (.sameField "java/util/ArrayList" "java/util/AbstractList" "modCount" "I") (List.mem_of_getElem? (i := 2) rfl)
  have fl_9 := hts (.fieldLink RJx4a65c 9 "java/util/ArrayList" "elementData" "[Ljava/lang/Object;") (List.mem_of_getElem? (i := 3) rfl)
  have fl_48 := hts (.fieldLink RJx4a65c 48 "java/util/ArrayList" "size" "I") (List.mem_of_getElem? (i := 4) rfl)
  have hel1 : ke ≠ kl := cl_ne he hL hci
  refine lv_aload_n hx hb dJx4a65c_add_9ea2d_0 rfl (lv_at hl 0 rfl) ?_
  refine lv_dup hx hb dJx4a65c_add_9ea2d_1 rfl ?_
  refine va_get (D := G.1) (C := RJx4a65c) (T := TJx4a65c) (N := 3) (ci := 0) hx hb hts hin_wsJx4a65c0 hown hC.1 (hM.one hL) 0 rfl rfl 0 (by decide) fl_63 (u_same sf_63) rfl dJx4a65c_add_9ea2d_2 ?_
  refine lv_iconst (v := (1 : Int32)) hx hb dJx4a65c_add_9ea2d_5 (by decide) ?_
  refine lv_iadd hx hb dJx4a65c_add_9ea2d_6 ?_
  refine mp_put (D := G.1) (C := RJx4a65c) (T := TJx4a65c) (N := 3) (ci := 0) hx hb hts hin_wsJx4a65c0 tyJx4a65c tyJx4a65c_ok nmJx4a65c hown hC.1 hM hS hL rfl 0 (by decide) fl_63 (u_same sf_63) rfl rfl rfl (Nat.le_of_ble_eq_true rfl) dJx4a65c_add_9ea2d_7 (fs' := [.int (mo + (1 : Int32)), .ref dq, .int (nI sz)]) rfl (fun H locs hM hS => ?_)
  have hM : mp_P G.1 A (mp_set M kl (lq, .inr (0, [.int (mo + (1 : Int32)), .ref dq, .int (nI sz)]))) H := hM
  refine lv_aload_n hx hb dJx4a65c_add_9ea2d_10 rfl (lv_at hl 0 rfl) ?_
  refine lv_aload_n hx hb dJx4a65c_add_9ea2d_11 rfl (lv_at hl 1 rfl) ?_
  refine lv_aload_n hx hb dJx4a65c_add_9ea2d_12 rfl (lv_at hl 0 rfl) ?_
  refine va_get (D := G.1) (C := RJx4a65c) (T := TJx4a65c) (N := 3) (ci := 0) hx hb hts hin_wsJx4a65c0 hown hC.1 (hM.one (mp_set_s _ _ _)) 0 rfl rfl 1 (by decide) fl_9 (fun _ z => z) rfl dJx4a65c_add_9ea2d_13 ?_
  refine lv_aload_n hx hb dJx4a65c_add_9ea2d_16 rfl (lv_at hl 0 rfl) ?_
  refine va_get (D := G.1) (C := RJx4a65c) (T := TJx4a65c) (N := 3) (ci := 0) hx hb hts hin_wsJx4a65c0 hown hC.1 (hM.one (mp_set_s _ _ _)) 0 rfl rfl 2 (by decide) fl_48 (fun _ z => z) rfl dJx4a65c_add_9ea2d_17 ?_
  refine mp_call (va_runV (As := [.ref eq, .ref dq, .int (nI sz)]) (rest := []) ⟨hx, hb, hml, hown, hts⟩ (c_Jx4a65c_add_72be8_c l X G A (mp_set M kl (lq, .inr (0, [.int (mo + 1), .ref dq, .int (nI sz)]))) dq cap g kd ((mp_set_n _ _ _ hkk).trans hD) lq sz (mo + 1) kl (mp_set_s _ _ _) ci rr hc hca hcap hcap2 hsz hkk ke eq fe ((mp_set_n _ _ _ hel1).trans he) hci) (cwV 3 hts gJx4a65c_add_9ea2d_Jx4a65c_add_72be8 rfl rfl rfl (by decide +kernel) ⟨Nat.le_of_ble_eq_true rfl, Nat.le_of_ble_eq_true rfl⟩) (mp_preV hC hS hM (mp_recv hC.1 hM (mp_set_s _ _ _) (r := (RJx4a65c, TJx4a65c, 3)) rfl)) rfl rfl hl.1 rfl (lv_room (Nat.le_of_ble_eq_true rfl)) dJx4a65c_add_9ea2d_20 ⟨Nat.le_of_ble_eq_true rfl, Nat.le_of_ble_eq_true rfl⟩) hS (fun v M1 H locs hp hM hS => ?_)
  obtain ⟨rfl, dq1, cap1, g1, rfl, hg⟩ := hp
  refine lv_iconst (v := (1 : Int32)) hx hb dJx4a65c_add_9ea2d_23 (by decide) ?_
  exact mp_zret hx hb hr hlocks (Nat.le_of_ble_eq_true rfl) (Nat.le_of_ble_eq_true rfl) hM hS dJx4a65c_add_9ea2d_24 (by first | rfl | exact bI_nar _) (⟨rfl, dq1, cap1, g1, by rw [mp_set_comm _ _ _ (Ne.symm hkk), mp_set_set], hg⟩)
