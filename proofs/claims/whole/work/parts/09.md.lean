/-! ===== the reference's object: numbers n by slot, rows f by slot, the rows at the addresses ad ===== -/
def md_arr (k : Nat) : Option (Nat × Nat) := match k with
  | 6 => some (1, 13) | 7 => some (1, 104) | 8 => some (1, 104) | 9 => some (0, 600) | 10 => some (0, 600)
  | 15 => some (1, 20) | 16 => some (1, 20) | 17 => some (1, 21) | 18 => some (1, 168) | 19 => some (1, 168) | 20 => some (1, 672)
  | 23 => some (1, 40) | 24 => some (1, 40) | 25 => some (1, 40) | 26 => some (1, 40) | 27 => some (1, 40) | 28 => some (1, 40) | 29 => some (1, 40) | 30 => some (1, 40)
  | 31 => some (1, 40) | 32 => some (1, 40) | 33 => some (1, 40) | 34 => some (1, 40) | 35 => some (1, 40) | 36 => some (1, 40) | 37 => some (1, 40) | 38 => some (1, 40)
  | 39 => some (2, 40) | 40 => some (2, 480) | 41 => some (1, 100) | 42 => some (1, 100) | 43 => some (1, 100) | 44 => some (1, 100) | _ => none
def md_cls (G : mp_G) (t : Nat) : ClassId := match t with
  | 0 => G.2.1 | 1 => G.2.2.1 | 2 => G.2.2.2.1 | _ => G.2.2.2.2
def md_fs (ad : Nat → Nat) (n : Nat → Int32) : List Value := (List.range 45).map (fun k => if (md_arr k).isSome then .ref (ad k) else .int (n k))
def md_M (G : mp_G) (B : mp_M) (h : Nat) (ad : Nat → Nat) (n : Nat → Int32) (f : Nat → Nat → Int32) : mp_M := fun q =>
  if q = (9, 0, 0) then some (h, .inr (9, md_fs ad n)) else if q.1 = 9 ∧ q.2.1 = 1 then (match md_arr q.2.2 with | some x => some (ad q.2.2, .inl (md_cls G x.1, x.2, .inl (f q.2.2))) | none => B q) else B q
theorem md_len (ad : Nat → Nat) (n : Nat → Int32) : (md_fs ad n).length = 45 := by simp [md_fs]
theorem md_at (ad : Nat → Nat) (n : Nat → Int32) {k : Nat} (hk : k < 45) : (md_fs ad n)[k]? = some (if (md_arr k).isSome then .ref (ad k) else .int (n k)) := by
  simp [md_fs, List.getElem?_range hk]
theorem md_int (ad : Nat → Nat) (n : Nat → Int32) {k : Nat} (hk : k < 45) (h : md_arr k = none) : (md_fs ad n)[k]? = some (.int (n k)) := by
  rw [md_at ad n hk, h]; rfl
theorem md_ref (ad : Nat → Nat) (n : Nat → Int32) {k : Nat} {x : Nat × Nat} (hk : k < 45) (h : md_arr k = some x) : (md_fs ad n)[k]? = some (.ref (ad k)) := by
  rw [md_at ad n hk, h]; rfl
theorem md_set (ad : Nat → Nat) (n : Nat → Int32) {k : Nat} (hk : k < 45) (h : md_arr k = none) (v : Int32) : (md_fs ad n).set k (.int v) = md_fs ad (upd n k v) := by
  apply List.ext_getElem?
  intro i
  by_cases hi : i < 45
  · by_cases hik : i = k
    · subst hik
      rw [List.getElem?_set_self (by rw [md_len]; exact hi), md_int ad _ hi h]
      simp [upd]
    · rw [List.getElem?_set_ne (Ne.symm hik), md_at ad n hi, md_at ad _ hi]
      simp [upd, hik]
  · rw [List.getElem?_eq_none (by rw [List.length_set, md_len]; omega), List.getElem?_eq_none (by rw [md_len]; omega)]
theorem md_obj (G : mp_G) (B : mp_M) (h : Nat) (ad : Nat → Nat) (n : Nat → Int32) (f : Nat → Nat → Int32) : md_M G B h ad n f (9, 0, 0) = some (h, .inr (9, md_fs ad n)) := if_pos rfl
theorem md_row (G : mp_G) (B : mp_M) (h : Nat) (ad : Nat → Nat) (n : Nat → Int32) (f : Nat → Nat → Int32) {k t len : Nat} (hk : md_arr k = some (t, len)) : md_M G B h ad n f (9, 1, k) = some (ad k, .inl (md_cls G t, len, .inl (f k))) := by
  have h1 : ¬ ((9, 1, k) : mp_N) = (9, 0, 0) := fun q => by simp at q
  simp only [md_M, if_neg h1, hk, and_self, if_true]
theorem md_obj_set (G : mp_G) (B : mp_M) (h : Nat) (ad : Nat → Nat) (n n' : Nat → Int32) (f : Nat → Nat → Int32) : mp_set (md_M G B h ad n f) (9, 0, 0) (h, .inr (9, md_fs ad n')) = md_M G B h ad n' f := by
  funext q
  by_cases hq : q = (9, 0, 0)
  · subst hq
    rw [mp_set_s, md_obj]
  · rw [mp_set_n _ _ _ hq]
    simp only [md_M, if_neg hq]
theorem md_row_set (G : mp_G) (B : mp_M) (h : Nat) (ad : Nat → Nat) (n : Nat → Int32) (f : Nat → Nat → Int32) {k t len : Nat} (hk : md_arr k = some (t, len)) (g : Nat → Int32) : mp_set (md_M G B h ad n f) (9, 1, k) (ad k, .inl (md_cls G t, len, .inl g)) = md_M G B h ad n (va_up f k g) := by
  funext q
  by_cases hq : q = (9, 1, k)
  · subst hq
    rw [mp_set_s, md_row G B h ad n _ hk, va_up_self]
  · rw [mp_set_n _ _ _ hq]
    obtain ⟨q1, q2, q3⟩ := q
    by_cases h1 : q1 = 9 ∧ q2 = 1
    · obtain ⟨rfl, rfl⟩ := h1
      have h3 : q3 ≠ k := fun z => hq (by rw [z])
      simp only [md_M, va_up_ne _ _ h3]
    · simp only [md_M, if_neg h1]
theorem mp_top {p : Program} {l : Launch} {e : Env} {R : Room} {s : State} {m : MethodId} {args : Array Value} {below : List Frame} {meth : Method} {c : Code} {H : Heap} {locs : List Loc} {cells slots : Nat} {Q : State → Prop} {pc : Nat} {ls : Array Slot} {rest : List Value} {x : Int32} (y : Int32) (h : x = y) (k : W p l e R s m args below meth c H locs cells slots Q (F0 m pc ls (.int y :: rest))) : W p l e R s m args below meth c H locs cells slots Q (F0 m pc ls (.int x :: rest)) := by rw [h]; exact k
theorem mp_topl {p : Program} {l : Launch} {e : Env} {R : Room} {s : State} {m : MethodId} {args : Array Value} {below : List Frame} {meth : Method} {c : Code} {H : Heap} {locs : List Loc} {cells slots : Nat} {Q : State → Prop} {pc : Nat} {ls : Array Slot} {rest : List Value} {x : Int64} (y : Int64) (h : x = y) (k : W p l e R s m args below meth c H locs cells slots Q (F0 m pc ls (.long y :: rest))) : W p l e R s m args below meth c H locs cells slots Q (F0 m pc ls (.long x :: rest)) := by rw [h]; exact k
section MDR
variable {p : Program} {l : Launch} {e : Env} {R : Room} {s : State} {m : MethodId} {args : Array Value} {below : List Frame} {meth : Method} {c : Code} {H : Heap} {locs : List Loc} {cells slots : Nat} {Q : State → Prop}
variable {cc : ByteArray} {pc : Nat} {ls : Array Slot} {rest : List Value} {X : mp_X} {G : mp_G} {A : Nat → Prop} {B : mp_M} {h : Nat} {ad : Nat → Nat} {n : Nat → Int32} {f : Nat → Nat → Int32} {Ts : List Cond} {index : Nat} {own : String}
theorem md_geti (hx : p.tables.exec = Jvm.exec) (hb : c.code = cc) (hts : ∀ w ∈ Ts, w.before args s = true) (hin : ∀ w ∈ wsX80, w ∈ Ts) (hown : s.vm.findClass own = some m.cls) (hC : mp_C X G A s s.heap) (hM : mp_P G.1 A (md_M G B h ad n f) H) (k : Nat) (hk : k < 45) (ha : md_arr k = none) (hlink : (Cond.fieldLink own index (TX8 k).1 (TX8 k).2.1 (TX8 k).2.2.1).before args s = true) (hdg : decode cc pc = .ok (.getfield index, 3))
    (kk : W p l e R s m args below meth c H locs cells slots Q (F0 m (pc + 3) ls (.int (n k) :: rest))) : W p l e R s m args below meth c H locs cells slots Q (F0 m pc ls (.ref h :: rest)) :=
  va_get (C := RX8) (T := TX8) (N := 45) (ci := 9) hx hb hts hin hown hC.1 (hM.one (md_obj G B h ad n f)) 0 rfl rfl k hk hlink (fun _ q => q) (md_int ad n hk ha) hdg kk
theorem md_getr (hx : p.tables.exec = Jvm.exec) (hb : c.code = cc) (hts : ∀ w ∈ Ts, w.before args s = true) (hin : ∀ w ∈ wsX80, w ∈ Ts) (hown : s.vm.findClass own = some m.cls) (hC : mp_C X G A s s.heap) (hM : mp_P G.1 A (md_M G B h ad n f) H) (k : Nat) (hk : k < 45) {x : Nat × Nat} (ha : md_arr k = some x) (hlink : (Cond.fieldLink own index (TX8 k).1 (TX8 k).2.1 (TX8 k).2.2.1).before args s = true) (hdg : decode cc pc = .ok (.getfield index, 3))
    (kk : W p l e R s m args below meth c H locs cells slots Q (F0 m (pc + 3) ls (.ref (ad k) :: rest))) : W p l e R s m args below meth c H locs cells slots Q (F0 m pc ls (.ref h :: rest)) :=
  va_get (C := RX8) (T := TX8) (N := 45) (ci := 9) hx hb hts hin hown hC.1 (hM.one (md_obj G B h ad n f)) 0 rfl rfl k hk hlink (fun _ q => q) (md_ref ad n hk ha) hdg kk
theorem md_puti (hx : p.tables.exec = Jvm.exec) (hb : c.code = cc) (hts : ∀ w ∈ Ts, w.before args s = true) (hin : ∀ w ∈ wsX80, w ∈ Ts) (hown : s.vm.findClass own = some m.cls) (hC : mp_C X G A s s.heap) (hM : mp_P G.1 A (md_M G B h ad n f) H) (hS : va_S A s.heap H locs) (k : Nat) (hk : k < 45) (ha : md_arr k = none) (hfin : (TX8 k).2.2.2 = false) (hty : tyX8 k = .int) (hlink : (Cond.fieldLink own index (TX8 k).1 (TX8 k).2.1 (TX8 k).2.2.1).before args s = true) (hdg : decode cc pc = .ok (.putfield index, 3)) {v : Int32}
    (kk : ∀ (H1 : Heap) (locs1 : List Loc), mp_P G.1 A (md_M G B h ad (upd n k v) f) H1 → va_S A s.heap H1 locs1 → W p l e R s m args below meth c H1 locs1 cells slots Q (F0 m (pc + 3) ls rest)) : W p l e R s m args below meth c H locs cells slots Q (F0 m pc ls (.int v :: .ref h :: rest)) := by
  refine mp_put (C := RX8) (T := TX8) (N := 45) (ci := 9) hx hb hts hin tyX8 tyX8_ok nmX8 hown hC.1 hM hS (md_obj G B h ad n f) rfl k hk hlink (fun _ q => q) hfin (by rw [hty]; rfl) (by rw [hty]; rfl) (by rw [md_len]; exact hk) hdg (md_set ad n hk ha v) (fun H1 locs1 h1 h2 => ?_)
  rw [md_obj_set] at h1
  exact kk H1 locs1 h1 h2
theorem md_iald (hx : p.tables.exec = Jvm.exec) (hb : c.code = cc) (hC : mp_C X G A s s.heap) (hM : mp_P G.1 A (md_M G B h ad n f) H) (k : Nat) {len : Nat} (ha : md_arr k = some (1, len)) {j : Nat} (hj : j < len) (hl : len < 2 ^ 31) (hdg : decode cc pc = .ok (.iaload, 1))
    (kk : W p l e R s m args below meth c H locs cells slots Q (F0 m (pc + 1) ls (.int (f k j) :: rest))) : W p l e R s m args below meth c H locs cells slots Q (F0 m pc ls (.int (nI j) :: .ref (ad k) :: rest)) := by
  refine va_iald hx hb hC.1 (hM.one (md_row G B h ad n f ha)) 0 1 rfl rfl (vp_in_nI hj hl) hdg ?_
  rw [nI_clamp (Nat.lt_trans hj hl)]
  exact kk
theorem md_bald (hx : p.tables.exec = Jvm.exec) (hb : c.code = cc) (hC : mp_C X G A s s.heap) (hM : mp_P G.1 A (md_M G B h ad n f) H) (k : Nat) {len : Nat} (ha : md_arr k = some (0, len)) {j : Nat} (hj : j < len) (hl : len < 2 ^ 31) (hdg : decode cc pc = .ok (.baload, 1))
    (kk : W p l e R s m args below meth c H locs cells slots Q (F0 m (pc + 1) ls (.int (f k j) :: rest))) : W p l e R s m args below meth c H locs cells slots Q (F0 m pc ls (.int (nI j) :: .ref (ad k) :: rest)) := by
  refine va_bald hx hb hC.1 (hM.one (md_row G B h ad n f ha)) 0 0 rfl rfl (vp_in_nI hj hl) hdg ?_
  rw [nI_clamp (Nat.lt_trans hj hl)]
  exact kk
theorem md_zald (hx : p.tables.exec = Jvm.exec) (hb : c.code = cc) (hC : mp_C X G A s s.heap) (hM : mp_P G.1 A (md_M G B h ad n f) H) (k : Nat) {len : Nat} (ha : md_arr k = some (2, len)) {j : Nat} (hj : j < len) (hl : len < 2 ^ 31) (hdg : decode cc pc = .ok (.baload, 1))
    (kk : W p l e R s m args below meth c H locs cells slots Q (F0 m (pc + 1) ls (.int (f k j) :: rest))) : W p l e R s m args below meth c H locs cells slots Q (F0 m pc ls (.int (nI j) :: .ref (ad k) :: rest)) := by
  refine va_zald hx hb hC.1 (hM.one (md_row G B h ad n f ha)) 0 2 rfl rfl (vp_in_nI hj hl) hdg ?_
  rw [nI_clamp (Nat.lt_trans hj hl)]
  exact kk
theorem md_iast (hx : p.tables.exec = Jvm.exec) (hb : c.code = cc) (hC : mp_C X G A s s.heap) (hM : mp_P G.1 A (md_M G B h ad n f) H) (hS : va_S A s.heap H locs) (k : Nat) {len : Nat} (ha : md_arr k = some (1, len)) {j : Nat} (hj : j < len) (hl : len < 2 ^ 31) {x : Int32} (hdg : decode cc pc = .ok (.iastore, 1))
    (kk : ∀ (H1 : Heap) (locs1 : List Loc), mp_P G.1 A (md_M G B h ad n (va_up f k (upd (f k) j x))) H1 → va_S A s.heap H1 locs1 → W p l e R s m args below meth c H1 locs1 cells slots Q (F0 m (pc + 1) ls rest)) : W p l e R s m args below meth c H locs cells slots Q (F0 m pc ls (.int x :: .int (nI j) :: .ref (ad k) :: rest)) := by
  refine mp_iast hx hb hC.1 hM hS 1 (md_row G B h ad n f ha) rfl (vp_in_nI hj hl) hdg (fun H1 locs1 h1 h2 => ?_)
  rw [nI_clamp (Nat.lt_trans hj hl), md_row_set G B h ad n f ha] at h1
  exact kk H1 locs1 h1 h2
theorem md_bast (hx : p.tables.exec = Jvm.exec) (hb : c.code = cc) (hC : mp_C X G A s s.heap) (hM : mp_P G.1 A (md_M G B h ad n f) H) (hS : va_S A s.heap H locs) (k : Nat) {len : Nat} (ha : md_arr k = some (0, len)) {j : Nat} (hj : j < len) (hl : len < 2 ^ 31) {x : Int32} (hdg : decode cc pc = .ok (.bastore, 1))
    (kk : ∀ (H1 : Heap) (locs1 : List Loc), mp_P G.1 A (md_M G B h ad n (va_up f k (upd (f k) j (vp_nar .byte x)))) H1 → va_S A s.heap H1 locs1 → W p l e R s m args below meth c H1 locs1 cells slots Q (F0 m (pc + 1) ls rest)) : W p l e R s m args below meth c H locs cells slots Q (F0 m pc ls (.int x :: .int (nI j) :: .ref (ad k) :: rest)) := by
  refine mp_bast hx hb hC.1 hM hS 0 (md_row G B h ad n f ha) rfl (vp_in_nI hj hl) hdg (fun H1 locs1 h1 h2 => ?_)
  rw [nI_clamp (Nat.lt_trans hj hl), md_row_set G B h ad n f ha] at h1
  exact kk H1 locs1 h1 h2
theorem md_zast (hx : p.tables.exec = Jvm.exec) (hb : c.code = cc) (hC : mp_C X G A s s.heap) (hM : mp_P G.1 A (md_M G B h ad n f) H) (hS : va_S A s.heap H locs) (k : Nat) {len : Nat} (ha : md_arr k = some (2, len)) {j : Nat} (hj : j < len) (hl : len < 2 ^ 31) {x : Int32} (hdg : decode cc pc = .ok (.bastore, 1))
    (kk : ∀ (H1 : Heap) (locs1 : List Loc), mp_P G.1 A (md_M G B h ad n (va_up f k (upd (f k) j (vp_nar .boolean x)))) H1 → va_S A s.heap H1 locs1 → W p l e R s m args below meth c H1 locs1 cells slots Q (F0 m (pc + 1) ls rest)) : W p l e R s m args below meth c H locs cells slots Q (F0 m pc ls (.int x :: .int (nI j) :: .ref (ad k) :: rest)) := by
  refine mp_zast hx hb hC.1 hM hS 2 (md_row G B h ad n f ha) rfl (vp_in_nI hj hl) hdg (fun H1 locs1 h1 h2 => ?_)
  rw [nI_clamp (Nat.lt_trans hj hl), md_row_set G B h ad n f ha] at h1
  exact kk H1 locs1 h1 h2
theorem md_recv (hC : mp_C X G A s s.heap) (hM : mp_P G.1 A (md_M G B h ad n f) H) : ∃ cell : Cell, H[h]? = some cell ∧ cell.vm.isStatics = false ∧ s.vm.findClass RX8 = some cell.cls := mp_recv hC.1 hM (md_obj G B h ad n f) rfl
end MDR
