/-! ===== the heap as a map from names to cells; contracts over it ===== -/
abbrev mp_N : Type := Nat × Nat × Nat
abbrev mp_M : Type := mp_N → Option (Nat × va_E)
abbrev mp_G : Type := va_G × ClassId × ClassId × ClassId × ClassId
abbrev mp_X : Type := Nat × Nat × (Nat → Nat) × (Nat → Nat)
def mp_tys (G : mp_G) : List (ClassId × FieldType) := [(G.2.1, .byte), (G.2.2.1, .int), (G.2.2.2.1, .boolean), (G.2.2.2.2, .object "java/lang/Object")]
def mp_P (D : va_G) (A : Nat → Prop) (M : mp_M) (H : Heap) : Prop :=
  (∀ (k : mp_N) (q : Nat × va_E), M k = some q → va_at D vwCl q H) ∧ (∀ (i j : mp_N) (x y : Nat × va_E), M i = some x → M j = some y → x.1 = y.1 → i = j) ∧ ∀ (k : mp_N) (q : Nat × va_E), M k = some q → A q.1
def mp_set (M : mp_M) (k : mp_N) (x : Nat × va_E) : mp_M := fun j => if j = k then some x else M j
theorem mp_set_s (M : mp_M) (k : mp_N) (x : Nat × va_E) : mp_set M k x k = some x := if_pos rfl
theorem mp_set_n (M : mp_M) (k : mp_N) (x : Nat × va_E) {j : mp_N} (h : j ≠ k) : mp_set M k x j = M j := if_neg h
theorem mp_set_set (M : mp_M) (k : mp_N) (x y : Nat × va_E) : mp_set (mp_set M k x) k y = mp_set M k y := by
  funext j
  by_cases h : j = k
  · simp [mp_set, h]
  · simp [mp_set, h]
theorem mp_set_same {M : mp_M} {k : mp_N} {x : Nat × va_E} (h : M k = some x) : mp_set M k x = M := by
  funext j
  by_cases hj : j = k
  · rw [hj, mp_set_s, h]
  · rw [mp_set_n _ _ _ hj]
theorem mp_set_comm (M : mp_M) {k j : mp_N} (x y : Nat × va_E) (h : k ≠ j) : mp_set (mp_set M k x) j y = mp_set (mp_set M j y) k x := by
  funext i
  by_cases h1 : i = k
  · subst h1
    rw [mp_set_n _ _ _ h, mp_set_s, mp_set_s]
  · by_cases h2 : i = j
    · subst h2
      rw [mp_set_s, mp_set_n _ _ _ h1, mp_set_s]
    · rw [mp_set_n _ _ _ h2, mp_set_n _ _ _ h1, mp_set_n _ _ _ h1, mp_set_n _ _ _ h2]
theorem mp_P.one {D : va_G} {A : Nat → Prop} {M : mp_M} {H : Heap} {k : mp_N} {q : Nat × va_E} (h : mp_P D A M H) (hk : M k = some q) : va_P D vwCl [q] H := by
  intro i x hi
  have hz : i < 1 := (List.getElem?_eq_some_iff.mp hi).1
  rw [show i = 0 by omega] at hi
  cases hi
  exact h.1 k _ hk
theorem mp_P.put {D : va_G} {A : Nat → Prop} {M : mp_M} {H H1 : Heap} {k : mp_N} {a : Nat} {e0 e : va_E} (h : mp_P D A M H) (hk : M k = some (a, e0)) (he : va_at D vwCl (a, e) H1) (oq : ∀ q : Nat, q ≠ a → H1[q]? = H[q]?) : mp_P D A (mp_set M k (a, e)) H1 := by
  have key : ∀ (j : mp_N) (q : Nat × va_E), mp_set M k (a, e) j = some q → (j = k ∧ q = (a, e)) ∨ (j ≠ k ∧ M j = some q) := by
    intro j q hj
    by_cases hjk : j = k
    · subst hjk
      rw [mp_set_s] at hj
      exact Or.inl ⟨rfl, (Option.some.inj hj).symm⟩
    · rw [mp_set_n _ _ _ hjk] at hj
      exact Or.inr ⟨hjk, hj⟩
  refine ⟨fun j q hj => ?_, fun i j x y hi hj hxy => ?_, fun j q hj => ?_⟩
  · rcases key j q hj with ⟨-, rfl⟩ | ⟨hne, hj'⟩
    · exact he
    · exact (h.1 j q hj').kept (oq q.1 (fun z => hne (h.2.1 j k q (a, e0) hj' hk z)))
  · rcases key i x hi with ⟨rfl, rfl⟩ | ⟨hne, hi'⟩ <;> rcases key j y hj with ⟨rfl, rfl⟩ | ⟨hne2, hj'⟩
    · rfl
    · exact absurd (h.2.1 j i y (a, e0) hj' hk hxy.symm) hne2
    · exact absurd (h.2.1 i j x (a, e0) hi' hk hxy) hne
    · exact h.2.1 i j x y hi' hj' hxy
  · rcases key j q hj with ⟨-, rfl⟩ | ⟨-, hj'⟩
    · exact h.2.2 k (a, e0) hk
    · exact h.2.2 j q hj'
theorem mp_P.new {D : va_G} {A : Nat → Prop} {M : mp_M} {H H1 : Heap} {k : mp_N} {e : va_E} (h : mp_P D A M H) (hk : M k = none) (hA : A H.size) (he : va_at D vwCl (H.size, e) H1) (oq : ∀ q : Nat, q < H.size → H1[q]? = H[q]?) : mp_P D A (mp_set M k (H.size, e)) H1 := by
  have key : ∀ (j : mp_N) (q : Nat × va_E), mp_set M k (H.size, e) j = some q → (j = k ∧ q = (H.size, e)) ∨ (j ≠ k ∧ M j = some q ∧ q.1 < H.size) := by
    intro j q hj
    by_cases hjk : j = k
    · subst hjk
      rw [mp_set_s] at hj
      exact Or.inl ⟨rfl, (Option.some.inj hj).symm⟩
    · rw [mp_set_n _ _ _ hjk] at hj
      exact Or.inr ⟨hjk, hj, (h.1 j q hj).lt⟩
  refine ⟨fun j q hj => ?_, fun i j x y hi hj hxy => ?_, fun j q hj => ?_⟩
  · rcases key j q hj with ⟨-, rfl⟩ | ⟨hne, hj', hl⟩
    · exact he
    · exact (h.1 j q hj').kept (oq q.1 hl)
  · rcases key i x hi with ⟨rfl, rfl⟩ | ⟨hne, hi', hl⟩ <;> rcases key j y hj with ⟨rfl, rfl⟩ | ⟨hne2, hj', hl2⟩
    · rfl
    · exact absurd hxy (by show ¬ H.size = y.1; omega)
    · exact absurd hxy (by show ¬ x.1 = H.size; omega)
    · exact h.2.1 i j x y hi' hj' hxy
  · rcases key j q hj with ⟨-, rfl⟩ | ⟨-, hj', -⟩
    · exact hA
    · exact h.2.2 j q hj'
/-- words of private members of nest mates, which ride with the state -/
def mp_nw : List Cond := [
  .methodLinkNest RX7 31 yX5_init "PlanningBench",
  .methodLinkNest RX4 36 yX6_init "PlanningBench",
  .methodLinkNest RX6 30 yX7_isWithin "PlanningBench",
  .fieldLinkNest RX7 54 "PlanningBench$Ring" "size" "I" "PlanningBench",
  .fieldLinkNest RX7 145 "PlanningBench$Plan" "from" "I" "PlanningBench",
  .fieldLinkNest RX7 142 "PlanningBench$Plan" "knownFrom" "I" "PlanningBench",
  .fieldLinkNest RX4 41 "PlanningBench$Plan" "zones" "Ljava/util/ArrayList;" "PlanningBench",
  .fieldLinkNest RX7 178 "PlanningBench$Zone" "height" "I" "PlanningBench",
  .fieldLinkNest RX7 182 "PlanningBench$Zone" "cover" "I" "PlanningBench",
  .fieldLinkNest RX7 189 "PlanningBench$Zone" "edge" "I" "PlanningBench",
  .fieldLinkNest RX7 200 "PlanningBench$Zone" "shade" "I" "PlanningBench",
  .fieldLinkNest RX0 63 "PlanningBench$Design" "plot" "I" "PlanningBench",
  .fieldLinkNest RX7 161 "PlanningBench$Design" "plot" "I" "PlanningBench",
  .fieldLinkNest RX5 50 "PlanningBench$Design" "x0" "I" "PlanningBench",
  .fieldLinkNest RX5 55 "PlanningBench$Design" "y0" "I" "PlanningBench",
  .fieldLinkNest RX5 62 "PlanningBench$Design" "x1" "I" "PlanningBench",
  .fieldLinkNest RX5 65 "PlanningBench$Design" "y1" "I" "PlanningBench",
  .fieldLinkNest RX7 181 "PlanningBench$Design" "height" "I" "PlanningBench",
  .fieldLinkNest RX7 172 "PlanningBench$Design" "use" "I" "PlanningBench",
  .fieldLinkNest RX7 211 "PlanningBench$Application" "design" "LPlanningBench$Design;" "PlanningBench",
  .fieldLinkNest RX7 244 "PlanningBench$Application" "day" "I" "PlanningBench",
  .fieldLinkNest RX7 232 "PlanningBench$Application" "state" "I" "PlanningBench",
  .fieldLinkNest RX7 247 "PlanningBench$Application" "weight" "I" "PlanningBench",
  .fieldLinkNest RX7 262 "PlanningBench$Application" "appealed" "Z" "PlanningBench",
  .fieldLinkNest RX7 276 "PlanningBench$Holding" "plot" "I" "PlanningBench",
  .fieldLinkNest RX7 281 "PlanningBench$Holding" "person" "I" "PlanningBench",
  .fieldLinkNest RX7 278 "PlanningBench$Holding" "since" "I" "PlanningBench",
  .fieldLinkNest RX7 277 "PlanningBench$Holding" "knownFrom" "I" "PlanningBench",
  .castable RX0 "java/lang/Object",
  .castable RX1 "java/lang/Object",
  .castable RX2 "java/lang/Object",
  .castable RX3 "java/lang/Object",
  .castable RX5 "java/lang/Object",
  .castable RX6 "java/lang/Object"]
def mp_str : List (Nat × String) := [(53, "zone"), (59, "{"), (61, "}"), (85, "plots"), (87, "use"), (89, "height"), (91, "cover"), (93, "edge"), (95, "shade"), (79, ";")]
def mp_len : List Nat := [4, 1, 1, 5, 3, 6, 5, 4, 5, 1]
def mp_byt : List (List Int32) := [[122, 111, 110, 101], [123], [125], [112, 108, 111, 116, 115], [117, 115, 101], [104, 101, 105, 103, 104, 116], [99, 111, 118, 101, 114], [101, 100, 103, 101], [115, 104, 97, 100, 101], [59]]
/-- what lies outside and stays: the empty list's array, String's flag, the class object of Object[], the text constants -/
def mp_E (X : mp_X) (A : Nat → Prop) (U : State) (H : Heap) : Prop :=
  va_Z "java/util/ArrayList" "DEFAULTCAPACITY_EMPTY_ELEMENTDATA" "[Ljava/lang/Object;" (.ref X.1) A U H ∧ va_T (.object "java/lang/Object") X.1 0 (fun _ => .null) A U H ∧ va_Z "java/lang/String" "COMPACT_STRINGS" "Z" (.int 1) A U H ∧
  va_Mi "[Ljava/lang/Object;" X.2.1 U ∧ va_Dc U ∧ va_AO "java/lang/Object" U ∧ vk_S 10 mp_len mp_byt X.2.2.1 X.2.2.2 A U H ∧ (∀ (i : Nat) (q : Nat × String), mp_str[i]? = some q → vk_R RX4 q.1 q.2 (X.2.2.1 i) U) ∧ ∃ o : Option Nat, va_Z "jdk/internal/util/Preconditions" "SIOOBE_FORMATTER" "Ljava/util/function/BiFunction;" (va_rf o) A U H
theorem mp_nw_ok : mp_nw.all (fun w => match w with | .fieldLinkNest _ _ _ _ _ _ => true | .methodLinkNest _ _ _ _ => true | .castable _ _ => true | _ => false) = true := rfl
theorem mp_nw_warm {s U : State} (hW : s.WarmedH U.vm) (h : ∀ w ∈ mp_nw, va_Nw w s) : ∀ w ∈ mp_nw, va_Nw w U := by
  intro w hw
  have h1 := List.all_eq_true.mp mp_nw_ok w hw
  have h2 := h w hw
  cases w <;> first | (exact va_Nw.warmF hW h2) | (exact va_Nw.warmM hW h2) | (exact va_Nw.warmC hW h2) | (cases h1)
theorem mp_nw_same {s U : State} (hv : s.vm = U.vm) (h : ∀ w ∈ mp_nw, va_Nw w s) : ∀ w ∈ mp_nw, va_Nw w U := by
  intro w hw
  have h1 := List.all_eq_true.mp mp_nw_ok w hw
  have h2 := h w hw
  cases w <;> first | (exact va_Nw.same rfl hv h2) | (cases h1)
theorem mp_E.to {X : mp_X} {A : Nat → Prop} {s U : State} {H H1 : Heap} (hW : s.WarmedH U.vm) (hq : ∀ a : Nat, a < H.size → ¬ A a → H1[a]? = H[a]?) (h : mp_E X A s H) : mp_E X A U H1 := by
  obtain ⟨h1, h2, h3, h4, h5, h6, h7, h8, o9, h9⟩ := h
  exact ⟨va_Z.moved hW.alike (h1.kept hq), va_T.moved hW.alike (h2.kept hq), va_Z.moved hW.alike (h3.kept hq), va_Mi.moved hW.alike h4, va_Dc.moved hW.alike h5, va_AO.moved hW.alike h6, vk_S.moved hW.alike (h7.kept hq), fun i q hi => vk_R.warm hW (h8 i q hi), o9, va_Z.moved hW.alike (h9.kept hq)⟩
theorem mp_E.same {X : mp_X} {A : Nat → Prop} {s U : State} {H : Heap} (hv : s.vm = U.vm) (h : mp_E X A s H) : mp_E X A U H := by
  have ha : s.vm.Alike U.vm := by rw [hv]; exact Vm.Alike.refl _
  obtain ⟨h1, h2, h3, h4, h5, h6, h7, h8, o9, h9⟩ := h
  exact ⟨va_Z.moved ha h1, va_T.moved ha h2, va_Z.moved ha h3, va_Mi.moved ha h4, va_Dc.moved ha h5, va_AO.moved ha h6, vk_S.moved ha h7, fun i q hi => vk_R.same hv.symm (h8 i q hi), o9, va_Z.moved ha h9⟩
def mp_C (X : mp_X) (G : mp_G) (A : Nat → Prop) (U : State) (H : Heap) : Prop := va_K G.1 vwCl (mp_tys G) U ∧ (∀ w ∈ mp_nw, va_Nw w U) ∧ mp_E X A U H ∧ ∀ q : Nat, H.size ≤ q → A q
def mp_H (X : mp_X) (G : mp_G) (A : Nat → Prop) (M : mp_M) (U : State) : Prop := mp_C X G A U U.heap ∧ mp_P G.1 A M U.heap
def mp_Q (D : va_G) (A : Nat → Prop) (post : Option Value → mp_M → Prop) : Array Value → State → Outcome → State → Prop := fun _ st oc t => (∃ (v : Option Value) (M : mp_M), oc = .returned v ∧ post v M ∧ mp_P D A M t.heap) ∧ va_F A st t
/-- a method's contract: from the map M, with the arguments av, it returns a value and leaves a map with 'post' -/
def mp_Met (l : Launch) (X : mp_X) (G : mp_G) (A : Nat → Prop) (y : MethodName) (ws : List Cond) (rm : Room) (av : List Value) (M : mp_M) (post : Option Value → mp_M → Prop) (mc ms : Nat) : Prop :=
  Met l y ws rm (va_Pc av (mp_H X G A M)) (mp_Q G.1 A post) mc ms A
theorem mp_blind (X : mp_X) (G : mp_G) (A : Nat → Prop) (M : mp_M) (av : List Value) : FrameBlind (va_Pc av (mp_H X G A M)) := by
  intro a U g mk h
  obtain ⟨h0, ⟨h1, h2, h3, h4⟩, h5⟩ := h
  exact ⟨h0, ⟨va_K.moved (u := U) (U := U.calling g mk a) (Vm.Alike.refl U.vm) h1, mp_nw_same (s := U) (U := U.calling g mk a) rfl h2, mp_E.same (s := U) (U := U.calling g mk a) rfl h3, h4⟩, h5⟩
theorem mp_C.to {X : mp_X} {G : mp_G} {A : Nat → Prop} {s U : State} {H : Heap} {locs : List Loc} (hC : mp_C X G A s s.heap) (hS : va_S A s.heap H locs) (hU : U.heap = H) (hW : s.WarmedH U.vm) : mp_C X G A U U.heap := by
  subst hU
  exact ⟨va_K.moved hW.alike hC.1, mp_nw_warm hW hC.2.1, mp_E.to hW hS.2.1 hC.2.2.1, fun q hq => hC.2.2.2 q (Nat.le_trans hS.1 hq)⟩
section MPC
variable {p : Program} {l : Launch} {e : Env} {R : Room} {s : State} {m : MethodId} {args : Array Value} {below : List Frame} {meth : Method} {c : Code} {H : Heap} {locs : List Loc} {cells slots : Nat} {Q : State → Prop}
variable {X : mp_X} {G : mp_G} {A : Nat → Prop} {M : mp_M}
theorem mp_preS {As : List Value} (hC : mp_C X G A s s.heap) (hS : va_S A s.heap H locs) (hM : mp_P G.1 A M H) : PreS s H (va_Pc As (mp_H X G A M)) As :=
  ⟨mp_blind X G A M As, fun U hU hW => ⟨rfl, hC.to hS hU hW, by rw [hU]; exact hM⟩⟩
theorem mp_recv {D : va_G} {tys : List (ClassId × FieldType)} {k : mp_N} {a ci : Nat} {r : vw_C} {fs : List Value} (hK : va_K D vwCl tys s) (hM : mp_P D A M H) (hk : M k = some (a, .inr (ci, fs))) (hc : vwCl[ci]? = some r) : ∃ cell : Cell, H[a]? = some cell ∧ cell.vm.isStatics = false ∧ s.vm.findClass r.1 = some cell.cls :=
  va_recv hK (hM.one hk) hc (q0 := 0) rfl
theorem mp_preV {As : List Value} {C : String} {b : Addr} (hC : mp_C X G A s s.heap) (hS : va_S A s.heap H locs) (hM : mp_P G.1 A M H) (hr : ∃ cell : Cell, H[b]? = some cell ∧ cell.vm.isStatics = false ∧ s.vm.findClass C = some cell.cls) : PreV s H C b (va_Pc (Value.ref b :: As) (mp_H X G A M)) As :=
  ⟨mp_blind X G A M (Value.ref b :: As), hr, fun U hU hW => ⟨rfl, hC.to hS hU hW, by rw [hU]; exact hM⟩⟩
/-- behind a call -/
theorem mp_call {D : va_G} {post : Option Value → mp_M → Prop} {pc mc ms : Nat} {ls : Array Slot} {rest st0 : List Value} {a : Array Value} (hr : va_Run p l e R s m args below meth c H locs cells slots mc ms (F0 m pc ls st0) rest (mp_Q D A post a) A) (hS : va_S A s.heap H locs)
    (kk : ∀ (v : Option Value) (M1 : mp_M) (H1 : Heap) (locs1 : List Loc), post v M1 → mp_P D A M1 H1 → va_S A s.heap H1 locs1 → W p l e R s m args below meth c H1 locs1 (cells + mc) (slots + ms) Q (F0 m (pc + 3) ls (v.toList ++ rest))) : W p l e R s m args below meth c H locs cells slots Q (F0 m pc ls st0) := by
  intro T hT X1
  obtain ⟨v, st₀, t, T', L, h0, X', hL, e1, e2, ⟨⟨v', M1, hv, hp, hb⟩, hz, hk⟩, st⟩ := hr T hT X1
  cases hv
  rw [h0] at hz hk
  obtain ⟨t2, a1, b1⟩ := kk v M1 T'.heap (locs ++ L) hp (by rw [e1]; exact hb)
    ⟨Nat.le_trans hS.1 (by rw [e1]; exact hz), fun q h1 h2 => by rw [e1, hk q (Nat.lt_of_lt_of_le h1 hS.1) h2]; exact hS.2.1 q h1 h2, fun q hq => by
      rcases List.mem_append.mp hq with h | h
      · exact hS.2.2 q h
      · exact hL q h⟩ T' rfl X'
  exact ⟨t2, st t2 a1, b1⟩
/-- a call whose answer and map are known -/
theorem mp_callD {D : va_G} {v0 : Option Value} {M0 : mp_M} {pc mc ms : Nat} {ls : Array Slot} {rest st0 : List Value} {a : Array Value} (hr : va_Run p l e R s m args below meth c H locs cells slots mc ms (F0 m pc ls st0) rest (mp_Q D A (fun v M1 => v = v0 ∧ M1 = M0) a) A) (hS : va_S A s.heap H locs)
    (kk : ∀ (H1 : Heap) (locs1 : List Loc), mp_P D A M0 H1 → va_S A s.heap H1 locs1 → W p l e R s m args below meth c H1 locs1 (cells + mc) (slots + ms) Q (F0 m (pc + 3) ls (v0.toList ++ rest))) : W p l e R s m args below meth c H locs cells slots Q (F0 m pc ls st0) :=
  mp_call hr hS (fun v M1 H1 locs1 h hM hS => by obtain ⟨rfl, rfl⟩ := h; exact kk H1 locs1 hM hS)
theorem mp_qret {post : Option Value → mp_M → Prop} {D : va_G} {v : Option Value} (hp : post v M) (hM : mp_P D A M H) (hS : va_S A s.heap H locs) : ∀ t : State, t.heap = H → s.WarmedH t.vm → mp_Q D A post args s (.returned v) t :=
  fun t ht _ => ⟨⟨v, M, rfl, hp, by rw [ht]; exact hM⟩, hS.F ht⟩
theorem mp_iret {cc : ByteArray} {post : Option Value → mp_M → Prop} {D : va_G} {v : Int32} {pc mc ms : Nat} {ls : Array Slot} (hx : p.tables.exec = Jvm.exec) (hb : c.code = cc) (hr : meth.sig.returnType = some .int) (hlocks : meth.locks = false) (hc : cells ≤ mc) (hs : slots ≤ ms) (hM : mp_P D A M H) (hS : va_S A s.heap H locs) (hdg : decode cc pc = .ok (.ireturn, 1)) (hp : post (some (.int v)) M) :
    W p l e R s m args below meth c H locs cells slots (MQ below (mp_Q D A post) args s mc ms A) (F0 m pc ls [.int v]) :=
  W.widen hc hs (W.iret hx hb hr (mp_qret hp hM hS) hS.2.2 hdg hlocks)
theorem mp_zret {cc : ByteArray} {post : Option Value → mp_M → Prop} {D : va_G} {v : Int32} {ty : FieldType} {pc mc ms : Nat} {ls : Array Slot} (hx : p.tables.exec = Jvm.exec) (hb : c.code = cc) (hr : meth.sig.returnType = some ty) (hlocks : meth.locks = false) (hc : cells ≤ mc) (hs : slots ≤ ms) (hM : mp_P D A M H) (hS : va_S A s.heap H locs) (hdg : decode cc pc = .ok (.ireturn, 1)) (hn : narrow ty (.int v) = .int v) (hp : post (some (.int v)) M) :
    W p l e R s m args below meth c H locs cells slots (MQ below (mp_Q D A post) args s mc ms A) (F0 m pc ls [.int v]) :=
  W.widen hc hs (W.zret hx hb hr hn (mp_qret hp hM hS) hS.2.2 hdg hlocks)
theorem mp_lret {cc : ByteArray} {post : Option Value → mp_M → Prop} {D : va_G} {v : Int64} {pc mc ms : Nat} {ls : Array Slot} (hx : p.tables.exec = Jvm.exec) (hb : c.code = cc) (hr : meth.sig.returnType = some .long) (hlocks : meth.locks = false) (hc : cells ≤ mc) (hs : slots ≤ ms) (hM : mp_P D A M H) (hS : va_S A s.heap H locs) (hdg : decode cc pc = .ok (.lreturn, 1)) (hp : post (some (.long v)) M) :
    W p l e R s m args below meth c H locs cells slots (MQ below (mp_Q D A post) args s mc ms A) (F0 m pc ls [.long v]) :=
  W.widen hc hs (W.lret hx hb hr (mp_qret hp hM hS) hS.2.2 hdg hlocks)
theorem mp_vret {cc : ByteArray} {post : Option Value → mp_M → Prop} {D : va_G} {pc mc ms : Nat} {ls : Array Slot} (hx : p.tables.exec = Jvm.exec) (hb : c.code = cc) (hr : meth.sig.returnType = none) (hlocks : meth.locks = false) (hc : cells ≤ mc) (hs : slots ≤ ms) (hM : mp_P D A M H) (hS : va_S A s.heap H locs) (hdg : decode cc pc = .ok (.return_, 1)) (hp : post none M) :
    W p l e R s m args below meth c H locs cells slots (MQ below (mp_Q D A post) args s mc ms A) (F0 m pc ls []) :=
  W.widen hc hs (W.vret hx hb hr (mp_qret hp hM hS) hS.2.2 hdg hlocks)
theorem mp_aret {cc : ByteArray} {post : Option Value → mp_M → Prop} {D : va_G} {v : Value} {rt : FieldType} {pc mc ms : Nat} {ls : Array Slot} (hx : p.tables.exec = Jvm.exec) (hb : c.code = cc) (hr : meth.sig.returnType = some rt) (hlocks : meth.locks = false) (hc : cells ≤ mc) (hs : slots ≤ ms) (hM : mp_P D A M H) (hS : va_S A s.heap H locs) (hdg : decode cc pc = .ok (.areturn, 1)) (hrt : (∃ n, rt = .object n) ∨ ∃ t, rt = .array t) (hv : v = .null ∨ ∃ a, v = .ref a) (hp : post (some v) M) :
    W p l e R s m args below meth c H locs cells slots (MQ below (mp_Q D A post) args s mc ms A) (F0 m pc ls [v]) :=
  W.widen hc hs (W.aret hx hb hr hrt hv (mp_qret hp hM hS) hS.2.2 hdg hlocks)
end MPC
/-- a method's entry -/
theorem mp_ofW {l : Launch} {X : mp_X} {G : mp_G} {A : Nat → Prop} {y : MethodName} {ws ws' : List Cond} {rm : Room} {av : List Value} {M : mp_M} {post : Option Value → mp_M → Prop} {mc ms : Nat} {cc : ByteArray} {maxL : Nat} {ret : Option FieldType}
    (hy : plainName y.cls = true) (hw : ws = Cond.code y cc maxL ret :: ws') (hlen : (lg_sl av).length ≤ maxL)
    (body : ∀ (p : Program) (e : Env) (s : State) (m : MethodId) (below : List Frame) (meth : Method) (c : Code) (ls : Array Slot), p.tables.exec = Jvm.exec → c.code = cc → meth.sig.returnType = ret → (∀ w ∈ ws, w.before av.toArray s = true) → s.vm.findClass y.cls = some m.cls → meth.locks = false → meth.name = y.name → c.maxLocals = maxL →
      mp_C X G A s s.heap → mp_P G.1 A M s.heap → va_S A s.heap s.heap [] → lv_has ls maxL (lv_args 0 av) → W p l e rm s m av.toArray below meth c s.heap [] 0 0 (MQ below (mp_Q G.1 A post) av.toArray s mc ms A) (F0 m 0 ls [])) : mp_Met l X G A y ws rm av M post mc ms := by
  refine Met.ofW (cc := cc) (maxL := maxL) (ret := ret) hy hw ?_
  intro p e s m args below meth c s₁ B hml hv
  obtain ⟨rfl, hC, hM⟩ := hv
  have hl := lv_entry av (n := maxL) hlen
  rw [lg_entry_eq]
  exact body p e s m below meth c _ B.exec B.bytes B.returns (atoms_spec (ws := ws) B.pre) (findClass_of_methodNamed B.named) B.notSynchronized (name_of_methodNamed B.named B.method).1 hml hC hM va_S.rf hl
section MPW
variable {p : Program} {l : Launch} {e : Env} {R : Room} {s : State} {m : MethodId} {args : Array Value} {below : List Frame} {meth : Method} {c : Code} {H : Heap} {locs : List Loc} {cells slots : Nat} {Q : State → Prop}
variable {cc : ByteArray} {pc : Nat} {ls : Array Slot} {rest : List Value} {D : va_G} {A : Nat → Prop} {a : Nat} {tys : List (ClassId × FieldType)} {M : mp_M} {H0 : Heap}
theorem mp_put (hexec : p.tables.exec = Jvm.exec) (hb : c.code = cc) {own ref C : String} {T : u_T} {N ci index : Nat} {Ts : List Cond} (hts : ∀ w ∈ Ts, w.before args s = true) (hin : ∀ w ∈ u_ws C T N, w ∈ Ts) (ty0 : Nat → FieldType) (hty : ∀ k, k < N → parseFieldDescriptor (T k).2.2.1 = some (ty0 k)) (hnm : ∀ a, a < N → ∀ b, b < N → a ≠ b → (T a).2.1 ≠ (T b).2.1) (hown : s.vm.findClass own = some m.cls) (hK : va_K D vwCl tys s) (hM : mp_P D A M H) (hS0 : va_S A H0 H locs) {kn : mp_N} {fs : List Value} (he : M kn = some (a, .inr (ci, fs))) (hc : vwCl[ci]? = some (C, T, N)) (k : Nat) (hk : k < N) (hlink : (Cond.fieldLink own index ref (T k).2.1 (T k).2.2.1).before args s = true) (hsame : ∀ x, s.fieldFound? (T k).1 (T k).2.1 (T k).2.2.1 = some x → s.fieldFound? ref (T k).2.1 (T k).2.2.1 = some x) (hfin : (T k).2.2.2 = false) {v : Value} (hn : narrow (ty0 k) v = v) (hfit : fits (ty0 k) v = true) (hl : k < fs.length)
    (hdg : decode cc pc = .ok (.putfield index, 3)) {fs' : List Value} (hfs : fs.set k v = fs') (kk : ∀ (H1 : Heap) (locs1 : List Loc), mp_P D A (mp_set M kn (a, .inr (ci, fs'))) H1 → va_S A H0 H1 locs1 → W p l e R s m args below meth c H1 locs1 cells slots Q (F0 m (pc + 3) ls rest)) : W p l e R s m args below meth c H locs cells slots Q (F0 m pc ls (v :: .ref a :: rest)) := by
  subst hfs
  have hap := va_apart (own := own) hts hin ty0 hty hnm hK hc
  obtain ⟨r, h1, cell, q1, q2, q3, q4⟩ := hM.1 kn _ he
  have hr : r = (C, T, N) := Option.some.inj (h1.symm.trans hc)
  subst hr
  obtain ⟨hS, hfc, kC, hkC, hkind⟩ := hK.1 ci _ hc
  obtain ⟨cf, kf, fi, f, hi, hsl⟩ := hS k hk
  have hlay := hts _ (hin _ (u_in_lay hk))
  unfold u_lay at hlay
  rw [if_neg (by rw [hfin]; decide)] at hlay
  have hst := (u_facts hfc hkC (u_lays hts hin hk) hi).1
  have h6 := u_store hfc hkC hkind hlay hi (hty k hk) hn hfit
  refine W.putK hexec hb (f := f) ⟨hown, hlink, ⟨_, _, _, hsame _ hi⟩, hst⟩ (by rw [q2]; exact h6) q1 q3 (by rw [hsl]; exact k2_hasslot (q4 k hk)) rfl rfl hdg fun H' e1 e2 e3 => ?_
  rw [hsl] at e1 ⊢
  exact kk H' _ (hM.put he ⟨_, hc, t_OB.to (V := updV (vp_V fs) k v) ⟨_, e1, q2, q3, t_set q4 hap hk v⟩ (fun j _ => vp_updV_set hl v j)⟩ e3) (hS0.put e2 e3 (hM.2.2 kn _ he))
theorem mp_putF (hexec : p.tables.exec = Jvm.exec) (hb : c.code = cc) {own ref C : String} {T : u_T} {N ci index : Nat} {Ts : List Cond} (hts : ∀ w ∈ Ts, w.before args s = true) (hin : ∀ w ∈ u_ws C T N, w ∈ Ts) (ty0 : Nat → FieldType) (hty : ∀ k, k < N → parseFieldDescriptor (T k).2.2.1 = some (ty0 k)) (hnm : ∀ a, a < N → ∀ b, b < N → a ≠ b → (T a).2.1 ≠ (T b).2.1) (hown : s.vm.findClass own = some m.cls) (hK : va_K D vwCl tys s) (hM : mp_P D A M H) (hS0 : va_S A H0 H locs) {kn : mp_N} {fs : List Value} (he : M kn = some (a, .inr (ci, fs))) (hc : vwCl[ci]? = some (C, T, N)) (k : Nat) (hk : k < N) (hlink : (Cond.fieldLink own index ref (T k).2.1 (T k).2.2.1).before args s = true) (hsame : ∀ x, s.fieldFound? (T k).1 (T k).2.1 (T k).2.2.1 = some x → s.fieldFound? ref (T k).2.1 (T k).2.2.1 = some x) (hfin : (T k).2.2.2 = true) (hin2 : meth.name = "<init>") (hdecl : (T k).1 = own) {v : Value} (hn : narrow (ty0 k) v = v) (hfit : fits (ty0 k) v = true) (hl : k < fs.length)
    (hdg : decode cc pc = .ok (.putfield index, 3)) {fs' : List Value} (hfs : fs.set k v = fs') (kk : ∀ (H1 : Heap) (locs1 : List Loc), mp_P D A (mp_set M kn (a, .inr (ci, fs'))) H1 → va_S A H0 H1 locs1 → W p l e R s m args below meth c H1 locs1 cells slots Q (F0 m (pc + 3) ls rest)) : W p l e R s m args below meth c H locs cells slots Q (F0 m pc ls (v :: .ref a :: rest)) := by
  subst hfs
  have hap := va_apart (own := own) hts hin ty0 hty hnm hK hc
  obtain ⟨r, h1, cell, q1, q2, q3, q4⟩ := hM.1 kn _ he
  have hr : r = (C, T, N) := Option.some.inj (h1.symm.trans hc)
  subst hr
  obtain ⟨hS, hfc, kC, hkC, hkind⟩ := hK.1 ci _ hc
  obtain ⟨cf, kf, fi, f, hi, hsl⟩ := hS k hk
  have hlay := hts _ (hin _ (u_in_lay hk))
  unfold u_lay at hlay
  rw [if_pos hfin] at hlay
  have hst := (u_facts hfc hkC (u_lays hts hin hk) hi).1
  have hcf : m.cls = cf := by
    obtain ⟨_, _, c', _, _, _, -, -, hf', -, -, -, hown2, -⟩ := Cond.laysFinal_spec hlay
    have e1 : c' = cf := by have := hi.symm.trans hf'; simp at this; exact this.1.symm
    rw [hdecl] at hown2
    rw [← e1]; exact Option.some.inj (hown.symm.trans hown2)
  have h6 := u_fits hfc hkC hkind (Or.inr hlay) hi (hty k hk) hn hfit
  refine W.putFinK hexec hb hown hlink (hsame _ hi) hst hcf hin2 (by rw [q2]; exact h6) q1 q3 (by rw [hsl]; exact k2_hasslot (q4 k hk)) rfl rfl hdg fun H' e1 e2 e3 => ?_
  rw [hsl] at e1 ⊢
  exact kk H' _ (hM.put he ⟨_, hc, t_OB.to (V := updV (vp_V fs) k v) ⟨_, e1, q2, q3, t_set q4 hap hk v⟩ (fun j _ => vp_updV_set hl v j)⟩ e3) (hS0.put e2 e3 (hM.2.2 kn _ he))
theorem mp_putN (hexec : p.tables.exec = Jvm.exec) (hb : c.code = cc) {own ref C host : String} {T : u_T} {N ci index : Nat} {Ts : List Cond} (hts : ∀ w ∈ Ts, w.before args s = true) (hin : ∀ w ∈ u_ws C T N, w ∈ Ts) (ty0 : Nat → FieldType) (hty : ∀ k, k < N → parseFieldDescriptor (T k).2.2.1 = some (ty0 k)) (hnm : ∀ a, a < N → ∀ b, b < N → a ≠ b → (T a).2.1 ≠ (T b).2.1) (hown : s.vm.findClass own = some m.cls) (hK : va_K D vwCl tys s) (hM : mp_P D A M H) (hS0 : va_S A H0 H locs) {kn : mp_N} {fs : List Value} (he : M kn = some (a, .inr (ci, fs))) (hc : vwCl[ci]? = some (C, T, N)) (k : Nat) (hk : k < N) (hlink : (Cond.fieldLinkNest own index ref (T k).2.1 (T k).2.2.1 host).before args s = true) (hsame : ∀ x, s.fieldFound? (T k).1 (T k).2.1 (T k).2.2.1 = some x → s.fieldFound? ref (T k).2.1 (T k).2.2.1 = some x) (hfin : (T k).2.2.2 = false) {v : Value} (hn : narrow (ty0 k) v = v) (hfit : fits (ty0 k) v = true) (hl : k < fs.length)
    (hdg : decode cc pc = .ok (.putfield index, 3)) {fs' : List Value} (hfs : fs.set k v = fs') (kk : ∀ (H1 : Heap) (locs1 : List Loc), mp_P D A (mp_set M kn (a, .inr (ci, fs'))) H1 → va_S A H0 H1 locs1 → W p l e R s m args below meth c H1 locs1 cells slots Q (F0 m (pc + 3) ls rest)) : W p l e R s m args below meth c H locs cells slots Q (F0 m pc ls (v :: .ref a :: rest)) := by
  subst hfs
  have hap := va_apart (own := own) hts hin ty0 hty hnm hK hc
  obtain ⟨r, h1, cell, q1, q2, q3, q4⟩ := hM.1 kn _ he
  have hr : r = (C, T, N) := Option.some.inj (h1.symm.trans hc)
  subst hr
  obtain ⟨hS, hfc, kC, hkC, hkind⟩ := hK.1 ci _ hc
  obtain ⟨cf, kf, fi, f, hi, hsl⟩ := hS k hk
  have hlay := hts _ (hin _ (u_in_lay hk))
  unfold u_lay at hlay
  rw [if_neg (by rw [hfin]; decide)] at hlay
  have hst := (u_facts hfc hkC (u_lays hts hin hk) hi).1
  have h6 := u_store hfc hkC hkind hlay hi (hty k hk) hn hfit
  refine va_WputK hexec hb (f := f) hown hlink (hsame _ hi) hst (by rw [q2]; exact h6) q1 q3 (by rw [hsl]; exact k2_hasslot (q4 k hk)) rfl rfl hdg fun H' e1 e2 e3 => ?_
  rw [hsl] at e1 ⊢
  exact kk H' _ (hM.put he ⟨_, hc, t_OB.to (V := updV (vp_V fs) k v) ⟨_, e1, q2, q3, t_set q4 hap hk v⟩ (fun j _ => vp_updV_set hl v j)⟩ e3) (hS0.put e2 e3 (hM.2.2 kn _ he))
theorem mp_iast (hexec : p.tables.exec = Jvm.exec) (hb : c.code = cc) (hK : va_K D vwCl tys s) (hM : mp_P D A M H) (hS : va_S A H0 H locs) {kn : mp_N} (t0 : Nat) {cA : ClassId} {n : Nat} {f : Nat → Int32} (ha : M kn = some (a, .inl (cA, n, .inl f))) (ht : tys[t0]? = some (cA, .int)) {i : Int32} {x : Int32} (hin : vp_in i n) (hdg : decode cc pc = .ok (.iastore, 1))
    (kk : ∀ (H1 : Heap) (locs1 : List Loc), mp_P D A (mp_set M kn (a, .inl (cA, n, .inl (upd f i.toNatClampNeg x)))) H1 → va_S A H0 H1 locs1 → W p l e R s m args below meth c H1 locs1 cells slots Q (F0 m (pc + 1) ls rest)) : W p l e R s m args below meth c H locs cells slots Q (F0 m pc ls (.int x :: .int i :: .ref a :: rest)) := by
  refine W.iast hexec hb (hM.1 kn _ ha) ((hK.2 t0 _ ht).1 n (fun j => .int (f j))) (fun q => by cases q) (by show ¬ (i < 0 ∨ (arrV _ _ _).slots.size ≤ _); rw [arrV_size]; exact hin) rfl rfl hdg fun H1 e z oq => ?_
  refine kk H1 _ (hM.put ha ?_ oq) (hS.put z oq (hM.2.2 kn _ ha))
  show H1[a]? = some (vp_cell _ _)
  rw [e]
  rw [vp_cell_i, vp_cell_i, arrV_store]
  congr 2
  funext q
  by_cases hq : q = i.toNatClampNeg
  · subst hq
    simp [updV, upd]
  · simp [updV, upd, hq]
theorem mp_bast (hexec : p.tables.exec = Jvm.exec) (hb : c.code = cc) (hK : va_K D vwCl tys s) (hM : mp_P D A M H) (hS : va_S A H0 H locs) {kn : mp_N} (t0 : Nat) {cA : ClassId} {n : Nat} {f : Nat → Int32} (ha : M kn = some (a, .inl (cA, n, .inl f))) (ht : tys[t0]? = some (cA, .byte)) {i : Int32} {x : Int32} (hin : vp_in i n) (hdg : decode cc pc = .ok (.bastore, 1))
    (kk : ∀ (H1 : Heap) (locs1 : List Loc), mp_P D A (mp_set M kn (a, .inl (cA, n, .inl (upd f i.toNatClampNeg (vp_nar .byte x))))) H1 → va_S A H0 H1 locs1 → W p l e R s m args below meth c H1 locs1 cells slots Q (F0 m (pc + 1) ls rest)) : W p l e R s m args below meth c H locs cells slots Q (F0 m pc ls (.int x :: .int i :: .ref a :: rest)) := by
  refine W.bast hexec hb (hM.1 kn _ ha) ((hK.2 t0 _ ht).1 n (fun j => .int (f j))) (fun q => by cases q) (by show ¬ (i < 0 ∨ (arrV _ _ _).slots.size ≤ _); rw [arrV_size]; exact hin) rfl rfl hdg fun H1 e z oq => ?_
  refine kk H1 _ (hM.put ha ?_ oq) (hS.put z oq (hM.2.2 kn _ ha))
  show H1[a]? = some (vp_cell _ _)
  rw [e]
  rw [vp_cell_i, vp_cell_i, arrV_store]
  congr 2
  funext q
  by_cases hq : q = i.toNatClampNeg
  · subst hq
    simp [updV, upd, vp_nar]
    try rfl
  · simp [updV, upd, hq]
theorem mp_zast (hexec : p.tables.exec = Jvm.exec) (hb : c.code = cc) (hK : va_K D vwCl tys s) (hM : mp_P D A M H) (hS : va_S A H0 H locs) {kn : mp_N} (t0 : Nat) {cA : ClassId} {n : Nat} {f : Nat → Int32} (ha : M kn = some (a, .inl (cA, n, .inl f))) (ht : tys[t0]? = some (cA, .boolean)) {i : Int32} {x : Int32} (hin : vp_in i n) (hdg : decode cc pc = .ok (.bastore, 1))
    (kk : ∀ (H1 : Heap) (locs1 : List Loc), mp_P D A (mp_set M kn (a, .inl (cA, n, .inl (upd f i.toNatClampNeg (vp_nar .boolean x))))) H1 → va_S A H0 H1 locs1 → W p l e R s m args below meth c H1 locs1 cells slots Q (F0 m (pc + 1) ls rest)) : W p l e R s m args below meth c H locs cells slots Q (F0 m pc ls (.int x :: .int i :: .ref a :: rest)) := by
  refine W.zast hexec hb (hM.1 kn _ ha) ((hK.2 t0 _ ht).1 n (fun j => .int (f j))) (fun q => by cases q) (by show ¬ (i < 0 ∨ (arrV _ _ _).slots.size ≤ _); rw [arrV_size]; exact hin) rfl rfl hdg fun H1 e z oq => ?_
  refine kk H1 _ (hM.put ha ?_ oq) (hS.put z oq (hM.2.2 kn _ ha))
  show H1[a]? = some (vp_cell _ _)
  rw [e]
  rw [vp_cell_i, vp_cell_i, arrV_store]
  congr 2
  funext q
  by_cases hq : q = i.toNatClampNeg
  · subst hq
    simp [updV, upd, vp_nar]
    try rfl
  · simp [updV, upd, hq]
theorem mp_new (hexec : p.tables.exec = Jvm.exec) (hb : c.code = cc) {own C : String} {T : u_T} {N ci index : Nat} {Ts : List Cond} (hts : ∀ w ∈ Ts, w.before args s = true) (hin : ∀ w ∈ u_ws C T N, w ∈ Ts) (ty : Nat → FieldType) (hty : ∀ k, k < N → parseFieldDescriptor (T k).2.2.1 = some (ty k)) (hown : s.vm.findClass own = some m.cls) (hcl : (Cond.classLink own index C).before args s = true) (hinst : (Cond.instantiable C N).before args s = true) (hini : (Cond.initialized C).before args s = true)
    (hK : va_K D vwCl tys s) (hM : mp_P D A M H) (hS : va_S A H0 H locs) (hA : ∀ q, H0.size ≤ q → A q) (hc : vwCl[ci]? = some (C, T, N)) {fs : List Value} (hfs : ∀ j, j < N → defaultValue (ty j) = vp_V fs j) (hcells : cells + 1 ≤ R.cells) (hslots : slots + N ≤ R.slots) (hdg : decode cc pc = .ok (.new index, 3)) {kn : mp_N} (hk : M kn = none)
    (kk : ∀ (q : Nat) (H1 : Heap), mp_P D A (mp_set M kn (q, .inr (ci, fs))) H1 → va_S A H0 H1 locs → W p l e R s m args below meth c H1 locs (cells + 1) (slots + N) Q (F0 m (pc + 3) ls (.ref q :: rest))) : W p l e R s m args below meth c H locs cells slots Q (F0 m pc ls rest) := by
  have hKn := hK.1 ci _ hc
  refine W.newcK hexec hb hown hcl hinst hini rfl hdg hcells hslots hKn.2.1 rfl fun H1 kC hkC e1 z1 o1 => ?_
  exact kk H.size H1 (hM.new hk (hA _ hS.1) ⟨_, hc, (u_born ty hts hin hKn hkC e1 hty).to hfs⟩ o1) ⟨Nat.le_trans hS.1 (by omega), fun x h1 h2 => (o1 x (Nat.lt_of_lt_of_le h1 hS.1)).trans (hS.2.1 x h1 h2), hS.2.2⟩
theorem mp_newa (hexec : p.tables.exec = Jvm.exec) (hb : c.code = cc) {atype : ArrayType} (harr : (Cond.arrayClass (newarray.typeOf atype)).before args s = true) {ty : FieldType} (hty : newarray.typeOf atype = ty) (hK : va_K D vwCl tys s) (hM : mp_P D A M H) (hS : va_S A H0 H locs) (hA : ∀ q, H0.size ≤ q → A q) (t0 : Nat) {cA : ClassId} (ht : tys[t0]? = some (cA, ty)) (hRA : va_RA s cA ty = (s.vm.findClass ("[" ++ ty.toString) = some cA))
    {n : Int32} {N' : Nat} {a0 : vp_A} (ha : ∀ cA : ClassId, vp_cell cA a0 = arrV cA N' (fun _ => defaultValue ty)) (hn : ¬ n < 0) (hN : n.toNatClampNeg = N') (hbytes : N' * componentBytes ty ≤ 536870912) (hcells : cells + 1 ≤ R.cells) (hslots : slots + N' ≤ R.slots) (hdg : decode cc pc = .ok (.newarray atype, 2)) {kn : mp_N} (hk : M kn = none)
    (kk : ∀ (q : Nat) (H1 : Heap), mp_P D A (mp_set M kn (q, .inl (cA, a0))) H1 → va_S A H0 H1 locs → W p l e R s m args below meth c H1 locs (cells + 1) (slots + N') Q (F0 m (pc + 2) ls (.ref q :: rest))) : W p l e R s m args below meth c H locs cells slots Q (F0 m pc ls (.int n :: rest)) := by
  subst hty
  have hnm := (hK.2 t0 _ ht).2
  rw [hRA] at hnm
  refine va_newaK hexec hb harr rfl hdg rfl hn hN hbytes hcells hslots rfl fun H1 cA' e1 z1 o1 hAr hNm => ?_
  have hcc : cA' = cA := Option.some.inj (hNm.symm.trans hnm)
  subst hcc
  refine kk H.size H1 (hM.new hk (hA _ hS.1) ?_ o1) ⟨Nat.le_trans hS.1 (by omega), fun x h1 h2 => (o1 x (Nat.lt_of_lt_of_le h1 hS.1)).trans (hS.2.1 x h1 h2), hS.2.2⟩
  show H1[H.size]? = some (vp_cell _ _)
  rw [ha]
  exact e1
end MPW
