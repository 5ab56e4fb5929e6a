/-! ===== class against reference: a text's readings look at no more than the text ===== -/
def AG (t t' : Nat → Int32) (sz : Nat) : Prop := ∀ j, j < sz → t j = t' j
theorem ag_sk {P P' : Nat → Prop} {sz : Nat} (h : ∀ j, j < sz → (P j ↔ P' j)) : ∀ k i, skp P sz k i = skp P' sz k i
  | 0, _ => rfl
  | k + 1, i => by
    rw [skp, skp, pB_congr (show (i < sz ∧ P i) ↔ (i < sz ∧ P' i) from ⟨fun z => ⟨z.1, (h i z.1).mp z.2⟩, fun z => ⟨z.1, (h i z.1).mpr z.2⟩⟩), ag_sk h k (i + 1)]
section AGS
variable {t t' : Nat → Int32} {sz : Nat}
theorem ag_B (h : AG t t' sz) : ∀ j, j < sz → (isB t j ↔ isB t' j) := fun j hj => by unfold isB; rw [h j hj]
theorem ag_L (h : AG t t' sz) : ∀ j, j < sz → (isL t j ↔ isL t' j) := fun j hj => by unfold isL; rw [h j hj]
theorem ag_D (h : AG t t' sz) : ∀ j, j < sz → (isD t j ↔ isD t' j) := fun j hj => by unfold isD; rw [h j hj]
theorem ag_tb (h : AG t t' sz) (i : Nat) : tb t sz i = tb t' sz i := ag_sk (ag_B h) _ _
theorem ag_we (h : AG t t' sz) (i : Nat) : we t sz i = we t' sz i := by
  rw [we, we, ag_tb h i]
  exact ag_sk (ag_L h) _ _
theorem ag_dz (h : AG t t' sz) (i : Nat) : dz t sz i = dz t' sz i := by
  rw [dz, dz, ag_tb h i]
  exact ag_sk (ag_D h) _ _
theorem ag_tkP (h : AG t t' sz) (i : Nat) (c : Int32) : tkP t sz i c = tkP t' sz i c := by
  rw [tkP, tkP, ag_tb h i]
  exact propext ⟨fun z => ⟨z.1, by rw [← h _ z.1]; exact z.2⟩, fun z => ⟨z.1, by rw [h _ z.1]; exact z.2⟩⟩
theorem ag_tkN (h : AG t t' sz) (i : Nat) (c : Int32) : tkN t sz i c = tkN t' sz i c := by rw [tkN, tkN, ag_tkP h, ag_tb h]
theorem ag_tnP (h : AG t t' sz) (i : Nat) : tnP t sz i = tnP t' sz i := by rw [tnP, tnP, ag_dz h, ag_tb h]
theorem ag_tnN (h : AG t t' sz) (i : Nat) : tnN t sz i = tnN t' sz i := by rw [tnN, tnN, ag_tnP h, ag_dz h, ag_tb h]
theorem ag_nb (h : AG t t' sz) {a : Nat} : ∀ k, (∀ j, j < k → a + j < sz) → nb t a k = nb t' a k
  | 0, _ => rfl
  | k + 1, hk => by rw [nb, nb, ag_nb h k (fun j hj => hk j (by omega)), h (a + k) (hk k (by omega))]
theorem ag_tnV (h : AG t t' sz) {i : Nat} (hi : i ≤ sz) : tnV t sz i = tnV t' sz i := by
  have := dz_in (t := t') hi
  rw [tnV, tnV, ag_dz h, ag_tb h]
  exact ag_nb h _ (fun j hj => by omega)
theorem ag_dg (h : AG t t' sz) {a : Nat} : ∀ k, (∀ j, j < k → a + j < sz) → dg t a k = dg t' a k
  | 0, _ => rfl
  | k + 1, hk => by rw [dg, dg, ag_dg h k (fun j hj => hk j (by omega)), h (a + k) (hk k (by omega))]
theorem ag_wd (h : AG t t' sz) {i : Nat} (hi : i ≤ sz) : wd t sz i = wd t' sz i := by
  have := we_in (t := t') hi
  rw [wd, wd, ag_we h, ag_tb h, ag_dg h (we t' sz i - tb t' sz i) (fun j hj => by omega)]
theorem ag_stp (h : AG t t' sz) : ∀ (k i : Nat) (b : Int32), i ≤ sz → stp t sz k i b = stp t' sz k i b
  | 0, _, _, _ => rfl
  | k + 1, i, b, hi => by
    have h1 := tn_in (t := t') hi
    have h2 := tb_in (t := t') h1.2
    rw [stp, stp, ag_tnP h, ag_tnN h, ag_tnV h hi, ag_tb h, ag_stp h k _ _ h2.2,
      pB_congr (show (tb t' sz (tnN t' sz i) < sz ∧ isD t (tb t' sz (tnN t' sz i))) ↔ (tb t' sz (tnN t' sz i) < sz ∧ isD t' (tb t' sz (tnN t' sz i))) from ⟨fun z => ⟨z.1, (ag_D h _ z.1).mp z.2⟩, fun z => ⟨z.1, (ag_D h _ z.1).mpr z.2⟩⟩)]
theorem ag_itemS (h : AG t t' sz) {i : Nat} (r : zr) (hi : i ≤ sz) : itemS t sz i r = itemS t' sz i r := by
  have h1 := we_in (t := t') hi
  rw [itemS, itemS, ag_wd h hi, ag_tb h, ag_we h, ag_tnP h, ag_tnN h, ag_tnV h h1.2.2, ag_tkP h, ag_tkN h, ag_stp h 601 _ _ h1.2.2, ag_tkP h, ag_tkN h]
theorem ag_itB (h : AG t t' sz) : ∀ (k i : Nat) (r : zr), i ≤ sz → itB t sz k i r = itB t' sz k i r
  | 0, _, _, _ => rfl
  | k + 1, i, r, hi => by
    have h1 := itemS_in (t := t') r hi
    have h2 := tk_in (t := t') 125 h1.2.1
    rw [itB, itB, ag_itemS h r hi, ag_tkP h, ag_tkN h, ag_itB h k _ _ h2.2]
theorem ag_itA (h : AG t t' sz) {i : Nat} (r : zr) (hi : i ≤ sz) : itA t sz i r = itA t' sz i r := by
  have h2 := tk_in (t := t') 125 hi
  rw [itA, itA, ag_tkP h, ag_tkN h, ag_itB h 601 _ _ h2.2]
theorem ag_zoS (h : AG t t' sz) : ∀ (k i m : Nat) (zs : Nat → zr), i ≤ sz → zoS t sz k i m zs = zoS t' sz k i m zs
  | 0, _, _, _, _ => rfl
  | k + 1, i, m, zs, hi => by
    have h1 := we_in (t := t') hi
    have h2 := tk_in (t := t') 123 h1.2.2
    have h3 := itA_in (t := t') zr0 h2.2
    have h4 := tb_in (t := t') h3.2
    rw [zoS, zoS, ag_wd h hi, ag_we h, ag_tkP h, ag_tkN h, ag_itA h zr0 h2.2, ag_tb h, ag_zoS h k _ _ _ h4.2, ag_tb h]
theorem ag_adX (h : AG t t' sz) : adX t sz = adX t' sz := by
  rw [adX, adX, ag_tb h]
  exact ag_zoS h 601 _ 0 _ (tb_in (Nat.zero_le sz)).2
end AGS
/-! ===== choices and counts ===== -/
theorem bst_cg {P P' : Nat → Prop} {fr fr' : Nat → Int32} : ∀ n, (∀ i, i < n → (P i ↔ P' i)) → (∀ i, i < n → fr i = fr' i) → bst P fr n = bst P' fr' n
  | 0, _, _ => rfl
  | n + 1, h1, h2 => by
    have ih := bst_cg n (fun i hi => h1 i (by omega)) (fun i hi => h2 i (by omega))
    rw [bst, bst, ih, pB_congr (show (P n ∧ ∀ j, bst P' fr' n = some j → fr j ≤ fr n) ↔ (P' n ∧ ∀ j, bst P' fr' n = some j → fr' j ≤ fr' n) from
      ⟨fun z => ⟨(h1 n (by omega)).mp z.1, fun j hj => by have hj2 := (bst_some hj).1; rw [← h2 j (by omega), ← h2 n (by omega)]; exact z.2 j hj⟩,
       fun z => ⟨(h1 n (by omega)).mpr z.1, fun j hj => by have hj2 := (bst_some hj).1; rw [h2 j (by omega), h2 n (by omega)]; exact z.2 j hj⟩⟩)]
theorem fst_cg {P P' : Nat → Prop} : ∀ n, (∀ i, i < n → (P i ↔ P' i)) → fst P n = fst P' n
  | 0, _ => rfl
  | n + 1, h1 => by rw [fst, fst, fst_cg n (fun i hi => h1 i (by omega)), pB_congr (h1 n (by omega))]
theorem cnt_cg {P P' : Nat → Prop} : ∀ n, (∀ i, i < n → (P i ↔ P' i)) → cntI P n = cntI P' n
  | 0, _ => rfl
  | n + 1, h1 => by rw [cntI, cntI, cnt_cg n (fun i hi => h1 i (by omega)), pB_congr (h1 n (by omega))]
/-! ===== bits ===== -/
theorem bit_a (x a : Int32) (k : Nat) (hk : k < 32) (ha : a.toBitVec = BitVec.twoPow 32 k) : (x &&& a = 0) ↔ x.toBitVec.getLsbD k = false := by
  rw [← Int32.toBitVec_inj, Int32.toBitVec_and, ha, BitVec.and_twoPow]
  cases h : x.toBitVec.getLsbD k with
  | true =>
    simp only [if_true]
    constructor
    · intro z
      have := congrArg (fun y => BitVec.getLsbD y k) z
      simp [BitVec.getLsbD_twoPow, hk] at this
    · intro z
      cases z
  | false => exact ⟨fun _ => rfl, fun _ => rfl⟩
theorem bit_v (x y : Int32) (k : Nat) (hk : k < 32) (hy : y.toBitVec = x.toBitVec.sshiftRight k) : y &&& 1 = if x.toBitVec.getLsbD k = true then 1 else 0 := by
  rw [← Int32.toBitVec_inj, Int32.toBitVec_and, hy]
  show x.toBitVec.sshiftRight k &&& 1#32 = _
  rw [BitVec.and_one_eq_setWidth_ofBool_getLsbD]
  have e : (x.toBitVec.sshiftRight k).getLsbD 0 = x.toBitVec.getLsbD k := by
    rw [BitVec.getLsbD_sshiftRight]
    simp [hk]
  rw [e]
  cases x.toBitVec.getLsbD k <;> rfl
theorem btO_is {r : Nat} (hr : r < 16) : (btO (nI r)).toBitVec = BitVec.twoPow 32 r := by
  have k : ∀ r, r < 16 → ((1 : Int32) <<< (nI r &&& 31)).toBitVec = BitVec.twoPow 32 r := by decide
  rw [btO, pB_t (show md_in (nI r) 0 15 from ⟨i_nlt.mp (nI_pos (by omega)), (nI_leI (b := 15) (by omega) (by omega)).mpr (by omega)⟩)]
  exact k r hr
theorem shr_is {r : Nat} (hr : r < 16) (x : Int32) : (x >>> (nI r &&& 31)).toBitVec = x.toBitVec.sshiftRight r := by
  have : r = 0 ∨ r = 1 ∨ r = 2 ∨ r = 3 ∨ r = 4 ∨ r = 5 ∨ r = 6 ∨ r = 7 ∨ r = 8 ∨ r = 9 ∨ r = 10 ∨ r = 11 ∨ r = 12 ∨ r = 13 ∨ r = 14 ∨ r = 15 := by omega
  rcases this with rfl | rfl | rfl | rfl | rfl | rfl | rfl | rfl | rfl | rfl | rfl | rfl | rfl | rfl | rfl | rfl <;> rfl
theorem bit_z {x : Int32} {r : Nat} (hr : r < 16) : (¬ x &&& btO (nI r) = 0) ↔ zbit x (nI r) := by
  rw [bit_a x _ r (by omega) (btO_is hr), zbit, bit_v x _ r (by omega) (shr_is hr x)]
  cases x.toBitVec.getLsbD r <;> decide
theorem bit_n {x : Int32} {r : Nat} (hr : r < 16) : (x >>> (nI r &&& 31) &&& 1 = 0) ↔ x &&& btO (nI r) = 0 := by
  rw [bit_a x _ r (by omega) (btO_is hr), bit_v x _ r (by omega) (shr_is hr x)]
  cases x.toBitVec.getLsbD r <;> decide
theorem bit_i {x : Int32} {r : Nat} (hr : r < 16) : (if pB (¬ x &&& btO (nI r) = 0) then (1 : Int32) else 0) = x >>> (nI r &&& 31) &&& 1 := by
  rw [bit_v x _ r (by omega) (shr_is hr x)]
  by_cases h : x &&& btO (nI r) = 0
  · rw [pB_f (fun z => z h), (bit_a x _ r (by omega) (btO_is hr)).mp h]
  · rw [pB_t h]
    have h2 : x.toBitVec.getLsbD r = true := by
      cases hb0 : x.toBitVec.getLsbD r with
      | true => rfl
      | false => exact absurd ((bit_a x _ r (by omega) (btO_is hr)).mpr hb0) h
    rw [h2]
theorem bit_or {x : Int32} {r s : Nat} (hr : r < 16) (hs : s < 16) : ((x ||| btO (nI r)) &&& btO (nI s) = 0) ↔ (x &&& btO (nI s) = 0 ∧ r ≠ s) := by
  rw [bit_a _ _ s (by omega) (btO_is hs), bit_a x _ s (by omega) (btO_is hs), Int32.toBitVec_or, BitVec.getLsbD_or, btO_is hr, BitVec.getLsbD_twoPow]
  by_cases e : r = s
  · subst e
    simp [show r < 32 by omega]
  · simp [e]
