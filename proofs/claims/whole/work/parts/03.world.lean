/-! an abstract world: every object and array that the system ever holds, by a fixed number; what stands in it as whole numbers -/
abbrev AV : Type := Int ⊕ (Int ⊕ (Nat ⊕ Option Nat))
abbrev vI (z : Int) : AV := Sum.inl z
abbrev vL (z : Int) : AV := Sum.inr (Sum.inl z)
abbrev vR (k : Nat) : AV := Sum.inr (Sum.inr (Sum.inl k))
/-- null, or a cell outside the world -/
abbrev vX (v : Option Nat) : AV := Sum.inr (Sum.inr (Sum.inr v))
abbrev Wd : Type := Nat → Int → Int
def up (σ : Wd) (k : Nat) (i x : Int) : Wd := fun a b => if a = k ∧ b = i then x else σ a b
def inR (z : Int) : Prop := -2147483648 ≤ z ∧ z < 2147483648
def inL (z : Int) : Prop := -9223372036854775808 ≤ z ∧ z < 9223372036854775808
def R32 (σ : Wd) : Prop := ∀ k i, inR (σ k i)
abbrev GE : Type := va_G × (ClassId × (ClassId × (ClassId × (Nat → Nat))))
def gD (G : GE) : va_G := G.1
def gI (G : GE) : ClassId := G.2.1
def gC (G : GE) : ClassId := G.2.2.1
def gS (G : GE) : ClassId := G.2.2.2.1
def gA (G : GE) : Nat → Nat := G.2.2.2.2
def cv (G : GE) : AV → Value
  | .inl z => .int (Int32.ofInt z)
  | .inr (.inl z) => .long (Int64.ofInt z)
  | .inr (.inr (.inl k)) => .ref (gA G k)
  | .inr (.inr (.inr none)) => .null
  | .inr (.inr (.inr (some b))) => .ref b
def avc : AV → Nat
  | .inl _ => 1
  | .inr (.inl _) => 2
  | .inr (.inr (.inl _)) => 1
  | .inr (.inr (.inr _)) => 1
theorem cv_cat (G : GE) (a : AV) : (cv G a).category = avc a := by
  rcases a with z | z | k | (_ | b) <;> rfl
theorem cv_cats (G : GE) (st : List AV) : ((st.map (cv G)).map fun v => v.category) = st.map avc := by
  rw [List.map_map]; exact List.map_congr_left (fun a _ => cv_cat G a)
def kdL : List Nat := [8, 2, 2200, 6, 1004, 5, 1005, 1008, 1008, 1008, 1008, 1012, 5, 1005, 1008, 1008, 1008, 1008, 1012, 7, 1005, 1005, 1008, 1008, 7, 1005, 1005, 1008, 1008, 4, 3000, 7, 1005, 1005, 1008, 1008, 7, 1005, 1005, 1008, 1008, 7, 1005, 1005, 1008, 1008, 7, 1005, 1005, 1008, 1008, 7, 1005, 1005, 1008, 1008, 7, 1005, 1005, 1008, 1008, 7, 1005, 1005, 1008, 1008, 7, 1005, 1005, 1008, 1008, 4, 3000, 7, 1005, 1005, 1008, 1008, 7, 1005, 1005, 1008, 1008, 7, 1005, 1005, 1008, 1008, 7, 1005, 1005, 1008, 1008, 7, 1005, 1005, 1008, 1008, 7, 1005, 1005, 1008, 1008, 7, 1005, 1005, 1008, 1008, 7, 1005, 1005, 1008, 1008, 3, 1006, 1006, 1006, 0, 1008, 1008, 1256, 1256, 1, 1008, 1005, 1005, 1108, 1008, 9, 1012, 1008, 1008, 1008, 1005, 1005, 1008, 1008, 1006, 1006, 1006, 1200, 1005, 1032, 1012, 1224, 1028, 1008, 1008, 1256, 1056]
def kd (k : Nat) : Nat := kdL.getD k 9998
def NO : Nat := 150
def flL : List (List Nat) := [[1, 2, 3, 4, 0, 0], [1, 2, 3, 4, 5, 0, 0, 0], [1, 0], [1, 2, 3, 0], [1, 0, 0], [0, 1, 0, 2, 3, 4, 5, 0, 6, 0, 0], [1, 0], [0, 0, 1, 2, 3, 4], [1, 3, 9999, 9999, 19, 24, 29, 71, 113, 117, 122], [0, 0, 0, 0, 1, 2, 3, 4, 0, 0, 5, 6, 7, 8, 0, 9, 10, 11, 12, 0, 0, 0, 0, 0, 0, 0, 13, 14, 15, 0, 16, 0, 17, 0, 18, 19, 20, 21, 0]]
def flds (ci : Nat) : List Nat := flL.getD ci []
def fvl (G : GE) (σ : Wd) (k j d : Nat) : Value := if d = 0 then .int (Int32.ofInt (σ k (j : Int))) else if d = 9999 then .ref (gA G (σ k (j : Int)).toNat) else .ref (gA G (k + d))
def fsl (G : GE) (σ : Wd) (k : Nat) : Nat → List Nat → List Value
  | _, [] => []
  | j, d :: r => fvl G σ k j d :: fsl G σ k (j + 1) r
def ent (G : GE) (σ : Wd) (k : Nat) : va_E :=
  if kd k < 1000 then .inr (kd k, fsl G σ k 0 (flds (kd k)))
  else if kd k < 2000 then .inl (gI G, kd k - 1000, .inl (fun j => Int32.ofInt (σ k (j : Int))))
  else if kd k < 3000 then .inl (gC G, kd k - 2000, .inl (fun j => Int32.ofInt (σ k (j : Int))))
  else .inl (gS G, 8, .inr (.inr (.inr (.inr (fun j => some (gA G (k + 1 + 5 * j)))))))
def wsO (G : GE) (σ : Wd) : va_W := (List.range NO).map (fun k => (gA G k, ent G σ k))
def tysO (G : GE) : List (ClassId × FieldType) := [(gI G, .int), (gC G, .char), (gS G, .object "ForgoneShop$Stand")]
def apart (G : GE) : Prop := ∀ i j, i < NO → j < NO → gA G i = gA G j → i = j
def AG (G : GE) : Nat → Prop := fun q => ∃ k, k < NO ∧ q = gA G k
def PK (G : GE) (U : State) : Prop := va_K (gD G) CL (tysO G) U ∧ ∀ wd ∈ nw, va_Nw wd U
theorem wsO_at (G : GE) (σ : Wd) {k : Nat} (hk : k < NO) : (wsO G σ)[k]? = some (gA G k, ent G σ k) := by
  simp [wsO, hk]
theorem wsO_set (G : GE) (σ σ' : Wd) {k : Nat} {e : va_E} (hk : k < NO) (h0 : ent G σ' k = e) (he : ∀ j, j ≠ k → ent G σ' j = ent G σ j) : (wsO G σ).set k (gA G k, e) = wsO G σ' := by
  subst h0
  apply List.ext_getElem?
  intro j
  rw [List.getElem?_set]
  by_cases hj : k = j
  · subst hj
    rw [if_pos rfl, wsO_at G σ' hk]
    simp [wsO, hk]
  · rw [if_neg hj]
    by_cases hn : j < NO
    · rw [wsO_at G σ hn, wsO_at G σ' hn, he j (fun h => hj h.symm)]
    · simp [wsO, hn]
theorem apart_D {G : GE} (h : apart G) (σ : Wd) : va_D (AG G) (wsO G σ) := by
  constructor
  · intro i j p q hp hq hpq
    have hi : i < NO := by
      have := (List.getElem?_eq_some_iff.mp hp).1
      simpa [wsO] using this
    have hj : j < NO := by
      have := (List.getElem?_eq_some_iff.mp hq).1
      simpa [wsO] using this
    rw [wsO_at G σ hi] at hp
    rw [wsO_at G σ hj] at hq
    cases hp; cases hq
    exact h i j hi hj hpq
  · intro k q hq
    have hk : k < NO := by
      have := (List.getElem?_eq_some_iff.mp hq).1
      simpa [wsO] using this
    rw [wsO_at G σ hk] at hq
    cases hq
    exact ⟨k, hk, rfl⟩
theorem kd_lt {k n : Nat} (h : kd k = n) (hn : n < 9998) : k < NO := by
  by_cases hk : k < NO
  · exact hk
  · have : kd k = 9998 := by
      unfold kd
      rw [List.getD_eq_getElem?_getD, List.getElem?_eq_none (show kdL.length ≤ k from Nat.le_trans (show kdL.length ≤ NO by decide +kernel) (Nat.not_lt.mp hk))]
      rfl
    omega
theorem fsl_at (G : GE) (σ : Wd) (k : Nat) : ∀ (l : List Nat) (j0 j d : Nat), l[j]? = some d → (fsl G σ k j0 l)[j]? = some (fvl G σ k (j0 + j) d)
  | [], _, _, _, h => by simp at h
  | a :: r, j0, 0, d, h => by
    simp at h; subst h; rfl
  | a :: r, j0, j + 1, d, h => by
    have h1 : r[j]? = some d := by simpa using h
    have h2 := fsl_at G σ k r (j0 + 1) j d h1
    show (fsl G σ k (j0 + 1) r)[j]? = _
    rw [h2]; congr 2; omega
theorem fsl_len (G : GE) (σ : Wd) (k : Nat) : ∀ (l : List Nat) (j0 : Nat), (fsl G σ k j0 l).length = l.length
  | [], _ => rfl
  | _ :: r, j0 => by show (fsl G σ k (j0 + 1) r).length + 1 = _; rw [fsl_len G σ k r]; rfl
theorem fvl_up (G : GE) (σ : Wd) (k : Nat) (i x : Int) (k2 j d : Nat) (h : k2 ≠ k ∨ (j : Int) ≠ i) : fvl G (up σ k i x) k2 j d = fvl G σ k2 j d := by
  have e : up σ k i x k2 (j : Int) = σ k2 (j : Int) := by
    unfold up
    rw [if_neg]
    rintro ⟨h1, h2⟩
    rcases h with h | h
    · exact h h1
    · exact h h2
  unfold fvl
  rw [e]
theorem fsl_up_ne (G : GE) (σ : Wd) (k : Nat) (i x : Int) (k2 : Nat) (h : k2 ≠ k) : ∀ (l : List Nat) (j0 : Nat), fsl G (up σ k i x) k2 j0 l = fsl G σ k2 j0 l
  | [], _ => rfl
  | d :: r, j0 => by
    show fvl _ _ _ _ _ :: _ = fvl _ _ _ _ _ :: _
    rw [fvl_up G σ k i x k2 j0 d (Or.inl h), fsl_up_ne G σ k i x k2 h r (j0 + 1)]
theorem fsl_up_lt (G : GE) (σ : Wd) (k : Nat) (i x : Int) : ∀ (l : List Nat) (j0 : Nat), i < (j0 : Int) → fsl G (up σ k i x) k j0 l = fsl G σ k j0 l
  | [], _, _ => rfl
  | d :: r, j0, h => by
    show fvl _ _ _ _ _ :: _ = fvl _ _ _ _ _ :: _
    rw [fvl_up G σ k i x k j0 d (Or.inr (by omega)), fsl_up_lt G σ k i x r (j0 + 1) (by omega)]
theorem fsl_up (G : GE) (σ : Wd) (k : Nat) (x : Int) : ∀ (l : List Nat) (j0 j d : Nat), l[j]? = some d → fsl G (up σ k ((j0 + j : Nat) : Int) x) k j0 l = (fsl G σ k j0 l).set j (fvl G (up σ k ((j0 + j : Nat) : Int) x) k (j0 + j) d)
  | [], _, _, _, h => by simp at h
  | a :: r, j0, 0, d, h => by
    simp at h; subst h
    show fvl _ _ _ _ _ :: _ = fvl _ _ _ _ _ :: _
    rw [fsl_up_lt G σ k _ x r (j0 + 1) (by omega)]
    try rfl
  | a :: r, j0, j + 1, d, h => by
    have h1 : r[j]? = some d := by simpa using h
    have h2 := fsl_up G σ k x r (j0 + 1) j d h1
    have e : j0 + 1 + j = j0 + (j + 1) := by omega
    rw [e] at h2
    show fvl _ _ _ _ _ :: _ = fvl _ _ _ _ _ :: _
    rw [fvl_up G σ k _ x k j0 a (Or.inr (by omega)), h2]
    try rfl
theorem ent_up_ne (G : GE) (σ : Wd) (k : Nat) (i x : Int) (j : Nat) (h : j ≠ k) : ent G (up σ k i x) j = ent G σ j := by
  have e : ∀ b, up σ k i x j b = σ j b := fun b => by
    unfold up; rw [if_neg]; exact fun q => h q.1
  unfold ent
  rw [fsl_up_ne G σ k i x j h]
  simp only [e]
theorem up_R {σ : Wd} {k : Nat} {i x : Int} (h : R32 σ) (hx : inR x) : R32 (up σ k i x) := by
  intro a b
  unfold up
  split
  · exact hx
  · exact h a b
/-! whole numbers and the machine's -/
theorem oi_toInt {z : Int} (h : inR z) : (Int32.ofInt z).toInt = z := Int32.toInt_ofInt_of_le (by have := h.1; omega) (by have := h.2; omega)
theorem oi_toIntL {z : Int} (h : inL z) : (Int64.ofInt z).toInt = z := Int64.toInt_ofInt_of_le (by have := h.1; omega) (by have := h.2; omega)
theorem oi_lt {a b : Int} (ha : inR a) (hb : inR b) : Int32.ofInt a < Int32.ofInt b ↔ a < b := by rw [Int32.lt_iff_toInt_lt, oi_toInt ha, oi_toInt hb]
theorem oi_le {a b : Int} (ha : inR a) (hb : inR b) : Int32.ofInt a ≤ Int32.ofInt b ↔ a ≤ b := by rw [Int32.le_iff_toInt_le, oi_toInt ha, oi_toInt hb]
theorem oi_eq {a b : Int} (ha : inR a) (hb : inR b) : Int32.ofInt a = Int32.ofInt b ↔ a = b := by rw [← Int32.toInt_inj, oi_toInt ha, oi_toInt hb]
theorem oi_0 : Int32.ofInt 0 = 0 := rfl
theorem oi_ltL {a b : Int} (ha : inL a) (hb : inL b) : Int64.ofInt a < Int64.ofInt b ↔ a < b := by rw [Int64.lt_iff_toInt_lt, oi_toIntL ha, oi_toIntL hb]
theorem oi_eqL {a b : Int} (ha : inL a) (hb : inL b) : Int64.ofInt a = Int64.ofInt b ↔ a = b := by rw [← Int64.toInt_inj, oi_toIntL ha, oi_toIntL hb]
theorem oi_nat {i : Int} (h0 : 0 ≤ i) (h : inR i) : (Int32.ofInt i).toNatClampNeg = i.toNat := by
  unfold Int32.toNatClampNeg
  first | (show (Int32.ofInt i).toInt.toNat = _; rw [oi_toInt h]) | (rw [oi_toInt h])
theorem oi_in {i : Int} {n : Nat} (h0 : 0 ≤ i) (hn : i < n) (hb : n < 2147483648) : vp_in (Int32.ofInt i) n := by
  have hR : inR i := ⟨by omega, by omega⟩
  rw [vp_in_iff, oi_toInt hR]; exact ⟨h0, hn⟩
theorem R0 : inR 0 := ⟨by decide, by decide⟩
theorem oi_of (x : Int32) : Int32.ofInt x.toInt = x := Int32.ofInt_toInt x
theorem oi_R (x : Int32) : inR x.toInt := ⟨Int32.le_toInt x, Int32.toInt_lt x⟩
theorem oi_nI (n : Nat) : Int32.ofInt (n : Int) = nI n := Int32.ofInt_eq_ofNat
theorem oi_lN (n : Nat) : Int64.ofInt (n : Int) = lN n := Int64.ofInt_eq_ofNat
theorem oi_ne {b : Int} (h : inR b) (h0 : b ≠ 0) : ¬ Int32.ofInt b = 0 := fun q => h0 ((oi_eq h R0).mp q)
theorem oi_neL {b : Int} (h : inL b) (h0 : b ≠ 0) : ¬ Int64.ofInt b = 0 := fun q => h0 ((oi_eqL h ⟨by decide, by decide⟩).mp q)
theorem oi_div {a b : Int} (ha : inR a) (hb : inR b) (h0 : 0 ≤ a) (h1 : 0 < b) : Int32.ofInt a / Int32.ofInt b = Int32.ofInt (a / b) := by
  obtain ⟨x, rfl⟩ := Int.eq_ofNat_of_zero_le h0
  obtain ⟨y, rfl⟩ := Int.eq_ofNat_of_zero_le (Int.le_of_lt h1)
  obtain ⟨-, ha⟩ := ha; obtain ⟨-, hb⟩ := hb
  rw [oi_nI, oi_nI, pk_div (by omega) (by omega) (by omega), ← oi_nI]; rfl
theorem oi_rem {a b : Int} (ha : inR a) (hb : inR b) (h0 : 0 ≤ a) (h1 : 0 < b) : Int32.ofInt a - Int32.ofInt a / Int32.ofInt b * Int32.ofInt b = Int32.ofInt (a % b) := by
  obtain ⟨x, rfl⟩ := Int.eq_ofNat_of_zero_le h0
  obtain ⟨y, rfl⟩ := Int.eq_ofNat_of_zero_le (Int.le_of_lt h1)
  obtain ⟨-, ha⟩ := ha; obtain ⟨-, hb⟩ := hb
  rw [oi_nI, oi_nI, pk_rem (by omega) (by omega) (by omega), ← oi_nI]; rfl
theorem oi_divL {a b : Int} (ha : inL a) (hb : inL b) (h0 : 0 ≤ a) (h1 : 0 < b) : Int64.ofInt a / Int64.ofInt b = Int64.ofInt (a / b) := by
  obtain ⟨x, rfl⟩ := Int.eq_ofNat_of_zero_le h0
  obtain ⟨y, rfl⟩ := Int.eq_ofNat_of_zero_le (Int.le_of_lt h1)
  obtain ⟨-, ha⟩ := ha; obtain ⟨-, hb⟩ := hb
  rw [oi_lN, oi_lN, pk_lDiv (by omega) (by omega) (by omega), ← oi_lN]; rfl
theorem oi_remL {a b : Int} (ha : inL a) (hb : inL b) (h0 : 0 ≤ a) (h1 : 0 < b) : Int64.ofInt a - Int64.ofInt a / Int64.ofInt b * Int64.ofInt b = Int64.ofInt (a % b) := by
  obtain ⟨x, rfl⟩ := Int.eq_ofNat_of_zero_le h0
  obtain ⟨y, rfl⟩ := Int.eq_ofNat_of_zero_le (Int.le_of_lt h1)
  obtain ⟨-, ha⟩ := ha; obtain ⟨-, hb⟩ := hb
  rw [oi_lN, oi_lN, pk_lRem (by omega) (by omega) (by omega), ← oi_lN]; rfl
theorem oi_bv {a : Int} (h0 : 0 ≤ a) (h : inR a) : (Int32.ofInt a).toBitVec = BitVec.ofNat 32 a.toNat := by
  obtain ⟨x, rfl⟩ := Int.eq_ofNat_of_zero_le h0
  rw [oi_nI]; rfl
theorem oi_and {a b : Int} (ha : inR a) (hb : inR b) (ha0 : 0 ≤ a) (hb0 : 0 ≤ b) : Int32.ofInt a &&& Int32.ofInt b = Int32.ofInt ((a.toNat &&& b.toNat : Nat) : Int) := by
  apply Int32.toBitVec_inj.mp
  rw [Int32.toBitVec_and, oi_bv ha0 ha, oi_bv hb0 hb, oi_nI]
  show _ = BitVec.ofNat 32 _
  apply BitVec.eq_of_toNat_eq
  simp only [BitVec.toNat_and, BitVec.toNat_ofNat]
  rw [Nat.and_mod_two_pow]
theorem oi_or {a b : Int} (ha : inR a) (hb : inR b) (ha0 : 0 ≤ a) (hb0 : 0 ≤ b) : Int32.ofInt a ||| Int32.ofInt b = Int32.ofInt ((a.toNat ||| b.toNat : Nat) : Int) := by
  apply Int32.toBitVec_inj.mp
  rw [Int32.toBitVec_or, oi_bv ha0 ha, oi_bv hb0 hb, oi_nI]
  show _ = BitVec.ofNat 32 _
  apply BitVec.eq_of_toNat_eq
  simp only [BitVec.toNat_or, BitVec.toNat_ofNat]
  rw [Nat.or_mod_two_pow]
theorem oi_not (a : Int) : Int32.ofInt a ^^^ Int32.ofInt (-1) = Int32.ofInt (-1 - a) := by
  apply Int32.toBitVec_inj.mp
  rw [Int32.toBitVec_xor]
  show BitVec.ofInt 32 a ^^^ BitVec.ofInt 32 (-1) = BitVec.ofInt 32 (-1 - a)
  have e : BitVec.ofInt 32 (-1) = BitVec.allOnes 32 := by decide
  rw [e, BitVec.xor_allOnes]
  apply BitVec.eq_of_toInt_eq
  rw [BitVec.not_eq_neg_add, BitVec.toInt_sub, BitVec.toInt_neg, BitVec.toInt_ofInt, BitVec.toInt_ofInt]
  simp
  rw [show -1 - a = -a - 1 by omega]
theorem oi_andn {a b : Int} (ha : inR a) (hb : inR b) (ha0 : 0 ≤ a) (hb0 : 0 ≤ b) : Int32.ofInt a &&& Int32.ofInt (-1 - b) = Int32.ofInt ((a.toNat - (a.toNat &&& b.toNat) : Nat) : Int) := by
  rw [← oi_not]
  apply Int32.toBitVec_inj.mp
  rw [Int32.toBitVec_and, Int32.toBitVec_xor, oi_bv ha0 ha, oi_bv hb0 hb, oi_nI]
  have e : (Int32.ofInt (-1)).toBitVec = BitVec.allOnes 32 := by decide
  rw [e, BitVec.xor_allOnes]
  show _ = BitVec.ofNat 32 _
  obtain ⟨-, ha⟩ := ha; obtain ⟨-, hb⟩ := hb
  generalize hx : a.toNat = x
  generalize hy : b.toNat = y
  have hx2 : x < 2147483648 := by omega
  have hy2 : y < 2147483648 := by omega
  have eX : (BitVec.ofNat 32 x).toNat = x := by rw [BitVec.toNat_ofNat]; omega
  have eY : (BitVec.ofNat 32 y).toNat = y := by rw [BitVec.toNat_ofNat]; omega
  generalize BitVec.ofNat 32 x = X at eX ⊢
  generalize BitVec.ofNat 32 y = Y at eY ⊢
  have hz : (X &&& Y) &&& (X &&& ~~~Y) = 0#32 := by
    apply BitVec.eq_of_getLsbD_eq
    intro i hi
    simp only [BitVec.getLsbD_and, BitVec.getLsbD_not, BitVec.getLsbD_zero, hi, decide_true, Bool.true_and]
    cases X.getLsbD i <;> cases Y.getLsbD i <;> rfl
  have ho : (X &&& Y) ||| (X &&& ~~~Y) = X := by
    apply BitVec.eq_of_getLsbD_eq
    intro i hi
    simp only [BitVec.getLsbD_and, BitVec.getLsbD_or, BitVec.getLsbD_not, hi, decide_true, Bool.true_and]
    cases X.getLsbD i <;> cases Y.getLsbD i <;> rfl
  have hs := BitVec.add_eq_or_of_and_eq_zero _ _ hz
  rw [ho] at hs
  have h1 := congrArg BitVec.toNat hs
  rw [BitVec.toNat_add] at h1
  have hA : (X &&& Y).toNat = x &&& y := by rw [BitVec.toNat_and, eX, eY]
  have hA2 : (x &&& y) ≤ x := Nat.and_le_left
  have hB2 : (X &&& ~~~Y).toNat ≤ x := by rw [BitVec.toNat_and, eX]; exact Nat.and_le_left
  rw [hA, eX] at h1
  apply BitVec.eq_of_toNat_eq
  rw [BitVec.toNat_ofNat]
  omega
theorem oi_am : ∀ n : Fin 31, (((nI n.val) &&& 31).toBitVec.smod 32).toNat = n.val := by decide +kernel
theorem oi_shl {a t : Int} (ha0 : 0 ≤ a) (h0 : 0 ≤ t) (h1 : t < 31) (h2 : a * 2 ^ t.toNat < 2147483648) : Int32.ofInt a <<< (Int32.ofInt t &&& 31) = Int32.ofInt (a * 2 ^ t.toNat) := by
  obtain ⟨x, rfl⟩ := Int.eq_ofNat_of_zero_le ha0
  obtain ⟨y, rfl⟩ := Int.eq_ofNat_of_zero_le h0
  have h3 : x * 2 ^ y < 2147483648 := by
    have e : ((x : Int) * 2 ^ ((y : Int).toNat)) = ((x * 2 ^ y : Nat) : Int) := by rw [Int.toNat_natCast]; push_cast; rfl
    rw [e] at h2
    omega
  rw [oi_nI, oi_nI, pk_shlN _ y (oi_am ⟨y, by omega⟩) (by omega), ← oi_nI, Int.toNat_natCast]
  push_cast; rfl
theorem oi_shr {a t : Int} (ha : inR a) (ha0 : 0 ≤ a) (h0 : 0 ≤ t) (h1 : t < 31) : Int32.ofInt a >>> (Int32.ofInt t &&& 31) = Int32.ofInt (a / 2 ^ t.toNat) := by
  obtain ⟨x, rfl⟩ := Int.eq_ofNat_of_zero_le ha0
  obtain ⟨y, rfl⟩ := Int.eq_ofNat_of_zero_le h0
  obtain ⟨-, ha⟩ := ha
  rw [oi_nI, oi_nI, pk_shrN (by omega) _ y (oi_am ⟨y, by omega⟩), ← oi_nI, Int.toNat_natCast]
  push_cast; rfl
theorem oi_i2l {a : Int} (ha : inR a) : (Int32.ofInt a).toInt64 = Int64.ofInt a := by
  apply Int64.toInt_inj.mp
  obtain ⟨h1, h2⟩ := id ha
  rw [Int32.toInt_toInt64, oi_toInt ha, oi_toIntL ⟨by omega, by omega⟩]
theorem oi_l2i (a : Int) : (Int64.ofInt a).toInt32 = Int32.ofInt a := by
  first | exact Int64.toInt32_ofInt a | simp
theorem oi_i2c {a : Int} (h0 : 0 ≤ a) (h1 : a < 65536) : ((Int32.ofInt a).toUInt32 % 65536).toInt32 = Int32.ofInt a := by
  obtain ⟨x, rfl⟩ := Int.eq_ofNat_of_zero_le h0
  rw [pk_char, oi_nI, pk_tn (by omega), Nat.mod_eq_of_lt (by omega)]
theorem oi_nar {x : Int} (h0 : 0 ≤ x) (h1 : x < 65536) : vp_nar .char (Int32.ofInt x) = Int32.ofInt x := by
  rw [vp_nar_char]
  have := oi_i2c h0 h1
  obtain ⟨y, rfl⟩ := Int.eq_ofNat_of_zero_le h0
  have e := (pk_charN (q := y) (by omega)).1
  rw [oi_nI]
  have e2 := vp_nar_char (nI y)
  rw [← e2]
  unfold vp_nar
  rw [e]
theorem oi_narV {x : Int} (h0 : 0 ≤ x) (h1 : x < 65536) : narrow .char (.int (Int32.ofInt x)) = .int (Int32.ofInt x) := by
  obtain ⟨y, rfl⟩ := Int.eq_ofNat_of_zero_le h0
  rw [oi_nI]
  exact (pk_charN (by omega)).1
theorem oi_lcmp {a b : Int} (ha : inL a) (hb : inL b) : lg_cmp (Int64.ofInt a) (Int64.ofInt b) = Int32.ofInt (if b < a then 1 else if a = b then 0 else -1) := by
  unfold lg_cmp
  by_cases h : b < a
  · rw [if_pos h, if_pos (show Int64.ofInt a > Int64.ofInt b from (oi_ltL hb ha).mpr h)]; rfl
  · rw [if_neg h, if_neg (fun q => h ((oi_ltL hb ha).mp q))]
    by_cases h2 : a = b
    · rw [if_pos h2, if_pos (by rw [h2])]; rfl
    · rw [if_neg h2, if_neg (fun q => h2 ((oi_eqL ha hb).mp q))]; rfl
