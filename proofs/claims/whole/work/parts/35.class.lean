/-! the world of the class alone: what has been shown of the whole world, for its first 128 objects (written by a program out of the parts ahead) -/
def kdL_8 : List Nat := [8, 2, 2200, 6, 1004, 5, 1005, 1008, 1008, 1008, 1008, 1012, 5, 1005, 1008, 1008, 1008, 1008, 1012, 7, 1005, 1005, 1008, 1008, 7, 1005, 1005, 1008, 1008, 4, 3000, 7, 1005, 1005, 1008, 1008, 7, 1005, 1005, 1008, 1008, 7, 1005, 1005, 1008, 1008, 7, 1005, 1005, 1008, 1008, 7, 1005, 1005, 1008, 1008, 7, 1005, 1005, 1008, 1008, 7, 1005, 1005, 1008, 1008, 7, 1005, 1005, 1008, 1008, 4, 3000, 7, 1005, 1005, 1008, 1008, 7, 1005, 1005, 1008, 1008, 7, 1005, 1005, 1008, 1008, 7, 1005, 1005, 1008, 1008, 7, 1005, 1005, 1008, 1008, 7, 1005, 1005, 1008, 1008, 7, 1005, 1005, 1008, 1008, 7, 1005, 1005, 1008, 1008, 3, 1006, 1006, 1006, 0, 1008, 1008, 1256, 1256, 1, 1008, 1005, 1005, 1108, 1008]
def kd_8 (k : Nat) : Nat := kdL_8.getD k 9998
def NO_8 : Nat := 128
def ent_8 (G : GE) (σ : Wd) (k : Nat) : va_E :=
  if kd_8 k < 1000 then .inr (kd_8 k, fsl G σ k 0 (flds (kd_8 k)))
  else if kd_8 k < 2000 then .inl (gI G, kd_8 k - 1000, .inl (fun j => Int32.ofInt (σ k (j : Int))))
  else if kd_8 k < 3000 then .inl (gC G, kd_8 k - 2000, .inl (fun j => Int32.ofInt (σ k (j : Int))))
  else .inl (gS G, 8, .inr (.inr (.inr (.inr (fun j => some (gA G (k + 1 + 5 * j)))))))
def wsO_8 (G : GE) (σ : Wd) : va_W := (List.range NO_8).map (fun k => (gA G k, ent_8 G σ k))
def apart_8 (G : GE) : Prop := ∀ i j, i < NO_8 → j < NO_8 → gA G i = gA G j → i = j
def AG_8 (G : GE) : Nat → Prop := fun q => ∃ k, k < NO_8 ∧ q = gA G k
theorem wsO_at_8 (G : GE) (σ : Wd) {k : Nat} (hk : k < NO_8) : (wsO_8 G σ)[k]? = some (gA G k, ent_8 G σ k) := by
  simp [wsO_8, hk]
theorem wsO_set_8 (G : GE) (σ σ' : Wd) {k : Nat} {e : va_E} (hk : k < NO_8) (h0 : ent_8 G σ' k = e) (he : ∀ j, j ≠ k → ent_8 G σ' j = ent_8 G σ j) : (wsO_8 G σ).set k (gA G k, e) = wsO_8 G σ' := by
  subst h0
  apply List.ext_getElem?
  intro j
  rw [List.getElem?_set]
  by_cases hj : k = j
  · subst hj
    rw [if_pos rfl, wsO_at_8 G σ' hk]
    simp [wsO_8, hk]
  · rw [if_neg hj]
    by_cases hn : j < NO_8
    · rw [wsO_at_8 G σ hn, wsO_at_8 G σ' hn, he j (fun h => hj h.symm)]
    · simp [wsO_8, hn]
theorem apart_D_8 {G : GE} (h : apart_8 G) (σ : Wd) : va_D (AG_8 G) (wsO_8 G σ) := by
  constructor
  · intro i j p q hp hq hpq
    have hi : i < NO_8 := by
      have := (List.getElem?_eq_some_iff.mp hp).1
      simpa [wsO_8] using this
    have hj : j < NO_8 := by
      have := (List.getElem?_eq_some_iff.mp hq).1
      simpa [wsO_8] using this
    rw [wsO_at_8 G σ hi] at hp
    rw [wsO_at_8 G σ hj] at hq
    cases hp; cases hq
    exact h i j hi hj hpq
  · intro k q hq
    have hk : k < NO_8 := by
      have := (List.getElem?_eq_some_iff.mp hq).1
      simpa [wsO_8] using this
    rw [wsO_at_8 G σ hk] at hq
    cases hq
    exact ⟨k, hk, rfl⟩
theorem kd_lt_8 {k n : Nat} (h : kd_8 k = n) (hn : n < 9998) : k < NO_8 := by
  by_cases hk : k < NO_8
  · exact hk
  · have : kd_8 k = 9998 := by
      unfold kd_8
      rw [List.getD_eq_getElem?_getD, List.getElem?_eq_none (show kdL_8.length ≤ k from Nat.le_trans (show kdL_8.length ≤ NO_8 by decide +kernel) (Nat.not_lt.mp hk))]
      rfl
    omega
theorem ent_up_ne_8 (G : GE) (σ : Wd) (k : Nat) (i x : Int) (j : Nat) (h : j ≠ k) : ent_8 G (up σ k i x) j = ent_8 G σ j := by
  have e : ∀ b, up σ k i x j b = σ j b := fun b => by
    unfold up; rw [if_neg]; exact fun q => h q.1
  unfold ent_8
  rw [fsl_up_ne G σ k i x j h]
  simp only [e]
def V_8 (X : KX) (pc : Nat) (ls : List (Option AV)) (st : List AV) (σ : Wd) : Prop := match X with
  | (p, l, e, R, s, m, args, below, meth, c, G, nL, ck, sk, Q) => R32 σ → ∀ (H : Heap) (locs : List Loc) (sl : Array Slot), va_P (gD G) CL (wsO_8 G σ) H → va_S (AG_8 G) s.heap H locs → Lh G sl nL ls → W p l e R s m args below meth c H locs ck sk Q (F0 m pc sl (st.map (cv G)))
def Cx_8 (X : KX) (cc : ByteArray) (own : String) : Prop := match X with
  | (p, _, _, R, s, m, args, _, meth, c, G, nL, ck, sk, _) => p.tables.exec = Jvm.exec ∧ c.code = cc ∧ c.maxLocals = nL ∧ s.vm.findClass own = some m.cls ∧ meth.locks = false ∧ (∀ wd ∈ gw, wd.before args s = true) ∧ PK G s ∧ apart_8 G ∧ ck ≤ R.cells ∧ sk ≤ R.slots
def QcO_8 (G : GE) (fin : Option AV → Wd → Prop) : Array Value → State → Outcome → State → Prop := fun _ st oc t => (∃ r σ, oc = .returned (r.map (cv G)) ∧ fin r σ ∧ R32 σ ∧ va_P (gD G) CL (wsO_8 G σ) t.heap) ∧ va_F (AG_8 G) st t
def Ex_8 (X : KX) (ret : Option FieldType) (fin : Option AV → Wd → Prop) : Prop := match X with
  | (_, _, _, _, s, _, args, below, meth, _, G, _, ck, sk, Q) => meth.sig.returnType = ret ∧ Q = MQ below (QcO_8 G fin) args s ck sk (AG_8 G)
/-- a method's contract: from the world σ, with these arguments, it ends, with fin of the answer and the world behind it; nothing is made -/
def Ct_8 (l : Launch) (G : GE) (y : MethodName) (b : ByteArray) (nL : Nat) (ret : Option FieldType) (rF rL : Nat) (avs : List AV) (σ : Wd) (fin : Option AV → Wd → Prop) : Prop :=
  apart_8 G → R32 σ → Met l y (Cond.code y b nL ret :: gw) { frames := rF, cells := 0, slots := 0, locals := rL } (va_Pc (avs.map (cv G)) (fun U => va_P (gD G) CL (wsO_8 G σ) U.heap ∧ PK G U)) (QcO_8 G fin) 0 0 (AG_8 G)
section VR
variable {X : KX} {cc : ByteArray} {own : String} {pc : Nat} {ls : List (Option AV)} {st : List AV} {σ : Wd}
/-- the world's numbers are the machine's -/
theorem V_R_8 (k : R32 σ → V_8 X pc ls st σ) : V_8 X pc ls st σ := by
  obtain ⟨p, l, e, R, s, m, args, below, meth, c, G, nL, ck, sk, Q⟩ := X
  intro hR H locs sl hP hS hL
  exact k hR hR H locs sl hP hS hL
theorem V_eq_8 {ls' : List (Option AV)} {st' : List AV} {σ' : Wd} (k : V_8 X pc ls' st' σ') (h1 : ls = ls') (h2 : st = st') (h3 : σ = σ') : V_8 X pc ls st σ := by
  subst h1; subst h2; subst h3; exact k
theorem V_iconst_8 {n : Int} {n' : Int} (C : Cx_8 X cc own) (d : decode cc pc = .ok (.iconst n, 1))   (hn : n = n') (k : V_8 X (pc + 1) ls (vI n' :: st) σ) : V_8 X pc ls st σ := by
  obtain ⟨p, l, e, R, s, m, args, below, meth, c, G, nL, ck, sk, Q⟩ := X
  obtain ⟨hx, hb, hml, hown, hlk, hts, hPK, hap, hck, hsk⟩ := C
  intro hR H locs sl hP hS hL
  subst hn
  exact lv_iconst hx hb d rfl (k hR H locs sl hP hS hL)

theorem V_bipush_8 {n : Int} {n' : Int} (C : Cx_8 X cc own) (d : decode cc pc = .ok (.bipush n, 2))   (hn : (Int8.ofInt n).toInt32 = Int32.ofInt n') (k : V_8 X (pc + 2) ls (vI n' :: st) σ) : V_8 X pc ls st σ := by
  obtain ⟨p, l, e, R, s, m, args, below, meth, c, G, nL, ck, sk, Q⟩ := X
  obtain ⟨hx, hb, hml, hown, hlk, hts, hPK, hap, hck, hsk⟩ := C
  intro hR H locs sl hP hS hL
  exact lv_bipush hx hb d hn (k hR H locs sl hP hS hL)

theorem V_sipush_8 {n : Int} {n' : Int} (C : Cx_8 X cc own) (d : decode cc pc = .ok (.sipush n, 3))   (hn : (Int16.ofInt n).toInt32 = Int32.ofInt n') (k : V_8 X (pc + 3) ls (vI n' :: st) σ) : V_8 X pc ls st σ := by
  obtain ⟨p, l, e, R, s, m, args, below, meth, c, G, nL, ck, sk, Q⟩ := X
  obtain ⟨hx, hb, hml, hown, hlk, hts, hPK, hap, hck, hsk⟩ := C
  intro hR H locs sl hP hS hL
  exact lv_sipush hx hb d hn (k hR H locs sl hP hS hL)

theorem V_iload_n_8 {i : Fin 4} {z : Int} (C : Cx_8 X cc own) (d : decode cc pc = .ok (.iload_n i, 1))   (h : ls[(i : Nat)]? = some (some (vI z))) (k : V_8 X (pc + 1) ls (vI z :: st) σ) : V_8 X pc ls st σ := by
  obtain ⟨p, l, e, R, s, m, args, below, meth, c, G, nL, ck, sk, Q⟩ := X
  obtain ⟨hx, hb, hml, hown, hlk, hts, hPK, hap, hck, hsk⟩ := C
  intro hR H locs sl hP hS hL
  exact lv_iload_n hx hb d rfl (lv1 hL h) (k hR H locs sl hP hS hL)

theorem V_iload_8 {i : Nat} {z : Int} (C : Cx_8 X cc own) (d : decode cc pc = .ok (.iload i, 2))   (h : ls[i]? = some (some (vI z))) (k : V_8 X (pc + 2) ls (vI z :: st) σ) : V_8 X pc ls st σ := by
  obtain ⟨p, l, e, R, s, m, args, below, meth, c, G, nL, ck, sk, Q⟩ := X
  obtain ⟨hx, hb, hml, hown, hlk, hts, hPK, hap, hck, hsk⟩ := C
  intro hR H locs sl hP hS hL
  exact lv_iload hx hb d (lv1 hL h) (k hR H locs sl hP hS hL)

theorem V_aload_n_8 {i : Fin 4} {z : Nat} (C : Cx_8 X cc own) (d : decode cc pc = .ok (.aload_n i, 1))   (h : ls[(i : Nat)]? = some (some (vR z))) (k : V_8 X (pc + 1) ls (vR z :: st) σ) : V_8 X pc ls st σ := by
  obtain ⟨p, l, e, R, s, m, args, below, meth, c, G, nL, ck, sk, Q⟩ := X
  obtain ⟨hx, hb, hml, hown, hlk, hts, hPK, hap, hck, hsk⟩ := C
  intro hR H locs sl hP hS hL
  exact lv_aload_n hx hb d rfl (lv1 hL h) (k hR H locs sl hP hS hL)

theorem V_aload_8 {i : Nat} {z : Nat} (C : Cx_8 X cc own) (d : decode cc pc = .ok (.aload i, 2))   (h : ls[i]? = some (some (vR z))) (k : V_8 X (pc + 2) ls (vR z :: st) σ) : V_8 X pc ls st σ := by
  obtain ⟨p, l, e, R, s, m, args, below, meth, c, G, nL, ck, sk, Q⟩ := X
  obtain ⟨hx, hb, hml, hown, hlk, hts, hPK, hap, hck, hsk⟩ := C
  intro hR H locs sl hP hS hL
  exact lv_aload hx hb d (lv1 hL h) (k hR H locs sl hP hS hL)

theorem V_istore_n_8 {i : Fin 4} {z : Int} (C : Cx_8 X cc own) (d : decode cc pc = .ok (.istore_n i, 1))   (h : (i : Nat) < xN X) (k : V_8 X (pc + 1) (lst ls (i : Nat) (vI z)) st σ) : V_8 X pc ls (vI z :: st) σ := by
  obtain ⟨p, l, e, R, s, m, args, below, meth, c, G, nL, ck, sk, Q⟩ := X
  obtain ⟨hx, hb, hml, hown, hlk, hts, hPK, hap, hck, hsk⟩ := C
  intro hR H locs sl hP hS hL
  exact lv_istore_n hx hb d rfl hL.has h rfl (fun sl' h' => k hR H locs sl' hP hS (Lh.store1 (a := vI z) h'))

theorem V_istore_8 {i : Nat} {z : Int} (C : Cx_8 X cc own) (d : decode cc pc = .ok (.istore i, 2))   (h : i < xN X) (k : V_8 X (pc + 2) (lst ls i (vI z)) st σ) : V_8 X pc ls (vI z :: st) σ := by
  obtain ⟨p, l, e, R, s, m, args, below, meth, c, G, nL, ck, sk, Q⟩ := X
  obtain ⟨hx, hb, hml, hown, hlk, hts, hPK, hap, hck, hsk⟩ := C
  intro hR H locs sl hP hS hL
  exact lv_istore hx hb d hL.has h rfl (fun sl' h' => k hR H locs sl' hP hS (Lh.store1 (a := vI z) h'))

theorem V_astore_n_8 {i : Fin 4} {z : Nat} (C : Cx_8 X cc own) (d : decode cc pc = .ok (.astore_n i, 1))   (h : (i : Nat) < xN X) (k : V_8 X (pc + 1) (lst ls (i : Nat) (vR z)) st σ) : V_8 X pc ls (vR z :: st) σ := by
  obtain ⟨p, l, e, R, s, m, args, below, meth, c, G, nL, ck, sk, Q⟩ := X
  obtain ⟨hx, hb, hml, hown, hlk, hts, hPK, hap, hck, hsk⟩ := C
  intro hR H locs sl hP hS hL
  exact lv_astore_n hx hb d rfl hL.has h rfl (fun sl' h' => k hR H locs sl' hP hS (Lh.store1 (a := vR z) h'))

theorem V_iinc_8 (C : Cx_8 X cc own) {i : Nat} {n z : Int} (d : decode cc pc = .ok (.iinc i n, 3)) (h : i < xN X) (hi : ls[i]? = some (some (vI z))) (k : V_8 X (pc + 3) (lst ls i (vI (z + n))) st σ) : V_8 X pc ls st σ := by
  obtain ⟨p, l, e, R, s, m, args, below, meth, c, G, nL, ck, sk, Q⟩ := X
  obtain ⟨hx, hb, hml, hown, hlk, hts, hPK, hap, hck, hsk⟩ := C
  intro hR H locs sl hP hS hL
  obtain ⟨q, hq, hm⟩ := List.getElem_of_mem (prs_mem (G := G) hi)
  have hk : (prs G ls)[q]? = some (i, .int (Int32.ofInt z)) := by rw [List.getElem?_eq_getElem hq, hm]; rfl
  exact lv_iinc hx hb d hL.has hk rfl h rfl (fun sl' h' => k hR H locs sl' hP hS (Lh.store1 (a := vI (z + n)) (by rw [← Int32.ofInt_add] at h'; exact h')))

theorem V_iadd_8 {a b : Int} (C : Cx_8 X cc own) (d : decode cc pc = .ok (.iadd, 1))  (k : V_8 X (pc + 1) ls (vI (a + b) :: st) σ) : V_8 X pc ls (vI b :: vI a :: st) σ := by
  obtain ⟨p, l, e, R, s, m, args, below, meth, c, G, nL, ck, sk, Q⟩ := X
  obtain ⟨hx, hb, hml, hown, hlk, hts, hPK, hap, hck, hsk⟩ := C
  intro hR H locs sl hP hS hL
  refine lv_iadd hx hb d ?_
  rw [← Int32.ofInt_add]
  exact k hR H locs sl hP hS hL

theorem V_isub_8 {a b : Int} (C : Cx_8 X cc own) (d : decode cc pc = .ok (.isub, 1))  (k : V_8 X (pc + 1) ls (vI (a - b) :: st) σ) : V_8 X pc ls (vI b :: vI a :: st) σ := by
  obtain ⟨p, l, e, R, s, m, args, below, meth, c, G, nL, ck, sk, Q⟩ := X
  obtain ⟨hx, hb, hml, hown, hlk, hts, hPK, hap, hck, hsk⟩ := C
  intro hR H locs sl hP hS hL
  refine lv_isub hx hb d ?_
  rw [← Int32.ofInt_sub]
  exact k hR H locs sl hP hS hL

theorem V_imul_8 {a b : Int} (C : Cx_8 X cc own) (d : decode cc pc = .ok (.imul, 1))  (k : V_8 X (pc + 1) ls (vI (a * b) :: st) σ) : V_8 X pc ls (vI b :: vI a :: st) σ := by
  obtain ⟨p, l, e, R, s, m, args, below, meth, c, G, nL, ck, sk, Q⟩ := X
  obtain ⟨hx, hb, hml, hown, hlk, hts, hPK, hap, hck, hsk⟩ := C
  intro hR H locs sl hP hS hL
  refine lv_imul hx hb d ?_
  rw [← Int32.ofInt_mul]
  exact k hR H locs sl hP hS hL

theorem V_dupR_8 {z : Nat} (C : Cx_8 X cc own) (d : decode cc pc = .ok (.dup, 1))  (k : V_8 X (pc + 1) ls (vR z :: vR z :: st) σ) : V_8 X pc ls (vR z :: st) σ := by
  obtain ⟨p, l, e, R, s, m, args, below, meth, c, G, nL, ck, sk, Q⟩ := X
  obtain ⟨hx, hb, hml, hown, hlk, hts, hPK, hap, hck, hsk⟩ := C
  intro hR H locs sl hP hS hL
  exact lv_dup hx hb d rfl (k hR H locs sl hP hS hL)

theorem V_ifeq_8 (C : Cx_8 X cc own) {off : Int} (d : decode cc pc = .ok (.ifCond .eq off, 3)) (tgt : Nat) (ht : (pc : Int) + off = (tgt : Int)) {a : Int} (ha : inR a) (kt : (a = 0) → V_8 X tgt ls st σ) (kf : ¬ (a = 0) → V_8 X (pc + 3) ls st σ) : V_8 X pc ls (vI a :: st) σ := by
  obtain ⟨p, l, e, R, s, m, args, below, meth, c, G, nL, ck, sk, Q⟩ := X
  obtain ⟨hx, hb, hml, hown, hlk, hts, hPK, hap, hck, hsk⟩ := C
  intro hR H locs sl hP hS hL
  exact lv_if_eq hx hb d ht (fun h => kt ((oi_eq ha R0).mp h) hR H locs sl hP hS hL) (fun h => kf (fun q => h ((oi_eq ha R0).mpr q)) hR H locs sl hP hS hL)

theorem V_ifne_8 (C : Cx_8 X cc own) {off : Int} (d : decode cc pc = .ok (.ifCond .ne off, 3)) (tgt : Nat) (ht : (pc : Int) + off = (tgt : Int)) {a : Int} (ha : inR a) (kt : ¬ (a = 0) → V_8 X tgt ls st σ) (kf : (a = 0) → V_8 X (pc + 3) ls st σ) : V_8 X pc ls (vI a :: st) σ := by
  obtain ⟨p, l, e, R, s, m, args, below, meth, c, G, nL, ck, sk, Q⟩ := X
  obtain ⟨hx, hb, hml, hown, hlk, hts, hPK, hap, hck, hsk⟩ := C
  intro hR H locs sl hP hS hL
  exact lv_if_ne hx hb d ht (fun h => kt (fun q => h ((oi_eq ha R0).mpr q)) hR H locs sl hP hS hL) (fun h => kf ((oi_eq ha R0).mp h) hR H locs sl hP hS hL)

theorem V_iflt_8 (C : Cx_8 X cc own) {off : Int} (d : decode cc pc = .ok (.ifCond .lt off, 3)) (tgt : Nat) (ht : (pc : Int) + off = (tgt : Int)) {a : Int} (ha : inR a) (kt : (a < 0) → V_8 X tgt ls st σ) (kf : ¬ (a < 0) → V_8 X (pc + 3) ls st σ) : V_8 X pc ls (vI a :: st) σ := by
  obtain ⟨p, l, e, R, s, m, args, below, meth, c, G, nL, ck, sk, Q⟩ := X
  obtain ⟨hx, hb, hml, hown, hlk, hts, hPK, hap, hck, hsk⟩ := C
  intro hR H locs sl hP hS hL
  exact lv_if_lt hx hb d ht (fun h => kt ((oi_lt ha R0).mp h) hR H locs sl hP hS hL) (fun h => kf (fun q => h ((oi_lt ha R0).mpr q)) hR H locs sl hP hS hL)

theorem V_icmpeq_8 (C : Cx_8 X cc own) {off : Int} (d : decode cc pc = .ok (.if_icmp .eq off, 3)) (tgt : Nat) (ht : (pc : Int) + off = (tgt : Int)) {a b : Int} (ha : inR a) (hb1 : inR b) (kt : (a = b) → V_8 X tgt ls st σ) (kf : ¬ (a = b) → V_8 X (pc + 3) ls st σ) : V_8 X pc ls (vI b :: vI a :: st) σ := by
  obtain ⟨p, l, e, R, s, m, args, below, meth, c, G, nL, ck, sk, Q⟩ := X
  obtain ⟨hx, hb, hml, hown, hlk, hts, hPK, hap, hck, hsk⟩ := C
  intro hR H locs sl hP hS hL
  exact lv_icmp_eq hx hb d ht (fun h => kt ((oi_eq ha hb1).mp h) hR H locs sl hP hS hL) (fun h => kf (fun q => h ((oi_eq ha hb1).mpr q)) hR H locs sl hP hS hL)

theorem V_icmpne_8 (C : Cx_8 X cc own) {off : Int} (d : decode cc pc = .ok (.if_icmp .ne off, 3)) (tgt : Nat) (ht : (pc : Int) + off = (tgt : Int)) {a b : Int} (ha : inR a) (hb1 : inR b) (kt : ¬ (a = b) → V_8 X tgt ls st σ) (kf : (a = b) → V_8 X (pc + 3) ls st σ) : V_8 X pc ls (vI b :: vI a :: st) σ := by
  obtain ⟨p, l, e, R, s, m, args, below, meth, c, G, nL, ck, sk, Q⟩ := X
  obtain ⟨hx, hb, hml, hown, hlk, hts, hPK, hap, hck, hsk⟩ := C
  intro hR H locs sl hP hS hL
  exact lv_icmp_ne hx hb d ht (fun h => kt (fun q => h ((oi_eq ha hb1).mpr q)) hR H locs sl hP hS hL) (fun h => kf ((oi_eq ha hb1).mp h) hR H locs sl hP hS hL)

theorem V_icmplt_8 (C : Cx_8 X cc own) {off : Int} (d : decode cc pc = .ok (.if_icmp .lt off, 3)) (tgt : Nat) (ht : (pc : Int) + off = (tgt : Int)) {a b : Int} (ha : inR a) (hb1 : inR b) (kt : (a < b) → V_8 X tgt ls st σ) (kf : ¬ (a < b) → V_8 X (pc + 3) ls st σ) : V_8 X pc ls (vI b :: vI a :: st) σ := by
  obtain ⟨p, l, e, R, s, m, args, below, meth, c, G, nL, ck, sk, Q⟩ := X
  obtain ⟨hx, hb, hml, hown, hlk, hts, hPK, hap, hck, hsk⟩ := C
  intro hR H locs sl hP hS hL
  exact lv_icmp_lt hx hb d ht (fun h => kt ((oi_lt ha hb1).mp h) hR H locs sl hP hS hL) (fun h => kf (fun q => h ((oi_lt ha hb1).mpr q)) hR H locs sl hP hS hL)

theorem V_icmpge_8 (C : Cx_8 X cc own) {off : Int} (d : decode cc pc = .ok (.if_icmp .ge off, 3)) (tgt : Nat) (ht : (pc : Int) + off = (tgt : Int)) {a b : Int} (ha : inR a) (hb1 : inR b) (kt : (b ≤ a) → V_8 X tgt ls st σ) (kf : ¬ (b ≤ a) → V_8 X (pc + 3) ls st σ) : V_8 X pc ls (vI b :: vI a :: st) σ := by
  obtain ⟨p, l, e, R, s, m, args, below, meth, c, G, nL, ck, sk, Q⟩ := X
  obtain ⟨hx, hb, hml, hown, hlk, hts, hPK, hap, hck, hsk⟩ := C
  intro hR H locs sl hP hS hL
  exact lv_icmp_ge hx hb d ht (fun h => kt ((oi_le hb1 ha).mp h) hR H locs sl hP hS hL) (fun h => kf (fun q => h ((oi_le hb1 ha).mpr q)) hR H locs sl hP hS hL)

theorem V_icmpgt_8 (C : Cx_8 X cc own) {off : Int} (d : decode cc pc = .ok (.if_icmp .gt off, 3)) (tgt : Nat) (ht : (pc : Int) + off = (tgt : Int)) {a b : Int} (ha : inR a) (hb1 : inR b) (kt : (b < a) → V_8 X tgt ls st σ) (kf : ¬ (b < a) → V_8 X (pc + 3) ls st σ) : V_8 X pc ls (vI b :: vI a :: st) σ := by
  obtain ⟨p, l, e, R, s, m, args, below, meth, c, G, nL, ck, sk, Q⟩ := X
  obtain ⟨hx, hb, hml, hown, hlk, hts, hPK, hap, hck, hsk⟩ := C
  intro hR H locs sl hP hS hL
  exact lv_icmp_gt hx hb d ht (fun h => kt ((oi_lt hb1 ha).mp h) hR H locs sl hP hS hL) (fun h => kf (fun q => h ((oi_lt hb1 ha).mpr q)) hR H locs sl hP hS hL)

theorem V_icmple_8 (C : Cx_8 X cc own) {off : Int} (d : decode cc pc = .ok (.if_icmp .le off, 3)) (tgt : Nat) (ht : (pc : Int) + off = (tgt : Int)) {a b : Int} (ha : inR a) (hb1 : inR b) (kt : (a ≤ b) → V_8 X tgt ls st σ) (kf : ¬ (a ≤ b) → V_8 X (pc + 3) ls st σ) : V_8 X pc ls (vI b :: vI a :: st) σ := by
  obtain ⟨p, l, e, R, s, m, args, below, meth, c, G, nL, ck, sk, Q⟩ := X
  obtain ⟨hx, hb, hml, hown, hlk, hts, hPK, hap, hck, hsk⟩ := C
  intro hR H locs sl hP hS hL
  exact lv_icmp_le hx hb d ht (fun h => kt ((oi_le ha hb1).mp h) hR H locs sl hP hS hL) (fun h => kf (fun q => h ((oi_le ha hb1).mpr q)) hR H locs sl hP hS hL)

theorem V_goto_8 (C : Cx_8 X cc own) {off : Int} (d : decode cc pc = .ok (.goto off, 3)) (tgt : Nat) (ht : (pc : Int) + off = (tgt : Int)) (k : V_8 X tgt ls st σ) : V_8 X pc ls st σ := by
  obtain ⟨p, l, e, R, s, m, args, below, meth, c, G, nL, ck, sk, Q⟩ := X
  obtain ⟨hx, hb, hml, hown, hlk, hts, hPK, hap, hck, hsk⟩ := C
  intro hR H locs sl hP hS hL
  exact lv_goto hx hb d ht (k hR H locs sl hP hS hL)

theorem V_lookup_8 (C : Cx_8 X cc own) {dflt : Int} {ps : Array (Int × Int)} {len : Nat} {a : Int} (d : decode cc pc = .ok (.lookupswitch dflt ps, len)) (hp : (ps.toList.zip (ps.toList.drop 1)).all (fun (a, next) => a.1 < next.1) = true) (ha : inR a)
    (k : ∃ (off : Int) (tgt : Nat), Op.lookupswitch.offset ps.toList dflt a = off ∧ (pc : Int) + off = (tgt : Int) ∧ V_8 X tgt ls st σ) : V_8 X pc ls (vI a :: st) σ := by
  obtain ⟨p, l, e, R, s, m, args, below, meth, c, G, nL, ck, sk, Q⟩ := X
  obtain ⟨hx, hb, hml, hown, hlk, hts, hPK, hap, hck, hsk⟩ := C
  intro hR H locs sl hP hS hL
  obtain ⟨off, tgt, h1, h2, h3⟩ := k
  exact lv_lookup hx hb d hp (by rw [oi_toInt ha]; exact h1) h2 (h3 hR H locs sl hP hS hL)

theorem ent_obj_8 (G : GE) (σ : Wd) {o ci : Nat} (hk : kd_8 o = ci) (hc : ci < 1000) : ent_8 G σ o = .inr (ci, fsl G σ o 0 (flds ci)) := by
  unfold ent_8; rw [hk, if_pos hc]
theorem ent_int_8 (G : GE) (σ : Wd) {o n : Nat} (hk : kd_8 o = 1000 + n) (hn : n < 1000) : ent_8 G σ o = .inl (gI G, n, .inl (fun j => Int32.ofInt (σ o (j : Int)))) := by
  unfold ent_8; rw [hk, if_neg (by omega), if_pos (by omega), show 1000 + n - 1000 = n by omega]
theorem ent_chr_8 (G : GE) (σ : Wd) {o n : Nat} (hk : kd_8 o = 2000 + n) (hn : n < 1000) : ent_8 G σ o = .inl (gC G, n, .inl (fun j => Int32.ofInt (σ o (j : Int)))) := by
  unfold ent_8; rw [hk, if_neg (by omega), if_neg (by omega), if_pos (by omega), show 2000 + n - 2000 = n by omega]
theorem ent_ring_8 (G : GE) (σ : Wd) {o : Nat} (hk : kd_8 o = 3000) : ent_8 G σ o = .inl (gS G, 8, .inr (.inr (.inr (.inr (fun j => some (gA G (o + 1 + 5 * j))))))) := by
  unfold ent_8; rw [hk, if_neg (by omega), if_neg (by omega), if_neg (by omega)]
theorem V_getv_8 (C : Cx_8 X cc own) {index ci j dd o : Nat} (d : decode cc pc = .ok (.getfield index, 3)) (fl : FL own index ci j) (hk : kd_8 o = ci) (hc : ci < 1000) (hf : (flds ci)[j]? = some dd) {v : AV} (hv : ∀ G, fvl G σ o j dd = cv G v) (k : V_8 X (pc + 3) ls (v :: st) σ) : V_8 X pc ls (vR o :: st) σ := by
  obtain ⟨p, l, e, R, s, m, args, below, meth, c, G, nL, ck, sk, Q⟩ := X
  obtain ⟨hx, hb, hml, hown, hlk, hts, hPK, hap, hck, hsk⟩ := C
  intro hR H locs sl hP hS hL
  obtain ⟨Cn, Tn, N, ty, h1, h2, h3, h4, h5, h6⟩ := fl
  have hko : o < NO_8 := kd_lt_8 hk (by omega)
  have he : (wsO_8 G σ)[o]? = some (gA G o, .inr (ci, fsl G σ o 0 (flds ci))) := by rw [wsO_at_8 G σ hko, ent_obj_8 G σ hk hc]
  have hfs : (fsl G σ o 0 (flds ci))[j]? = some (cv G v) := by rw [fsl_at G σ o (flds ci) 0 j dd hf, Nat.zero_add, hv G]
  rcases h6 with h6 | ⟨host, h6⟩
  · exact va_get hx hb hts h2 hown hPK.1 hP o he h1 j h5 (hts _ h6) (fun _ q => q) hfs d (k hR H locs sl hP hS hL)
  · exact va_getN hx hb hts h2 hown hPK.1 hP o he h1 j h5 (va_Nw.use (by rfl) (hPK.2 _ h6)) (fun _ q => q) hfs d (k hR H locs sl hP hS hL)
theorem V_geti_8 (C : Cx_8 X cc own) {index ci j o : Nat} {ji : Int} (d : decode cc pc = .ok (.getfield index, 3)) (fl : FL own index ci j) (hk : kd_8 o = ci) (hc : ci < 1000) (hf : (flds ci)[j]? = some 0) (hj : (j : Int) = ji) (k : V_8 X (pc + 3) ls (vI (σ o ji) :: st) σ) : V_8 X pc ls (vR o :: st) σ :=
  V_getv_8 C d fl hk hc hf (v := vI (σ o ji)) (fun G => by unfold fvl; rw [if_pos rfl, hj]; rfl) k
theorem V_getr_8 (C : Cx_8 X cc own) {index ci j o dd o2 : Nat} (d : decode cc pc = .ok (.getfield index, 3)) (fl : FL own index ci j) (hk : kd_8 o = ci) (hc : ci < 1000) (hf : (flds ci)[j]? = some dd) (hd : dd ≠ 0 ∧ dd ≠ 9999) (ho : o + dd = o2) (k : V_8 X (pc + 3) ls (vR o2 :: st) σ) : V_8 X pc ls (vR o :: st) σ :=
  V_getv_8 C d fl hk hc hf (v := vR o2) (fun G => by unfold fvl; rw [if_neg hd.1, if_neg hd.2, ho]; rfl) k
theorem V_getm_8 (C : Cx_8 X cc own) {index ci j o o2 : Nat} (d : decode cc pc = .ok (.getfield index, 3)) (fl : FL own index ci j) (hk : kd_8 o = ci) (hc : ci < 1000) (hf : (flds ci)[j]? = some 9999) (ho : (σ o (j : Int)).toNat = o2) (k : V_8 X (pc + 3) ls (vR o2 :: st) σ) : V_8 X pc ls (vR o :: st) σ :=
  V_getv_8 C d fl hk hc hf (v := vR o2) (fun G => by unfold fvl; rw [if_neg (by decide), if_pos rfl, ho]; rfl) k
theorem V_putv_8 (C : Cx_8 X cc own) {index ci j dd o : Nat} {x : Int} {t0 : FieldType} (d : decode cc pc = .ok (.putfield index, 3)) (fl : FL own index ci j) (fw : FW ci j t0) (hk : kd_8 o = ci) (hc : ci < 1000) (hf : (flds ci)[j]? = some dd) (hx0 : inR x) {v : AV} (hv : ∀ G, fvl G (up σ o (j : Int) x) o j dd = cv G v) (hn : ∀ G, narrow t0 (cv G v) = cv G v ∧ fits t0 (cv G v) = true) (k : V_8 X (pc + 3) ls st (up σ o (j : Int) x)) : V_8 X pc ls (v :: vR o :: st) σ := by
  obtain ⟨p, l, e, R, s, m, args, below, meth, c, G, nL, ck, sk, Q⟩ := X
  obtain ⟨hx, hb, hml, hown, hlk, hts, hPK, hap, hck, hsk⟩ := C
  intro hR H locs sl hP hS hL
  obtain ⟨Cn, Tn, N, ty, h1, h2, h3, h4, h5, h6⟩ := fl
  obtain ⟨f1, f2⟩ := fw _ _ _ h1
  have hko : o < NO_8 := kd_lt_8 hk (by omega)
  have he : (wsO_8 G σ)[o]? = some (gA G o, .inr (ci, fsl G σ o 0 (flds ci))) := by rw [wsO_at_8 G σ hko, ent_obj_8 G σ hk hc]
  have hlt : j < (fsl G σ o 0 (flds ci)).length := by rw [fsl_len]; exact (List.getElem?_eq_some_iff.mp hf).1
  have hset : (wsO_8 G σ).set o (gA G o, .inr (ci, (fsl G σ o 0 (flds ci)).set j (cv G v))) = wsO_8 G (up σ o (j : Int) x) := by
    refine wsO_set_8 G σ _ hko ?_ (fun q hq => ent_up_ne_8 G σ o _ x q hq)
    rw [ent_obj_8 G _ hk hc]
    have := fsl_up G σ o x (flds ci) 0 j dd hf
    rw [Nat.zero_add] at this
    rw [this, hv G]
  rcases h6 with h6 | ⟨host, h6⟩
  · refine va_put hx hb hts h2 ty h3 h4 hown hPK.1 hP (apart_D_8 hap σ) hS o he h1 j h5 (hts _ h6) (fun _ q => q) f1 f2 (hn G).1 (hn G).2 hlt d (fun H1 locs1 hP1 hD1 hS1 => ?_)
    rw [hset] at hP1
    exact k (up_R hR hx0) H1 locs1 sl hP1 hS1 hL
  · refine va_putN hx hb hts h2 ty h3 h4 hown hPK.1 hP (apart_D_8 hap σ) hS o he h1 j h5 (va_Nw.use (by rfl) (hPK.2 _ h6)) (fun _ q => q) f1 f2 (hn G).1 (hn G).2 hlt d (fun H1 locs1 hP1 hD1 hS1 => ?_)
    rw [hset] at hP1
    exact k (up_R hR hx0) H1 locs1 sl hP1 hS1 hL
theorem V_puti_8 (C : Cx_8 X cc own) {index ci j o : Nat} {ji x : Int} (d : decode cc pc = .ok (.putfield index, 3)) (fl : FL own index ci j) (fw : FW ci j .int) (hk : kd_8 o = ci) (hc : ci < 1000) (hf : (flds ci)[j]? = some 0) (hj : (j : Int) = ji) (hx0 : inR x) (k : V_8 X (pc + 3) ls st (up σ o ji x)) : V_8 X pc ls (vI x :: vR o :: st) σ := by
  subst hj
  exact V_putv_8 C d fl fw hk hc hf hx0 (v := vI x) (fun G => by unfold fvl; rw [if_pos rfl, up_at]; rfl) (fun G => ⟨rfl, rfl⟩) k
theorem V_putm_8 (C : Cx_8 X cc own) {index ci j o o2 : Nat} {n : String} (d : decode cc pc = .ok (.putfield index, 3)) (fl : FL own index ci j) (fw : FW ci j (.object n)) (hk : kd_8 o = ci) (hc : ci < 1000) (hf : (flds ci)[j]? = some 9999) (ho : o2 < 2147483648) (k : V_8 X (pc + 3) ls st (up σ o (j : Int) (o2 : Int))) : V_8 X pc ls (vR o2 :: vR o :: st) σ :=
  V_putv_8 C d fl fw hk hc hf (x := (o2 : Int)) ⟨by omega, by omega⟩ (v := vR o2) (fun G => by unfold fvl; rw [if_neg (by decide), if_pos rfl, up_at, Int.toNat_natCast]; rfl) (fun G => ⟨rfl, rfl⟩) k

theorem V_iald_8 (C : Cx_8 X cc own) (d : decode cc pc = .ok (.iaload, 1)) {o n : Nat} {i : Int} (hk : kd_8 o = 1000 + n) (hn : n < 1000) (h0 : 0 ≤ i) (h1 : i < n) (k : V_8 X (pc + 1) ls (vI (σ o i) :: st) σ) : V_8 X pc ls (vI i :: vR o :: st) σ := by
  obtain ⟨p, l, e, R, s, m, args, below, meth, c, G, nL, ck, sk, Q⟩ := X
  obtain ⟨hx, hb, hml, hown, hlk, hts, hPK, hap, hck, hsk⟩ := C
  intro hR H locs sl hP hS hL
  have hko : o < NO_8 := kd_lt_8 hk (by omega)
  have he : (wsO_8 G σ)[o]? = some (gA G o, .inl (gI G, n, .inl (fun j => Int32.ofInt (σ o (j : Int))))) := by rw [wsO_at_8 G σ hko, ent_int_8 G σ hk hn]
  refine va_iald hx hb hPK.1 hP o 0 he rfl (oi_in h0 h1 (by omega)) d ?_
  rw [oi_nat h0 ⟨by omega, by omega⟩, Int.toNat_of_nonneg h0]
  exact k hR H locs sl hP hS hL
theorem V_cald_8 (C : Cx_8 X cc own) (d : decode cc pc = .ok (.caload, 1)) {o n : Nat} {i : Int} (hk : kd_8 o = 2000 + n) (hn : n < 1000) (h0 : 0 ≤ i) (h1 : i < n) (k : V_8 X (pc + 1) ls (vI (σ o i) :: st) σ) : V_8 X pc ls (vI i :: vR o :: st) σ := by
  obtain ⟨p, l, e, R, s, m, args, below, meth, c, G, nL, ck, sk, Q⟩ := X
  obtain ⟨hx, hb, hml, hown, hlk, hts, hPK, hap, hck, hsk⟩ := C
  intro hR H locs sl hP hS hL
  have hko : o < NO_8 := kd_lt_8 hk (by omega)
  have he : (wsO_8 G σ)[o]? = some (gA G o, .inl (gC G, n, .inl (fun j => Int32.ofInt (σ o (j : Int))))) := by rw [wsO_at_8 G σ hko, ent_chr_8 G σ hk hn]
  refine va_cald hx hb hPK.1 hP o 1 he rfl (oi_in h0 h1 (by omega)) d ?_
  rw [oi_nat h0 ⟨by omega, by omega⟩, Int.toNat_of_nonneg h0]
  exact k hR H locs sl hP hS hL
theorem V_iast_8 (C : Cx_8 X cc own) (d : decode cc pc = .ok (.iastore, 1)) {o n : Nat} {i x : Int} (hk : kd_8 o = 1000 + n) (hn : n < 1000) (h0 : 0 ≤ i) (h1 : i < n) (hx0 : inR x) (k : V_8 X (pc + 1) ls st (up σ o i x)) : V_8 X pc ls (vI x :: vI i :: vR o :: st) σ := by
  obtain ⟨p, l, e, R, s, m, args, below, meth, c, G, nL, ck, sk, Q⟩ := X
  obtain ⟨hx, hb, hml, hown, hlk, hts, hPK, hap, hck, hsk⟩ := C
  intro hR H locs sl hP hS hL
  have hko : o < NO_8 := kd_lt_8 hk (by omega)
  have he : (wsO_8 G σ)[o]? = some (gA G o, .inl (gI G, n, .inl (fun j => Int32.ofInt (σ o (j : Int))))) := by rw [wsO_at_8 G σ hko, ent_int_8 G σ hk hn]
  refine va_iast hx hb hPK.1 hP (apart_D_8 hap σ) hS o 0 he rfl (oi_in h0 h1 (by omega)) d (fun H1 locs1 hP1 hD1 hS1 => ?_)
  rw [oi_nat h0 ⟨by omega, by omega⟩, ← arr_up σ o x h0, wsO_set_8 G σ (up σ o i x) hko (ent_int_8 G _ hk hn) (fun q hq => ent_up_ne_8 G σ o _ x q hq)] at hP1
  exact k (up_R hR hx0) H1 locs1 sl hP1 hS1 hL
theorem V_cast_8 (C : Cx_8 X cc own) (d : decode cc pc = .ok (.castore, 1)) {o n : Nat} {i x : Int} (hk : kd_8 o = 2000 + n) (hn : n < 1000) (h0 : 0 ≤ i) (h1 : i < n) (hx0 : 0 ≤ x) (hx1 : x < 65536) (k : V_8 X (pc + 1) ls st (up σ o i x)) : V_8 X pc ls (vI x :: vI i :: vR o :: st) σ := by
  obtain ⟨p, l, e, R, s, m, args, below, meth, c, G, nL, ck, sk, Q⟩ := X
  obtain ⟨hx, hb, hml, hown, hlk, hts, hPK, hap, hck, hsk⟩ := C
  intro hR H locs sl hP hS hL
  have hko : o < NO_8 := kd_lt_8 hk (by omega)
  have he : (wsO_8 G σ)[o]? = some (gA G o, .inl (gC G, n, .inl (fun j => Int32.ofInt (σ o (j : Int))))) := by rw [wsO_at_8 G σ hko, ent_chr_8 G σ hk hn]
  refine va_cast hx hb hPK.1 hP (apart_D_8 hap σ) hS o 1 he rfl (oi_in h0 h1 (by omega)) d (fun H1 locs1 hP1 hD1 hS1 => ?_)
  rw [oi_nar hx0 hx1, oi_nat h0 ⟨by omega, by omega⟩, ← arr_up σ o x h0, wsO_set_8 G σ (up σ o i x) hko (ent_chr_8 G _ hk hn) (fun q hq => ent_up_ne_8 G σ o _ x q hq)] at hP1
  exact k (up_R hR ⟨by omega, by omega⟩) H1 locs1 sl hP1 hS1 hL
theorem V_alen_8 (C : Cx_8 X cc own) (d : decode cc pc = .ok (.arraylength, 1)) {o n : Nat} {ni : Int} (hk : kd_8 o = 1000 + n ∨ kd_8 o = 2000 + n ∨ (kd_8 o = 3000 ∧ n = 8)) (hn : n < 1000) (hi : (n : Int) = ni) (k : V_8 X (pc + 1) ls (vI ni :: st) σ) : V_8 X pc ls (vR o :: st) σ := by
  obtain ⟨p, l, e, R, s, m, args, below, meth, c, G, nL, ck, sk, Q⟩ := X
  obtain ⟨hx, hb, hml, hown, hlk, hts, hPK, hap, hck, hsk⟩ := C
  intro hR H locs sl hP hS hL
  subst hi
  have e : Int32.ofNat n = Int32.ofInt (n : Int) := (Int32.ofInt_eq_ofNat (n := n)).symm
  rcases hk with hk | hk | ⟨hk, rfl⟩
  · have he : (wsO_8 G σ)[o]? = some (gA G o, .inl (gI G, n, .inl (fun j => Int32.ofInt (σ o (j : Int))))) := by rw [wsO_at_8 G σ (kd_lt_8 hk (by omega)), ent_int_8 G σ hk hn]
    exact va_alen hx hb hPK.1 hP o 0 he rfl e d (k hR H locs sl hP hS hL)
  · have he : (wsO_8 G σ)[o]? = some (gA G o, .inl (gC G, n, .inl (fun j => Int32.ofInt (σ o (j : Int))))) := by rw [wsO_at_8 G σ (kd_lt_8 hk (by omega)), ent_chr_8 G σ hk hn]
    exact va_alen hx hb hPK.1 hP o 1 he rfl e d (k hR H locs sl hP hS hL)
  · have he : (wsO_8 G σ)[o]? = some (gA G o, .inl (gS G, 8, .inr (.inr (.inr (.inr (fun j => some (gA G (o + 1 + 5 * j)))))))) := by rw [wsO_at_8 G σ (kd_lt_8 hk (by omega)), ent_ring_8 G σ hk]
    exact va_alen hx hb hPK.1 hP o 2 he rfl e d (k hR H locs sl hP hS hL)

theorem V_iret_8 (C : Cx_8 X cc own) {fin : Option AV → Wd → Prop} {z : Int} (E : Ex_8 X (some .int) fin) (d : decode cc pc = .ok (.ireturn, 1)) (h : fin (some (vI z)) σ) : V_8 X pc ls [vI z] σ := by
  obtain ⟨p, l, e, R, s, m, args, below, meth, c, G, nL, ck, sk, Q⟩ := X
  obtain ⟨hx, hb, hml, hown, hlk, hts, hPK, hap, hck, hsk⟩ := C
  obtain ⟨hr, hQ⟩ := E
  subst hQ
  intro hR H locs sl hP hS hL
  exact W.iret (v := Int32.ofInt z) hx hb hr (fun t ht hW => ⟨⟨some (vI z), σ, rfl, h, hR, by rw [ht]; exact hP⟩, hS.F ht⟩) hS.2.2 d hlk

theorem V_zret_8 (C : Cx_8 X cc own) {fin : Option AV → Wd → Prop} {z : Int} (hz : z = 0 ∨ z = 1) (E : Ex_8 X (some .boolean) fin) (d : decode cc pc = .ok (.ireturn, 1)) (h : fin (some (vI z)) σ) : V_8 X pc ls [vI z] σ := by
  obtain ⟨p, l, e, R, s, m, args, below, meth, c, G, nL, ck, sk, Q⟩ := X
  obtain ⟨hx, hb, hml, hown, hlk, hts, hPK, hap, hck, hsk⟩ := C
  obtain ⟨hr, hQ⟩ := E
  subst hQ
  intro hR H locs sl hP hS hL
  exact W.zret (v := Int32.ofInt z) hx hb hr (by rcases hz with rfl | rfl <;> rfl) (fun t ht hW => ⟨⟨some (vI z), σ, rfl, h, hR, by rw [ht]; exact hP⟩, hS.F ht⟩) hS.2.2 d hlk

theorem V_cret_8 (C : Cx_8 X cc own) {fin : Option AV → Wd → Prop} {z : Int} (h0 : 0 ≤ z) (h1 : z < 65536) (E : Ex_8 X (some .char) fin) (d : decode cc pc = .ok (.ireturn, 1)) (h : fin (some (vI z)) σ) : V_8 X pc ls [vI z] σ := by
  obtain ⟨p, l, e, R, s, m, args, below, meth, c, G, nL, ck, sk, Q⟩ := X
  obtain ⟨hx, hb, hml, hown, hlk, hts, hPK, hap, hck, hsk⟩ := C
  obtain ⟨hr, hQ⟩ := E
  subst hQ
  intro hR H locs sl hP hS hL
  exact W.zret (v := Int32.ofInt z) hx hb hr (oi_narV h0 h1) (fun t ht hW => ⟨⟨some (vI z), σ, rfl, h, hR, by rw [ht]; exact hP⟩, hS.F ht⟩) hS.2.2 d hlk

theorem V_vret_8 (C : Cx_8 X cc own) {fin : Option AV → Wd → Prop}  (E : Ex_8 X none fin) (d : decode cc pc = .ok (.return_, 1)) (h : fin none σ) : V_8 X pc ls [] σ := by
  obtain ⟨p, l, e, R, s, m, args, below, meth, c, G, nL, ck, sk, Q⟩ := X
  obtain ⟨hx, hb, hml, hown, hlk, hts, hPK, hap, hck, hsk⟩ := C
  obtain ⟨hr, hQ⟩ := E
  subst hQ
  intro hR H locs sl hP hS hL
  exact W.vret hx hb hr (fun t ht hW => ⟨⟨none, σ, rfl, h, hR, by rw [ht]; exact hP⟩, hS.F ht⟩) hS.2.2 d hlk

end VR
abbrev PcO_8 (G : GE) (avs : List AV) (σ : Wd) : Array Value → State → Prop := va_Pc (avs.map (cv G)) (fun U => va_P (gD G) CL (wsO_8 G σ) U.heap ∧ PK G U)
theorem PcO_blind_8 (G : GE) (avs : List AV) (σ : Wd) : FrameBlind (PcO_8 G avs σ) := by
  intro a U g mk h
  exact ⟨h.1, h.2.1, PK.calling g mk a h.2.2⟩
theorem V_after_8 {p : Program} {l : Launch} {e : Env} {R : Room} {s : State} {m : MethodId} {args : Array Value} {below : List Frame} {meth : Method} {c : Code} {G : GE} {nL ck sk : Nat} {Q : State → Prop} {pc : Nat} {ls : List (Option AV)} {sl : Array Slot} {rest : List AV} {st0 : List Value} {fin : Option AV → Wd → Prop} {H : Heap} {locs : List Loc} {av : Array Value}
    (hr : va_Run p l e R s m args below meth c H locs ck sk 0 0 (F0 m pc sl st0) (rest.map (cv G)) (QcO_8 G fin av) (AG_8 G)) (hS : va_S (AG_8 G) s.heap H locs) (hL : Lh G sl nL ls)
    (k : ∀ r σ', fin r σ' → V_8 (p, l, e, R, s, m, args, below, meth, c, G, nL, ck, sk, Q) (pc + 3) ls (r.toList ++ rest) σ') : W p l e R s m args below meth c H locs ck sk Q (F0 m pc sl st0) := by
  intro T hT X
  obtain ⟨v, st₀, t, T', L, h0, X', hL', e1, e2, ⟨⟨r, σ', hv, hfin, hR', hP'⟩, hz, hkp⟩, stp⟩ := hr T hT X
  have hv : v = r.map (cv G) := by injection hv
  have hS' : va_S (AG_8 G) s.heap T'.heap (locs ++ L) := by
    refine ⟨Nat.le_trans hS.1 (by rw [e1, ← h0]; exact hz), fun q h1 h2 => ?_, fun q hq => ?_⟩
    · rw [e1, hkp q (by rw [h0]; exact Nat.lt_of_lt_of_le h1 hS.1) h2, h0]; exact hS.2.1 q h1 h2
    · rcases List.mem_append.mp hq with h | h
      · exact hS.2.2 q h
      · exact hL' q h
  have hst : (r.toList ++ rest).map (cv G) = v.toList ++ rest.map (cv G) := by
    rw [hv]; cases r <;> simp
  have K := k r σ' hfin hR' T'.heap (locs ++ L) sl (by rw [e1]; exact hP') hS' hL
  rw [hst] at K
  obtain ⟨t2, a1, b1⟩ := K T' rfl X'
  exact ⟨t2, stp t2 a1, b1⟩
section VC
variable {X : KX} {cc : ByteArray} {own : String} {pc : Nat} {ls : List (Option AV)} {st : List AV} {σ : Wd}
theorem V_callVg_8 (C : Cx_8 X cc own) {index nL2 n rF rL o ci N : Nat} {T : u_T} {y : MethodName} {b : ByteArray} {ret : Option FieldType} {as rest : List AV} {fin : Option AV → Wd → Prop} (d : decode cc pc = .ok (.invokevirtual index, 3)) (lk : LK own index y) (cm : CMs y b nL2 ret n) (vm : VM y) (hM : Ct_8 (xL X) (xG X) y b nL2 ret rF rL (vR o :: as) σ fin)
    (hk : kd_8 o = ci) (hcl : CL[ci]? = some (y.cls, T, N)) (hn : as.length = n) (hst : st = as.reverse ++ vR o :: rest) (hroom : (rest.map avc).sum ≤ 8) (hRm : Rm X (rF + 1) (8 + (nL2 + 11) + rL)) (k : ∀ r σ', fin r σ' → V_8 X (pc + 3) ls (r.toList ++ rest) σ') : V_8 X pc ls st σ := by
  subst hst
  obtain ⟨p, l, e, R, s, m, args, below, meth, c, G, nL, ck, sk, Q⟩ := X
  obtain ⟨hx, hb, hml, hown, hlk, hts, hPK, hap, hck, hsk⟩ := C
  intro hR H locs sl hP hS hL
  have hM := hM hap hR
  obtain ⟨c1, c2, c3, c4⟩ := cm
  obtain ⟨v1, v2⟩ := vm
  have hci : ci < 10 := (List.getElem?_eq_some_iff.mp hcl).1
  have hko : o < NO_8 := kd_lt_8 hk (by omega)
  have he : (wsO_8 G σ)[o]? = some (gA G o, .inr (ci, fsl G σ o 0 (flds ci))) := by rw [wsO_at_8 G σ hko, ent_obj_8 G σ hk (by omega)]
  have hrecv := va_recv hPK.1 hP hcl he
  have hpay := gw_pay (nL := nL2) (ret := ret) hts c1
  have hlen : ∀ sig, parseMethodDescriptor y.desc = some sig → n = sig.parameters.length := by
    intro sig h
    have h2 := c3.2.2
    rw [h] at h2
    exact (Option.some.inj h2).symm
  have hp : PreV s H y.cls (gA G o) (PcO_8 G (vR o :: as) σ) (as.map (cv G)) := ⟨PcO_blind_8 _ _ _, hrecv, fun U hU hW => ⟨rfl, by rw [hU]; exact hP, hPK.moved hW⟩⟩
  have hstk : (F0 m pc sl ((as.reverse ++ vR o :: rest).map (cv G))).stack = (as.map (cv G)).reverse ++ .ref (gA G o) :: rest.map (cv G) := by
    show List.map _ _ = _
    rw [List.map_append, List.map_reverse]; rfl
  rcases lk with lk | ⟨host, lk⟩
  · exact V_after_8 (va_runV (b := gA G o) (As := as.map (cv G)) (rest := rest.map (cv G)) ⟨hx, hb, hml, hown, hts⟩ hM ⟨⟨rfl, rfl, hRm.1, hRm.2, hpay, List.mem_cons_self, hts _ c1, hts _ c2, ⟨c3.1, c3.2.1⟩, hlen, hts _ lk⟩, hts _ v1, hts _ v2⟩ hp rfl (by rw [List.length_map]; exact hn) hL.1 hstk (rm_sum hroom) d ⟨hck, hsk⟩) hS hL k
  · exact V_after_8 (va_runVN (b := gA G o) (As := as.map (cv G)) (rest := rest.map (cv G)) ⟨hx, hb, hml, hown, hts⟩ hM ⟨⟨⟨rfl, rfl, hRm.1, hRm.2, hpay, List.mem_cons_self⟩, hts _ c1, hts _ c2, ⟨c3.1, c3.2.1⟩, hlen, va_Nw.use (by rfl) (hPK.2 _ lk)⟩, hts _ v1, hts _ v2⟩ hp rfl (by rw [List.length_map]; exact hn) hL.1 hstk (rm_sum hroom) d ⟨hck, hsk⟩) hS hL k
theorem V_callSg_8 (C : Cx_8 X cc own) {index nL2 n rF rL : Nat} {y : MethodName} {b : ByteArray} {ret : Option FieldType} {as rest : List AV} {fin : Option AV → Wd → Prop} (d : decode cc pc = .ok (.invokestatic index, 3)) (lk : LK own index y) (cm : CMs y b nL2 ret n) (sm : SM y) (hM : Ct_8 (xL X) (xG X) y b nL2 ret rF rL as σ fin)
    (hn : as.length = n) (hst : st = as.reverse ++ rest) (hroom : (rest.map avc).sum ≤ 8) (hRm : Rm X (rF + 1) (8 + (nL2 + 11) + rL)) (k : ∀ r σ', fin r σ' → V_8 X (pc + 3) ls (r.toList ++ rest) σ') : V_8 X pc ls st σ := by
  subst hst
  obtain ⟨p, l, e, R, s, m, args, below, meth, c, G, nL, ck, sk, Q⟩ := X
  obtain ⟨hx, hb, hml, hown, hlk, hts, hPK, hap, hck, hsk⟩ := C
  intro hR H locs sl hP hS hL
  have hM := hM hap hR
  obtain ⟨c1, c2, c3, c4⟩ := cm
  have hpay := gw_pay (nL := nL2) (ret := ret) hts c1
  have hlen : ∀ sig, parseMethodDescriptor y.desc = some sig → n = sig.parameters.length := by
    intro sig h
    have h2 := c3.2.2
    rw [h] at h2
    exact (Option.some.inj h2).symm
  have hp : PreS s H (PcO_8 G as σ) (as.map (cv G)) := ⟨PcO_blind_8 _ _ _, fun U hU hW => ⟨rfl, by rw [hU]; exact hP, hPK.moved hW⟩⟩
  have hstk : (F0 m pc sl ((as.reverse ++ rest).map (cv G))).stack = (as.map (cv G)).reverse ++ rest.map (cv G) := by
    show List.map _ _ = _
    rw [List.map_append, List.map_reverse]
  rcases lk with lk | ⟨host, lk⟩
  · exact V_after_8 (va_runS (As := as.map (cv G)) (rest := rest.map (cv G)) ⟨hx, hb, hml, hown, hts⟩ hM ⟨⟨rfl, rfl, hRm.1, hRm.2, hpay, List.mem_cons_self, hts _ c1, hts _ c2, ⟨c3.1, c3.2.1⟩, hlen, hts _ lk⟩, hts _ sm⟩ hp rfl (by rw [List.length_map]; exact hn) hL.1 hstk (rm_sum hroom) d ⟨hck, hsk⟩) hS hL k
  · exact V_after_8 (va_runSN (As := as.map (cv G)) (rest := rest.map (cv G)) ⟨hx, hb, hml, hown, hts⟩ hM ⟨⟨⟨rfl, rfl, hRm.1, hRm.2, hpay, List.mem_cons_self⟩, hts _ c1, hts _ c2, ⟨c3.1, c3.2.1⟩, hlen, va_Nw.use (by rfl) (hPK.2 _ lk)⟩, hts _ sm, trivial⟩ hp rfl (by rw [List.length_map]; exact hn) hL.1 hstk (rm_sum hroom) d ⟨hck, hsk⟩) hS hL k
theorem V_callV_8 (C : Cx_8 X cc own) {index nL2 n rF rL o ci N : Nat} {T : u_T} {y : MethodName} {b : ByteArray} {ret : Option FieldType} {as rest : List AV} {v : AV} {σ1 : Wd} (d : decode cc pc = .ok (.invokevirtual index, 3)) (lk : LK own index y) (cm : CMs y b nL2 ret n) (vm : VM y) (hM : Ct_8 (xL X) (xG X) y b nL2 ret rF rL (vR o :: as) σ (Dt (some v) σ1))
    (hk : kd_8 o = ci) (hcl : CL[ci]? = some (y.cls, T, N)) (hn : as.length = n) (hst : st = as.reverse ++ vR o :: rest) (hroom : (rest.map avc).sum ≤ 8) (hRm : Rm X (rF + 1) (8 + (nL2 + 11) + rL)) (k : V_8 X (pc + 3) ls (v :: rest) σ1) : V_8 X pc ls st σ :=
  V_callVg_8 C d lk cm vm hM hk hcl hn hst hroom hRm (fun r σ' h => by obtain ⟨rfl, rfl⟩ := h; exact k)
theorem V_callS_8 (C : Cx_8 X cc own) {index nL2 n rF rL : Nat} {y : MethodName} {b : ByteArray} {ret : Option FieldType} {as rest : List AV} {v : AV} {σ1 : Wd} (d : decode cc pc = .ok (.invokestatic index, 3)) (lk : LK own index y) (cm : CMs y b nL2 ret n) (sm : SM y) (hM : Ct_8 (xL X) (xG X) y b nL2 ret rF rL as σ (Dt (some v) σ1))
    (hn : as.length = n) (hst : st = as.reverse ++ rest) (hroom : (rest.map avc).sum ≤ 8) (hRm : Rm X (rF + 1) (8 + (nL2 + 11) + rL)) (k : V_8 X (pc + 3) ls (v :: rest) σ1) : V_8 X pc ls st σ :=
  V_callSg_8 C d lk cm sm hM hn hst hroom hRm (fun r σ' h => by obtain ⟨rfl, rfl⟩ := h; exact k)
theorem V_callS0_8 (C : Cx_8 X cc own) {index nL2 n rF rL : Nat} {y : MethodName} {b : ByteArray} {ret : Option FieldType} {as rest : List AV} {σ1 : Wd} (d : decode cc pc = .ok (.invokestatic index, 3)) (lk : LK own index y) (cm : CMs y b nL2 ret n) (sm : SM y) (hM : Ct_8 (xL X) (xG X) y b nL2 ret rF rL as σ (Dt none σ1))
    (hn : as.length = n) (hst : st = as.reverse ++ rest) (hroom : (rest.map avc).sum ≤ 8) (hRm : Rm X (rF + 1) (8 + (nL2 + 11) + rL)) (k : V_8 X (pc + 3) ls rest σ1) : V_8 X pc ls st σ :=
  V_callSg_8 C d lk cm sm hM hn hst hroom hRm (fun r σ' h => by obtain ⟨rfl, rfl⟩ := h; exact k)
end VC
theorem Ct_8.of {l : Launch} {G : GE} {y : MethodName} {b : ByteArray} {nL n : Nat} {ret : Option FieldType} {rF rL : Nat} {avs : List AV} {σ : Wd} {fin : Option AV → Wd → Prop} (cm : CMs y b nL ret n) (hn : (avs.map avc).sum ≤ nL)
    (h : ∀ X : KX, xL X = l → xG X = G → xN X = nL → Rm X rF rL → Cx_8 X b y.cls → Ex_8 X ret fin → V_8 X 0 (ents nL avs) [] σ) : Ct_8 l G y b nL ret rF rL avs σ fin := by
  intro hap hR
  refine Met.ofW (cc := b) (maxL := nL) (ret := ret) cm.2.2.2 rfl ?_
  intro p e s m args below meth c s₁ B hml hv
  obtain ⟨rfl, hP, hPK⟩ := hv
  have hts0 := atoms_spec (ws := Cond.code y b nL ret :: gw) B.pre
  have K := h (p, l, e, { frames := rF, cells := 0, slots := 0, locals := rL }, s, m, (avs.map (cv G)).toArray, below, meth, c, G, nL, 0, 0, MQ below (QcO_8 G fin) (avs.map (cv G)).toArray s 0 0 (AG_8 G)) rfl rfl rfl ⟨Nat.le_refl _, Nat.le_refl _⟩
    ⟨B.exec, B.bytes, hml, findClass_of_methodNamed B.named, B.notSynchronized, fun wd hw => hts0 wd (List.mem_cons_of_mem _ hw), hPK, hap, Nat.le_refl _, Nat.le_refl _⟩ ⟨B.returns, rfl⟩
  rw [lg_entry_eq]
  refine K hR s.heap [] _ hP va_S.rf ?_
  have hl := lv_entry (avs.map (cv G)) (n := nL) (by rw [lg_len]; exact hn)
  refine ⟨hl.1, hl.2.1, fun i a hi => ?_⟩
  have := entL_mem G avs 0 i a (ents_get hi)
  rw [Nat.zero_add] at this
  exact hl.2.2 _ this

section VB
variable {X : KX} {cc : ByteArray} {own : String} {pc : Nat} {ls : List (Option AV)} {st : List AV} {σ : Wd}
theorem V_ifeqB_8 {P : Prop} [Decidable P] (C : Cx_8 X cc own) {off : Int} (d : decode cc pc = .ok (.ifCond .eq off, 3)) (tgt : Nat) (ht : (pc : Int) + off = (tgt : Int)) (kt : ¬ P → V_8 X tgt ls st σ) (kf : P → V_8 X (pc + 3) ls st σ) : V_8 X pc ls (vI (if P then 1 else 0) :: st) σ :=
  V_ifeq_8 C d tgt ht b_R (fun h => kt (fun q => by rw [if_pos q] at h; cases h)) (fun h => kf (Classical.byContradiction (fun q => h (if_neg q))))
theorem V_ifneB_8 {P : Prop} [Decidable P] (C : Cx_8 X cc own) {off : Int} (d : decode cc pc = .ok (.ifCond .ne off, 3)) (tgt : Nat) (ht : (pc : Int) + off = (tgt : Int)) (kt : P → V_8 X tgt ls st σ) (kf : ¬ P → V_8 X (pc + 3) ls st σ) : V_8 X pc ls (vI (if P then 1 else 0) :: st) σ :=
  V_ifne_8 C d tgt ht b_R (fun h => kt (Classical.byContradiction (fun q => h (if_neg q)))) (fun h => kf (fun q => by rw [if_pos q] at h; cases h))
/-- a loop: what holds at its head, and that it falls -/
theorem V_loop_8 {ι : Type} (P : ι → Prop) (L : ι → List (Option AV)) (S : ι → Wd) (μ : ι → Nat) (h : ∀ x, P x → (∀ y, P y → μ y < μ x → V_8 X pc (L y) [] (S y)) → V_8 X pc (L x) [] (S x)) (x : ι) (hx : P x) : V_8 X pc (L x) [] (S x) := by
  have key : ∀ (n : Nat) (x : ι), P x → μ x < n → V_8 X pc (L x) [] (S x) := by
    intro n
    induction n with
    | zero => intro x _ h0; exact absurd h0 (Nat.not_lt_zero _)
    | succ n ih => intro x hx hn; exact h x hx (fun y hy hlt => ih y hy (by omega))
  exact key (μ x + 1) x hx (Nat.lt_succ_self _)
end VB
theorem kd_S_8 {s : Nat} (h : kd_8 s = 7) : kd_8 (s + 1) = 1000 + 5 ∧ kd_8 (s + 2) = 1000 + 5 ∧ kd_8 (s + 3) = 1000 + 8 ∧ kd_8 (s + 4) = 1000 + 8 := by
  have hs := kd_lt_8 h (by decide)
  have key : ∀ q : Fin NO_8, kd_8 q.val = 7 → kd_8 (q.val + 1) = 1000 + 5 ∧ kd_8 (q.val + 2) = 1000 + 5 ∧ kd_8 (q.val + 3) = 1000 + 8 ∧ kd_8 (q.val + 4) = 1000 + 8 := by decide +kernel
  exact key ⟨s, hs⟩ h
theorem kd_P_8 {s : Nat} (h : kd_8 s = 5) : kd_8 (s + 1) = 1000 + 5 ∧ kd_8 (s + 2) = 1000 + 8 ∧ kd_8 (s + 3) = 1000 + 8 ∧ kd_8 (s + 4) = 1000 + 8 ∧ kd_8 (s + 5) = 1000 + 8 ∧ kd_8 (s + 6) = 1000 + 12 := by
  have hs := kd_lt_8 h (by decide)
  have key : ∀ q : Fin NO_8, kd_8 q.val = 5 → kd_8 (q.val + 1) = 1000 + 5 ∧ kd_8 (q.val + 2) = 1000 + 8 ∧ kd_8 (q.val + 3) = 1000 + 8 ∧ kd_8 (q.val + 4) = 1000 + 8 ∧ kd_8 (q.val + 5) = 1000 + 8 ∧ kd_8 (q.val + 6) = 1000 + 12 := by decide +kernel
  exact key ⟨s, hs⟩ h
/-- a local that isn't needed any more -/
theorem V_fg_8 {X : KX} {pc : Nat} {ls : List (Option AV)} {st : List AV} {σ : Wd} (i : Nat) (k : V_8 X pc (fg ls i) st σ) : V_8 X pc ls st σ := by
  obtain ⟨p, l, e, R, s, m, args, below, meth, c, G, nL, ck, sk, Q⟩ := X
  intro hR H locs sl hP hS hL
  exact k hR H locs sl hP hS ⟨hL.1, hL.2.1, fun j a h => hL.2.2 j a (fg_get ls i j a h)⟩
set_option maxHeartbeats 1000000 in
set_option maxRecDepth 20000 in
theorem c_F_within_8 (l : Launch) (G : GE) (σ : Wd) (a lo hi : Int) (ha : inR a) (hlo : inR lo) (hhi : inR hi) : Ct_8 l G y_F_within b_F_within 3 (some (.boolean)) 0 0 [vI a, vI lo, vI hi] σ (Dt (some (vI (if lo ≤ a ∧ a ≤ hi then 1 else 0))) σ) := by
  refine Ct_8.of cm_F_within (Nat.le_of_ble_eq_true rfl) ?_
  intro X hXl hXG hXN hRm C E
  subst hXl; subst hXG
  have ⟨ha_1, ha_2⟩ := ha
  have ⟨hlo_1, hlo_2⟩ := hlo
  have ⟨hhi_1, hhi_2⟩ := hhi
  show V_8 X 0 [some (vI a), some (vI lo), some (vI hi)] [] σ
  refine V_R_8 (fun hR => ?_)
  refine V_iload_n_8 (pc := 0) C (dk k_F_within 0 rfl) rfl ?_
  refine V_iload_n_8 (pc := 1) C (dk k_F_within 1 rfl) rfl ?_
  refine V_icmplt_8 (pc := 2) C (dk k_F_within 2 rfl) 14 rfl (by first | assumption | exact hR _ _ | exact ⟨by omega, by omega⟩) (by first | assumption | exact hR _ _ | exact ⟨by omega, by omega⟩) (fun h1 => ?_) (fun h1 => ?_)
  · skip
    refine V_iconst_8 (pc := 14) C (dk k_F_within 8 rfl) rfl ?_
    refine V_zret_8 (pc := 15) C (by first | exact Or.inl rfl | exact Or.inr rfl | (split <;> first | exact Or.inl rfl | exact Or.inr rfl) | omega) E (dk k_F_within 9 rfl) ?_
    first | exact ⟨rfl, rfl⟩ | (refine ⟨?_, rfl⟩; first | rw [if_pos (by omega)] | rw [if_neg (by omega)])
  · skip
    refine V_iload_n_8 (pc := 5) C (dk k_F_within 3 rfl) rfl ?_
    refine V_iload_n_8 (pc := 6) C (dk k_F_within 4 rfl) rfl ?_
    refine V_icmpgt_8 (pc := 7) C (dk k_F_within 5 rfl) 14 rfl (by first | assumption | exact hR _ _ | exact ⟨by omega, by omega⟩) (by first | assumption | exact hR _ _ | exact ⟨by omega, by omega⟩) (fun h2 => ?_) (fun h2 => ?_)
    · skip
      refine V_iconst_8 (pc := 14) C (dk k_F_within 8 rfl) rfl ?_
      refine V_zret_8 (pc := 15) C (by first | exact Or.inl rfl | exact Or.inr rfl | (split <;> first | exact Or.inl rfl | exact Or.inr rfl) | omega) E (dk k_F_within 9 rfl) ?_
      first | exact ⟨rfl, rfl⟩ | (refine ⟨?_, rfl⟩; first | rw [if_pos (by omega)] | rw [if_neg (by omega)])
    · skip
      refine V_iconst_8 (pc := 10) C (dk k_F_within 6 rfl) rfl ?_
      refine V_goto_8 (pc := 11) C (dk k_F_within 7 rfl) 15 rfl ?_
      refine V_zret_8 (pc := 15) C (by first | exact Or.inl rfl | exact Or.inr rfl | (split <;> first | exact Or.inl rfl | exact Or.inr rfl) | omega) E (dk k_F_within 9 rfl) ?_
      first | exact ⟨rfl, rfl⟩ | (refine ⟨?_, rfl⟩; first | rw [if_pos (by omega)] | rw [if_neg (by omega)])

set_option maxHeartbeats 1000000 in
set_option maxRecDepth 20000 in
theorem c_F_at_8 (l : Launch) (G : GE) (σ : Wd) (a n : Nat) (i : Int) (ha : kd_8 a = 1000 + n) (hn : n < 1000) (hi : inR i) : Ct_8 l G y_F_at b_F_at 2 (some (.int)) 0 0 [vR a, vI i] σ (Dt (some (vI (if 0 ≤ i ∧ i < n then σ a i else 0))) σ) := by
  refine Ct_8.of cm_F_at (Nat.le_of_ble_eq_true rfl) ?_
  intro X hXl hXG hXN hRm C E
  subst hXl; subst hXG
  have ⟨hi_1, hi_2⟩ := hi
  show V_8 X 0 [some (vR a), some (vI i)] [] σ
  refine V_R_8 (fun hR => ?_)
  refine V_iload_n_8 (pc := 0) C (dk k_F_at 0 rfl) rfl ?_
  refine V_iflt_8 (pc := 1) C (dk k_F_at 1 rfl) 16 rfl (by first | assumption | exact hR _ _ | exact ⟨by omega, by omega⟩) (fun h1 => ?_) (fun h1 => ?_)
  · skip
    refine V_iconst_8 (pc := 16) C (dk k_F_at 10 rfl) rfl ?_
    refine V_iret_8 (pc := 17) C E (dk k_F_at 11 rfl) ?_
    first | exact ⟨rfl, rfl⟩ | (refine ⟨?_, rfl⟩; first | rw [if_pos (by omega)] | rw [if_neg (by omega)])
  · skip
    refine V_iload_n_8 (pc := 4) C (dk k_F_at 2 rfl) rfl ?_
    refine V_aload_n_8 (pc := 5) C (dk k_F_at 3 rfl) rfl ?_
    refine V_alen_8 (pc := 6) C (dk k_F_at 4 rfl) (Or.inl ha) hn rfl ?_
    refine V_icmpge_8 (pc := 7) C (dk k_F_at 5 rfl) 16 rfl (by first | assumption | exact hR _ _ | exact ⟨by omega, by omega⟩) (by first | assumption | exact hR _ _ | exact ⟨by omega, by omega⟩) (fun h2 => ?_) (fun h2 => ?_)
    · skip
      refine V_iconst_8 (pc := 16) C (dk k_F_at 10 rfl) rfl ?_
      refine V_iret_8 (pc := 17) C E (dk k_F_at 11 rfl) ?_
      first | exact ⟨rfl, rfl⟩ | (refine ⟨?_, rfl⟩; first | rw [if_pos (by omega)] | rw [if_neg (by omega)])
    · skip
      refine V_aload_n_8 (pc := 10) C (dk k_F_at 6 rfl) rfl ?_
      refine V_iload_n_8 (pc := 11) C (dk k_F_at 7 rfl) rfl ?_
      refine V_iald_8 (pc := 12) C (dk k_F_at 8 rfl) ha hn (by omega) (by omega) ?_
      refine V_goto_8 (pc := 13) C (dk k_F_at 9 rfl) 17 rfl ?_
      refine V_iret_8 (pc := 17) C E (dk k_F_at 11 rfl) ?_
      first | exact ⟨rfl, rfl⟩ | (refine ⟨?_, rfl⟩; first | rw [if_pos (by omega)] | rw [if_neg (by omega)])

set_option maxHeartbeats 1000000 in
set_option maxRecDepth 20000 in
theorem c_F_put_8 (l : Launch) (G : GE) (σ : Wd) (a n : Nat) (i x : Int) (ha : kd_8 a = 1000 + n) (hn : n < 1000) (hi : inR i) (hx : inR x) : Ct_8 l G y_F_put b_F_put 3 (none) 0 0 [vR a, vI i, vI x] σ (Dt none (if 0 ≤ i ∧ i < n then up σ a i x else σ)) := by
  refine Ct_8.of cm_F_put (Nat.le_of_ble_eq_true rfl) ?_
  intro X hXl hXG hXN hRm C E
  subst hXl; subst hXG
  have ⟨hi_1, hi_2⟩ := hi
  have ⟨hx_1, hx_2⟩ := hx
  show V_8 X 0 [some (vR a), some (vI i), some (vI x)] [] σ
  refine V_R_8 (fun hR => ?_)
  refine V_iload_n_8 (pc := 0) C (dk k_F_put 0 rfl) rfl ?_
  refine V_iflt_8 (pc := 1) C (dk k_F_put 1 rfl) 14 rfl (by first | assumption | exact hR _ _ | exact ⟨by omega, by omega⟩) (fun h1 => ?_) (fun h1 => ?_)
  · skip
    refine V_vret_8 (pc := 14) C E (dk k_F_put 10 rfl) ?_
    first | exact ⟨rfl, (if_pos (by omega)).symm⟩ | exact ⟨rfl, (if_neg (by omega)).symm⟩
  · skip
    refine V_iload_n_8 (pc := 4) C (dk k_F_put 2 rfl) rfl ?_
    refine V_aload_n_8 (pc := 5) C (dk k_F_put 3 rfl) rfl ?_
    refine V_alen_8 (pc := 6) C (dk k_F_put 4 rfl) (Or.inl ha) hn rfl ?_
    refine V_icmpge_8 (pc := 7) C (dk k_F_put 5 rfl) 14 rfl (by first | assumption | exact hR _ _ | exact ⟨by omega, by omega⟩) (by first | assumption | exact hR _ _ | exact ⟨by omega, by omega⟩) (fun h2 => ?_) (fun h2 => ?_)
    · skip
      refine V_vret_8 (pc := 14) C E (dk k_F_put 10 rfl) ?_
      first | exact ⟨rfl, (if_pos (by omega)).symm⟩ | exact ⟨rfl, (if_neg (by omega)).symm⟩
    · skip
      refine V_aload_n_8 (pc := 10) C (dk k_F_put 6 rfl) rfl ?_
      refine V_iload_n_8 (pc := 11) C (dk k_F_put 7 rfl) rfl ?_
      refine V_iload_n_8 (pc := 12) C (dk k_F_put 8 rfl) rfl ?_
      refine V_iast_8 (pc := 13) C (dk k_F_put 9 rfl) ha hn (by omega) (by omega) (by first | assumption | exact hR _ _ | exact ⟨by omega, by omega⟩) ?_
      refine V_R_8 (fun hR => ?_)
      refine V_vret_8 (pc := 14) C E (dk k_F_put 10 rfl) ?_
      first | exact ⟨rfl, (if_pos (by omega)).symm⟩ | exact ⟨rfl, (if_neg (by omega)).symm⟩

theorem c_at_8 (l : Launch) (G : GE) (σ : Wd) (a n : Nat) (i : Int) (ha : kd_8 a = 1000 + n) (hn : n < 1000) (h0 : 0 ≤ i) (h1 : i < n) : Ct_8 l G y_F_at b_F_at 2 (some (.int)) 0 0 [vR a, vI i] σ (Dt (some (vI (σ a i))) σ) := by
  have := c_F_at_8 l G σ a n i ha hn ⟨by omega, by omega⟩
  rwa [if_pos ⟨h0, h1⟩] at this
theorem c_put_8 (l : Launch) (G : GE) (σ : Wd) (a n : Nat) (i x : Int) (ha : kd_8 a = 1000 + n) (hn : n < 1000) (h0 : 0 ≤ i) (h1 : i < n) (hx : inR x) : Ct_8 l G y_F_put b_F_put 3 none 0 0 [vR a, vI i, vI x] σ (Dt none (up σ a i x)) := by
  have := c_F_put_8 l G σ a n i x ha hn ⟨by omega, by omega⟩ hx
  rwa [if_pos ⟨h0, h1⟩] at this
set_option maxHeartbeats 1000000 in
set_option maxRecDepth 20000 in
theorem c_F_copyRow_8 (l : Launch) (G : GE) (σ : Wd) (a b n : Nat) (ha : kd_8 a = 1000 + n) (hb : kd_8 b = 1000 + n) (hn : n < 1000) (hab : a ≠ b) : Ct_8 l G y_F_copyRow b_F_copyRow 3 (none) 1 22 [vR a, vR b] σ (Dt none (cpw σ a b n)) := by
  refine Ct_8.of cm_F_copyRow (Nat.le_of_ble_eq_true rfl) ?_
  intro X hXl hXG hXN hRm C E
  subst hXl; subst hXG
  show V_8 X 0 [some (vR a), some (vR b), none] [] σ
  refine V_R_8 (fun hR => ?_)
  refine V_iconst_8 (pc := 0) C (dk k_F_copyRow 0 rfl) rfl ?_
  refine V_istore_n_8 (pc := 1) C (dk k_F_copyRow 1 rfl) (by rw [hXN]; decide) ?_
  dsimp only [lst, lstL, lz, kill, Fin.val, Nat.reduceAdd]
  refine V_eq_8 (V_loop_8 (fun i : Int => 0 ≤ i ∧ i ≤ n) (fun i => [some (vR a), some (vR b), some (vI i)]) (fun i => cpw σ a b i) (fun i => (n - i).toNat) (fun i hi ih => ?_) 0 ⟨by omega, by omega⟩) rfl rfl (cpw_0 σ a b).symm
  obtain ⟨hi0, hi1⟩ := hi
  refine V_R_8 (fun hR => ?_)
  refine V_iload_n_8 (pc := 2) C (dk k_F_copyRow 2 rfl) rfl ?_
  refine V_aload_n_8 (pc := 3) C (dk k_F_copyRow 3 rfl) rfl ?_
  refine V_alen_8 (pc := 4) C (dk k_F_copyRow 4 rfl) (Or.inl hb) hn rfl ?_
  refine V_icmpge_8 (pc := 5) C (dk k_F_copyRow 5 rfl) 24 rfl (by first | assumption | exact hR _ _ | exact ⟨by omega, by omega⟩) (by first | assumption | exact hR _ _ | exact ⟨by omega, by omega⟩) (fun h1 => ?_) (fun h1 => ?_)
  · skip
    refine V_vret_8 (pc := 24) C E (dk k_F_copyRow 14 rfl) ?_
    have e : i = n := by omega
    subst e
    exact ⟨rfl, rfl⟩
  · skip
    refine V_aload_n_8 (pc := 8) C (dk k_F_copyRow 6 rfl) rfl ?_
    refine V_iload_n_8 (pc := 9) C (dk k_F_copyRow 7 rfl) rfl ?_
    refine V_aload_n_8 (pc := 10) C (dk k_F_copyRow 8 rfl) rfl ?_
    refine V_iload_n_8 (pc := 11) C (dk k_F_copyRow 9 rfl) rfl ?_
    refine V_callS_8 (pc := 12) C (dk k_F_copyRow 10 rfl) lk_F_117 cm_F_at sm_F_at (c_at_8 _ _ _ a n i ha hn hi0 (by omega)) rfl rfl (Nat.le_of_ble_eq_true rfl) (Rm.mono hRm (by decide) (by decide)) ?_
    refine V_callS0_8 (pc := 15) C (dk k_F_copyRow 11 rfl) lk_F_290 cm_F_put sm_F_put (c_put_8 _ _ _ b n i _ hb hn hi0 (by omega) (hR _ _)) rfl rfl (Nat.le_of_ble_eq_true rfl) (Rm.mono hRm (by decide) (by decide)) ?_
    refine V_iinc_8 (pc := 18) C (dk k_F_copyRow 12 rfl) (by rw [hXN]; decide) rfl ?_
    dsimp only [lst, lstL, lz, kill, Fin.val, Nat.reduceAdd]
    refine V_goto_8 (pc := 21) C (dk k_F_copyRow 13 rfl) 2 rfl ?_
    rw [cpw_s σ a b i hab hi0]
    exact ih (i + 1) ⟨by omega, by omega⟩ (by omega)

/-- the class's plan p stands for π -/
def PlR_8 (σ : Wd) (p : Nat) (π : PL) : Prop := kd_8 p = 5 ∧ σ p 0 = pP π ∧ σ p 2 = pN π ∧ σ p 7 = pR π ∧ σ p 10 = pL π ∧ (∀ t : Int, 0 ≤ t → t < pN π → σ (p + 2) t = pO π t ∧ σ (p + 3) t = pK π t ∧ σ (p + 5) t = pU π t) ∧ (∀ r : Int, 0 ≤ r → r < pR π → σ (p + 6) r = pX π r)
/-- the class's stand s stands for x -/
def StR_8 (σ : Wd) (s : Nat) (π : PL) (x : ST) : Prop := kd_8 s = 7 ∧ σ s 0 = sD x ∧ σ s 1 = sM x ∧ (∀ q : Int, 0 ≤ q → q < pP π → σ (s + 1) q = sG x q ∧ σ (s + 2) q = sR x q) ∧ (∀ t : Int, 0 ≤ t → t < pN π → σ (s + 3) t = sN x t ∧ σ (s + 4) t = sP x t)

section VC2
variable {X : KX} {cc : ByteArray} {own : String} {pc : Nat} {ls : List (Option AV)} {st : List AV} {σ : Wd}
theorem V_callVr_8 (C : Cx_8 X cc own) {index nL2 n rF rL o ci N : Nat} {T : u_T} {y : MethodName} {b : ByteArray} {ret : Option FieldType} {as rest : List AV} {v : AV} {Q : Wd → Prop} (d : decode cc pc = .ok (.invokevirtual index, 3)) (lk : LK own index y) (cm : CMs y b nL2 ret n) (vm : VM y) (hM : Ct_8 (xL X) (xG X) y b nL2 ret rF rL (vR o :: as) σ (Rt (some v) Q))
    (hk : kd_8 o = ci) (hcl : CL[ci]? = some (y.cls, T, N)) (hn : as.length = n) (hst : st = as.reverse ++ vR o :: rest) (hroom : (rest.map avc).sum ≤ 8) (hRm : Rm X (rF + 1) (8 + (nL2 + 11) + rL)) (k : ∀ σ1, Q σ1 → V_8 X (pc + 3) ls (v :: rest) σ1) : V_8 X pc ls st σ :=
  V_callVg_8 C d lk cm vm hM hk hcl hn hst hroom hRm (fun r σ' h => by obtain ⟨rfl, h⟩ := h; exact k _ h)
theorem V_callV0r_8 (C : Cx_8 X cc own) {index nL2 n rF rL o ci N : Nat} {T : u_T} {y : MethodName} {b : ByteArray} {ret : Option FieldType} {as rest : List AV} {Q : Wd → Prop} (d : decode cc pc = .ok (.invokevirtual index, 3)) (lk : LK own index y) (cm : CMs y b nL2 ret n) (vm : VM y) (hM : Ct_8 (xL X) (xG X) y b nL2 ret rF rL (vR o :: as) σ (Rt none Q))
    (hk : kd_8 o = ci) (hcl : CL[ci]? = some (y.cls, T, N)) (hn : as.length = n) (hst : st = as.reverse ++ vR o :: rest) (hroom : (rest.map avc).sum ≤ 8) (hRm : Rm X (rF + 1) (8 + (nL2 + 11) + rL)) (k : ∀ σ1, Q σ1 → V_8 X (pc + 3) ls rest σ1) : V_8 X pc ls st σ :=
  V_callVg_8 C d lk cm vm hM hk hcl hn hst hroom hRm (fun r σ' h => by obtain ⟨rfl, h⟩ := h; exact k _ h)
end VC2
theorem PlR_8.fr {σ σ' : Wd} {p : Nat} {π : PL} (h : PlR_8 σ p π) (hf : ∀ k, p ≤ k → k < p + 7 → σ' k = σ k) : PlR_8 σ' p π := by
  obtain ⟨h0, h1, h2, h3, h4, h5, h6⟩ := h
  refine ⟨h0, ?_, ?_, ?_, ?_, fun t a b => ?_, fun r a b => ?_⟩
  · rw [hf p (by omega) (by omega)]; exact h1
  · rw [hf p (by omega) (by omega)]; exact h2
  · rw [hf p (by omega) (by omega)]; exact h3
  · rw [hf p (by omega) (by omega)]; exact h4
  · rw [hf (p + 2) (by omega) (by omega), hf (p + 3) (by omega) (by omega), hf (p + 5) (by omega) (by omega)]; exact h5 t a b
  · rw [hf (p + 6) (by omega) (by omega)]; exact h6 r a b
theorem StR_8.fr {σ σ' : Wd} {s : Nat} {π : PL} {x : ST} (h : StR_8 σ s π x) (hf : ∀ k, s ≤ k → k < s + 5 → σ' k = σ k) : StR_8 σ' s π x := by
  obtain ⟨h0, h1, h2, h3, h4⟩ := h
  refine ⟨h0, ?_, ?_, fun q a b => ?_, fun t a b => ?_⟩
  · rw [hf s (by omega) (by omega)]; exact h1
  · rw [hf s (by omega) (by omega)]; exact h2
  · rw [hf (s + 1) (by omega) (by omega), hf (s + 2) (by omega) (by omega)]; exact h3 q a b
  · rw [hf (s + 3) (by omega) (by omega), hf (s + 4) (by omega) (by omega)]; exact h4 t a b
/-- plans lie ahead of the stands -/
theorem kd_PS_8 {p s : Nat} (hp : kd_8 p = 5) (hs : kd_8 s = 7) : p + 7 ≤ s := by
  have key : ∀ a b : Fin NO_8, kd_8 a.val = 5 → kd_8 b.val = 7 → a.val + 7 ≤ b.val := by decide +kernel
  exact key ⟨p, kd_lt_8 hp (by decide)⟩ ⟨s, kd_lt_8 hs (by decide)⟩ hp hs
theorem kq_1_8 : kd_8 1 = 2 := by decide +kernel
theorem kq_2_8 : kd_8 2 = 2000 + 200 := by decide +kernel
theorem kq_3_8 : kd_8 3 = 6 := by decide +kernel
theorem kq_4_8 : kd_8 4 = 1000 + 4 := by decide +kernel
set_option maxHeartbeats 1000000 in
set_option maxRecDepth 20000 in
theorem c_S_begin_8 (l : Launch) (G : GE) (σ : Wd) (s p : Nat) (hs : kd_8 s = 7) (hp : kd_8 p = 5) : Ct_8 l G y_S_begin b_S_begin 3 (none) 2 44 [vR s, vR p] σ (Rt none (fun σ' => (σ' s 0 = 0 ∧ σ' s 1 = σ p 9 ∧ (∀ i : Int, 0 ≤ i → i < 5 → σ' (s + 1) i = σ (p + 1) i ∧ σ' (s + 2) i = 0) ∧ (∀ i : Int, 0 ≤ i → i < 8 → σ' (s + 3) i = σ (p + 4) i ∧ σ' (s + 4) i = 0)) ∧ Fr s 5 σ σ')) := by
  refine Ct_8.of cm_S_begin (Nat.le_of_ble_eq_true rfl) ?_
  intro X hXl hXG hXN hRm C E
  subst hXl; subst hXG
  show V_8 X 0 [some (vR s), some (vR p), none] [] σ
  refine V_R_8 (fun hR => ?_)
  obtain ⟨hs_1, hs_2, hs_3, hs_4⟩ := kd_S_8 hs
  obtain ⟨hp_1, hp_2, hp_3, hp_4, hp_5, hp_6⟩ := kd_P_8 hp
  have hd := kd_PS_8 hp hs
  refine V_aload_n_8 (pc := 0) C (dk k_S_begin 0 rfl) rfl ?_
  refine V_iconst_8 (pc := 1) C (dk k_S_begin 1 rfl) rfl ?_
  refine V_puti_8 (pc := 2) (ji := 0) C (dk k_S_begin 2 rfl) fl_S_24 fw_7_0 hs (by decide) rfl rfl R0 ?_
  refine V_R_8 (fun hR => ?_)
  refine V_aload_n_8 (pc := 5) C (dk k_S_begin 3 rfl) rfl ?_
  refine V_aload_n_8 (pc := 6) C (dk k_S_begin 4 rfl) rfl ?_
  refine V_geti_8 (pc := 7) (ji := 9) C (dk k_S_begin 5 rfl) fl_S_28 hp (by decide) rfl rfl ?_
  refine V_puti_8 (pc := 10) (ji := 1) C (dk k_S_begin 6 rfl) fl_S_33 fw_7_1 hs (by decide) rfl rfl (hR _ _) ?_
  refine V_R_8 (fun hR => ?_)
  refine V_aload_n_8 (pc := 13) C (dk k_S_begin 7 rfl) rfl ?_
  refine V_getr_8 (pc := 14) (o2 := p + 1) C (dk k_S_begin 8 rfl) fl_S_34 hp (by decide) rfl (by decide) rfl ?_
  refine V_aload_n_8 (pc := 17) C (dk k_S_begin 9 rfl) rfl ?_
  refine V_getr_8 (pc := 18) (o2 := s + 1) C (dk k_S_begin 10 rfl) fl_S_9 hs (by decide) rfl (by decide) rfl ?_
  refine V_callS0_8 (pc := 21) C (dk k_S_begin 11 rfl) lk_S_35 cm_F_copyRow sm_F_copyRow (c_F_copyRow_8 _ _ _ (p + 1) (s + 1) 5 hp_1 hs_1 (by decide) (by omega)) rfl rfl (Nat.le_of_ble_eq_true rfl) (Rm.mono hRm (by decide) (by decide)) ?_
  refine V_R_8 (fun hR => ?_)
  refine V_aload_n_8 (pc := 24) C (dk k_S_begin 12 rfl) rfl ?_
  refine V_getr_8 (pc := 25) (o2 := p + 4) C (dk k_S_begin 13 rfl) fl_S_39 hp (by decide) rfl (by decide) rfl ?_
  refine V_aload_n_8 (pc := 28) C (dk k_S_begin 14 rfl) rfl ?_
  refine V_getr_8 (pc := 29) (o2 := s + 3) C (dk k_S_begin 15 rfl) fl_S_18 hs (by decide) rfl (by decide) rfl ?_
  refine V_callS0_8 (pc := 32) C (dk k_S_begin 16 rfl) lk_S_35 cm_F_copyRow sm_F_copyRow (c_F_copyRow_8 _ _ _ (p + 4) (s + 3) 8 hp_4 hs_3 (by decide) (by omega)) rfl rfl (Nat.le_of_ble_eq_true rfl) (Rm.mono hRm (by decide) (by decide)) ?_
  refine V_R_8 (fun hR => ?_)
  generalize hτ : cpw _ (p + 4) (s + 3) _ = τ at hR ⊢
  refine V_iconst_8 (pc := 35) C (dk k_S_begin 17 rfl) rfl ?_
  refine V_istore_n_8 (pc := 36) C (dk k_S_begin 18 rfl) (by rw [hXN]; decide) ?_
  dsimp only [lst, lstL, lz, kill, Fin.val, Nat.reduceAdd]
  refine V_eq_8 (V_loop_8 (fun i : Int => 0 ≤ i ∧ i ≤ 5) (fun i => [some (vR s), some (vR p), some (vI i)]) (fun i => zpw τ (s + 2) i) (fun i => (5 - i).toNat) (fun i hi ih => ?_) 0 ⟨by omega, by omega⟩) rfl rfl (zpw_0 τ (s + 2)).symm
  obtain ⟨hi0, hi1⟩ := hi
  refine V_iload_n_8 (pc := 37) C (dk k_S_begin 19 rfl) rfl ?_
  refine V_iconst_8 (pc := 38) C (dk k_S_begin 20 rfl) rfl ?_
  refine V_icmpge_8 (pc := 39) C (dk k_S_begin 21 rfl) 57 rfl (by first | exact hR _ _ | with_reducible assumption | exact ⟨by omega, by omega⟩) (by first | exact hR _ _ | with_reducible assumption | exact ⟨by omega, by omega⟩) (fun h1 => ?_) (fun h1 => ?_)
  · skip
    obtain rfl : i = 5 := by omega
    refine V_iconst_8 (pc := 57) C (dk k_S_begin 29 rfl) rfl ?_
    refine V_istore_n_8 (pc := 58) C (dk k_S_begin 30 rfl) (by rw [hXN]; decide) ?_
    dsimp only [lst, lstL, lz, kill, Fin.val, Nat.reduceAdd]
    refine V_eq_8 (V_loop_8 (fun i : Int => 0 ≤ i ∧ i ≤ 8) (fun i => [some (vR s), some (vR p), some (vI i)]) (fun i => zpw (zpw τ (s + 2) 5) (s + 4) i) (fun i => (8 - i).toNat) (fun i hi ih => ?_) 0 ⟨by omega, by omega⟩) rfl rfl (zpw_0 _ (s + 4)).symm
    obtain ⟨hi0, hi1⟩ := hi
    refine V_iload_n_8 (pc := 59) C (dk k_S_begin 31 rfl) rfl ?_
    refine V_bipush_8 (pc := 60) (n' := 8) C (dk k_S_begin 32 rfl) rfl ?_
    refine V_icmpge_8 (pc := 62) C (dk k_S_begin 33 rfl) 80 rfl (by first | exact hR _ _ | with_reducible assumption | exact ⟨by omega, by omega⟩) (by first | exact hR _ _ | with_reducible assumption | exact ⟨by omega, by omega⟩) (fun h2 => ?_) (fun h2 => ?_)
    · skip
      refine V_vret_8 (pc := 80) C E (dk k_S_begin 41 rfl) ?_
      obtain rfl : i = 8 := by omega
      subst hτ
      refine ⟨rfl, ⟨?_, ?_, fun i a b => ⟨?_, ?_⟩, fun i a b => ⟨?_, ?_⟩⟩, fun k hk => ?_⟩
      all_goals (first | (simp (disch := omega) only [zpw_ne, zpw_in, cpw_ne, cpw_in, up_ne1, up_ne2, up_at]; done) | (funext i; simp (disch := omega) only [zpw_ne, cpw_ne, up_ne1, up_ne2]; done))
    · skip
      refine V_aload_n_8 (pc := 65) C (dk k_S_begin 34 rfl) rfl ?_
      refine V_getr_8 (pc := 66) (o2 := s + 4) C (dk k_S_begin 35 rfl) fl_S_21 hs (by decide) rfl (by decide) rfl ?_
      refine V_iload_n_8 (pc := 69) C (dk k_S_begin 36 rfl) rfl ?_
      refine V_iconst_8 (pc := 70) C (dk k_S_begin 37 rfl) rfl ?_
      refine V_callS0_8 (pc := 71) C (dk k_S_begin 38 rfl) lk_S_40 cm_F_put sm_F_put (c_put_8 _ _ _ (s + 4) 8 i 0 hs_4 (by decide) hi0 (by omega) R0) rfl rfl (Nat.le_of_ble_eq_true rfl) (Rm.mono hRm (by decide) (by decide)) ?_
      refine V_R_8 (fun hR => ?_)
      refine V_iinc_8 (pc := 74) C (dk k_S_begin 39 rfl) (by rw [hXN]; decide) rfl ?_
      dsimp only [lst, lstL, lz, kill, Fin.val, Nat.reduceAdd]
      refine V_goto_8 (pc := 77) C (dk k_S_begin 40 rfl) 59 rfl ?_
      rw [zpw_s _ (s + 4) i hi0]
      exact ih (i + 1) ⟨by omega, by omega⟩ (by omega)
  · skip
    refine V_aload_n_8 (pc := 42) C (dk k_S_begin 22 rfl) rfl ?_
    refine V_getr_8 (pc := 43) (o2 := s + 2) C (dk k_S_begin 23 rfl) fl_S_15 hs (by decide) rfl (by decide) rfl ?_
    refine V_iload_n_8 (pc := 46) C (dk k_S_begin 24 rfl) rfl ?_
    refine V_iconst_8 (pc := 47) C (dk k_S_begin 25 rfl) rfl ?_
    refine V_callS0_8 (pc := 48) C (dk k_S_begin 26 rfl) lk_S_40 cm_F_put sm_F_put (c_put_8 _ _ _ (s + 2) 5 i 0 hs_2 (by decide) hi0 (by omega) R0) rfl rfl (Nat.le_of_ble_eq_true rfl) (Rm.mono hRm (by decide) (by decide)) ?_
    refine V_R_8 (fun hR => ?_)
    refine V_iinc_8 (pc := 51) C (dk k_S_begin 27 rfl) (by rw [hXN]; decide) rfl ?_
    dsimp only [lst, lstL, lz, kill, Fin.val, Nat.reduceAdd]
    refine V_goto_8 (pc := 54) C (dk k_S_begin 28 rfl) 37 rfl ?_
    rw [zpw_s τ (s + 2) i hi0]
    exact ih (i + 1) ⟨by omega, by omega⟩ (by omega)

set_option maxHeartbeats 1000000 in
set_option maxRecDepth 20000 in
theorem c_L_add_8 (l : Launch) (G : GE) (σ : Wd) (z : Int) (hz0 : 0 ≤ z) (hz1 : z < 65536) (h0 : 0 ≤ σ 1 1) (h1 : σ 1 1 ≤ 200) : Ct_8 l G y_L_add b_L_add 2 (some (.boolean)) 0 0 [vR 1, vI z] σ (Dt (some (vI (if σ 1 1 < 200 then 1 else 0))) (if σ 1 1 < 200 then up (up σ 2 (σ 1 1) z) 1 1 (σ 1 1 + 1) else σ)) := by
  refine Ct_8.of cm_L_add (Nat.le_of_ble_eq_true rfl) ?_
  intro X hXl hXG hXN hRm C E
  subst hXl; subst hXG
  show V_8 X 0 [some (vR 1), some (vI z)] [] σ
  refine V_R_8 (fun hR => ?_)
  refine V_aload_n_8 (pc := 0) C (dk k_L_add 0 rfl) rfl ?_
  refine V_geti_8 (pc := 1) (ji := 1) C (dk k_L_add 1 rfl) fl_L_15 kq_1_8 (by decide) rfl rfl ?_
  refine V_iflt_8 (pc := 4) C (dk k_L_add 2 rfl) 19 rfl (by first | exact hR _ _ | with_reducible assumption | exact ⟨by omega, by omega⟩) (fun h1 => ?_) (fun h1 => ?_)
  · skip
    refine V_iconst_8 (pc := 19) C (dk k_L_add 9 rfl) rfl ?_
    refine V_zret_8 (pc := 20) C (by first | exact Or.inl rfl | exact Or.inr rfl | (split <;> first | exact Or.inl rfl | exact Or.inr rfl) | omega) E (dk k_L_add 10 rfl) ?_
    first | (rw [if_pos (by assumption), if_pos (by assumption)]; exact ⟨rfl, rfl⟩) | (exfalso; omega) | (rw [if_neg (by omega), if_neg (by omega)]; exact ⟨rfl, rfl⟩)
  · skip
    refine V_aload_n_8 (pc := 7) C (dk k_L_add 3 rfl) rfl ?_
    refine V_geti_8 (pc := 8) (ji := 1) C (dk k_L_add 4 rfl) fl_L_15 kq_1_8 (by decide) rfl rfl ?_
    refine V_aload_n_8 (pc := 11) C (dk k_L_add 5 rfl) rfl ?_
    refine V_getr_8 (pc := 12) (o2 := 2) C (dk k_L_add 6 rfl) fl_L_9 kq_1_8 (by decide) rfl (by decide) rfl ?_
    refine V_alen_8 (pc := 15) C (dk k_L_add 7 rfl) (n := 200) (Or.inr (Or.inl kq_2_8)) (by decide) rfl ?_
    refine V_icmplt_8 (pc := 16) C (dk k_L_add 8 rfl) 21 rfl (by first | exact hR _ _ | with_reducible assumption | exact ⟨by omega, by omega⟩) (by first | exact hR _ _ | with_reducible assumption | exact ⟨by omega, by omega⟩) (fun h2 => ?_) (fun h2 => ?_)
    · skip
      refine V_aload_n_8 (pc := 21) C (dk k_L_add 11 rfl) rfl ?_
      refine V_getr_8 (pc := 22) (o2 := 2) C (dk k_L_add 12 rfl) fl_L_9 kq_1_8 (by decide) rfl (by decide) rfl ?_
      refine V_aload_n_8 (pc := 25) C (dk k_L_add 13 rfl) rfl ?_
      refine V_geti_8 (pc := 26) (ji := 1) C (dk k_L_add 14 rfl) fl_L_15 kq_1_8 (by decide) rfl rfl ?_
      refine V_iload_n_8 (pc := 29) C (dk k_L_add 15 rfl) rfl ?_
      refine V_cast_8 (pc := 30) C (dk k_L_add 16 rfl) kq_2_8 (by decide) (by omega) (by omega) (by omega) (by omega) ?_
      refine V_R_8 (fun hR => ?_)
      refine V_aload_n_8 (pc := 31) C (dk k_L_add 17 rfl) rfl ?_
      refine V_dupR_8 (pc := 32) C (dk k_L_add 18 rfl) ?_
      refine V_geti_8 (pc := 33) (ji := 1) C (dk k_L_add 19 rfl) fl_L_15 kq_1_8 (by decide) rfl rfl ?_
      have e1 : up σ 2 (σ 1 1) z 1 1 = σ 1 1 := up_ne1 _ _ _ _ (by decide)
      rw [e1]
      refine V_iconst_8 (pc := 36) C (dk k_L_add 20 rfl) rfl ?_
      refine V_iadd_8 (pc := 37) C (dk k_L_add 21 rfl) ?_
      refine V_puti_8 (pc := 38) (ji := 1) C (dk k_L_add 22 rfl) fl_L_15 fw_2_1 kq_1_8 (by decide) rfl rfl ⟨by omega, by omega⟩ ?_
      refine V_R_8 (fun hR => ?_)
      refine V_iconst_8 (pc := 41) C (dk k_L_add 23 rfl) rfl ?_
      refine V_zret_8 (pc := 42) C (by first | exact Or.inl rfl | exact Or.inr rfl | (split <;> first | exact Or.inl rfl | exact Or.inr rfl) | omega) E (dk k_L_add 24 rfl) ?_
      first | (rw [if_pos (by assumption), if_pos (by assumption)]; exact ⟨rfl, rfl⟩) | (exfalso; omega) | (rw [if_neg (by omega), if_neg (by omega)]; exact ⟨rfl, rfl⟩)
    · skip
      refine V_iconst_8 (pc := 19) C (dk k_L_add 9 rfl) rfl ?_
      refine V_zret_8 (pc := 20) C (by first | exact Or.inl rfl | exact Or.inr rfl | (split <;> first | exact Or.inl rfl | exact Or.inr rfl) | omega) E (dk k_L_add 10 rfl) ?_
      first | (rw [if_pos (by assumption), if_pos (by assumption)]; exact ⟨rfl, rfl⟩) | (exfalso; omega) | (rw [if_neg (by omega), if_neg (by omega)]; exact ⟨rfl, rfl⟩)

set_option maxHeartbeats 1000000 in
set_option maxRecDepth 20000 in
theorem c_L_letter_8 (l : Launch) (G : GE) (σ : Wd) (i : Int) (hi : inR i) (h0 : 0 ≤ σ 1 1) (h1 : σ 1 1 ≤ 200) (hc : ∀ k : Int, 0 ≤ k → k < σ 1 1 → 0 ≤ σ 2 k ∧ σ 2 k < 65536) : Ct_8 l G y_L_letter b_L_letter 2 (some (.char)) 0 0 [vR 1, vI i] σ (Dt (some (vI (if 0 ≤ i ∧ i < σ 1 1 then σ 2 i else 0))) σ) := by
  refine Ct_8.of cm_L_letter (Nat.le_of_ble_eq_true rfl) ?_
  intro X hXl hXG hXN hRm C E
  subst hXl; subst hXG
  have ⟨hi_1, hi_2⟩ := hi
  show V_8 X 0 [some (vR 1), some (vI i)] [] σ
  refine V_R_8 (fun hR => ?_)
  refine V_iload_n_8 (pc := 0) C (dk k_L_letter 0 rfl) rfl ?_
  refine V_iflt_8 (pc := 1) C (dk k_L_letter 1 rfl) 30 rfl (by first | exact hR _ _ | with_reducible assumption | exact ⟨by omega, by omega⟩) (fun h1 => ?_) (fun h1 => ?_)
  · skip
    refine V_iconst_8 (pc := 30) C (dk k_L_letter 16 rfl) rfl ?_
    refine V_cret_8 (pc := 31) C (by omega) (by omega) E (dk k_L_letter 17 rfl) ?_
    first | exact ⟨rfl, rfl⟩ | (refine ⟨?_, rfl⟩; first | (rw [if_pos (by omega)]; done) | (rw [if_neg (by omega)]; done))
  · skip
    refine V_iload_n_8 (pc := 4) C (dk k_L_letter 2 rfl) rfl ?_
    refine V_aload_n_8 (pc := 5) C (dk k_L_letter 3 rfl) rfl ?_
    refine V_geti_8 (pc := 6) (ji := 1) C (dk k_L_letter 4 rfl) fl_L_15 kq_1_8 (by decide) rfl rfl ?_
    refine V_icmpge_8 (pc := 9) C (dk k_L_letter 5 rfl) 30 rfl (by first | exact hR _ _ | with_reducible assumption | exact ⟨by omega, by omega⟩) (by first | exact hR _ _ | with_reducible assumption | exact ⟨by omega, by omega⟩) (fun h2 => ?_) (fun h2 => ?_)
    · skip
      refine V_iconst_8 (pc := 30) C (dk k_L_letter 16 rfl) rfl ?_
      refine V_cret_8 (pc := 31) C (by omega) (by omega) E (dk k_L_letter 17 rfl) ?_
      first | exact ⟨rfl, rfl⟩ | (refine ⟨?_, rfl⟩; first | (rw [if_pos (by omega)]; done) | (rw [if_neg (by omega)]; done))
    · skip
      refine V_iload_n_8 (pc := 12) C (dk k_L_letter 6 rfl) rfl ?_
      refine V_aload_n_8 (pc := 13) C (dk k_L_letter 7 rfl) rfl ?_
      refine V_getr_8 (pc := 14) (o2 := 2) C (dk k_L_letter 8 rfl) fl_L_9 kq_1_8 (by decide) rfl (by decide) rfl ?_
      refine V_alen_8 (pc := 17) C (dk k_L_letter 9 rfl) (n := 200) (Or.inr (Or.inl kq_2_8)) (by decide) rfl ?_
      refine V_icmpge_8 (pc := 18) C (dk k_L_letter 10 rfl) 30 rfl (by first | exact hR _ _ | with_reducible assumption | exact ⟨by omega, by omega⟩) (by first | exact hR _ _ | with_reducible assumption | exact ⟨by omega, by omega⟩) (fun h3 => ?_) (fun h3 => ?_)
      · skip
        refine V_iconst_8 (pc := 30) C (dk k_L_letter 16 rfl) rfl ?_
        refine V_cret_8 (pc := 31) C (by omega) (by omega) E (dk k_L_letter 17 rfl) ?_
        first | exact ⟨rfl, rfl⟩ | (refine ⟨?_, rfl⟩; first | (rw [if_pos (by omega)]; done) | (rw [if_neg (by omega)]; done))
      · skip
        refine V_aload_n_8 (pc := 21) C (dk k_L_letter 11 rfl) rfl ?_
        refine V_getr_8 (pc := 22) (o2 := 2) C (dk k_L_letter 12 rfl) fl_L_9 kq_1_8 (by decide) rfl (by decide) rfl ?_
        refine V_iload_n_8 (pc := 25) C (dk k_L_letter 13 rfl) rfl ?_
        refine V_cald_8 (pc := 26) C (dk k_L_letter 14 rfl) kq_2_8 (by decide) (by omega) (by omega) ?_
        have hc2 := hc i (by omega) (by omega)
        refine V_goto_8 (pc := 27) C (dk k_L_letter 15 rfl) 31 rfl ?_
        refine V_cret_8 (pc := 31) C (by omega) (by omega) E (dk k_L_letter 17 rfl) ?_
        first | exact ⟨rfl, rfl⟩ | (refine ⟨?_, rfl⟩; first | (rw [if_pos (by omega)]; done) | (rw [if_neg (by omega)]; done))

/-- the memory m holds these, the latest first -/
def MmR_8 (σ : Wd) (m : Nat) (π : PL) (l : List ST) : Prop := kd_8 m = 4 ∧ 0 ≤ σ m 1 ∧ σ m 1 < 8 ∧ σ m 2 = l.length ∧ l.length ≤ 8 ∧ ∀ (k : Nat) (y : ST), l[k]? = some y → StR_8 σ (m + 2 + 5 * ((σ m 1 + 7 - k) % 8).toNat) π y
/-- the shop's plan in use -/
def FR_8 (σ : Wd) (pl : Nat) (π : PL) : Prop := (σ 0 2).toNat = pl ∧ PlR_8 σ pl π
/-- the class's shop stands for π, x, what can be undone, what is kept, what is seen, the text -/
def CR_8 (σ : Wd) (pl sp : Nat) (π : PL) (x : ST) (us ks : List ST) (lk : List (Int × (Int × Int))) (tx : List Int) : Prop :=
  FR_8 σ pl π ∧ (σ 0 3).toNat = sp ∧ kd_8 sp = 5 ∧ sp ≠ pl ∧ StR_8 σ 19 π x ∧ MmR_8 σ 29 π us ∧ MmR_8 σ 71 π ks ∧ LkR σ lk ∧ TxR σ tx
theorem kd5_8 {p : Nat} (h : kd_8 p = 5) : p = 5 ∨ p = 12 := by
  have key : ∀ a : Fin NO_8, kd_8 a.val = 5 → a.val = 5 ∨ a.val = 12 := by decide +kernel
  exact key ⟨p, kd_lt_8 h (by decide)⟩ h
theorem MmR_8.fr {σ σ' : Wd} {m : Nat} {π : PL} {l : List ST} (h : MmR_8 σ m π l) (hf : ∀ k, m ≤ k → k < m + 42 → σ' k = σ k) : MmR_8 σ' m π l := by
  obtain ⟨h0, h1, h2, h3, h4, h5⟩ := h
  have e := hf m (by omega) (by omega)
  refine ⟨h0, by rw [e]; exact h1, by rw [e]; exact h2, by rw [e]; exact h3, h4, fun k y hk => ?_⟩
  rw [e]
  exact (h5 k y hk).fr (fun j a b => hf j (by omega) (by omega))
theorem FR_8.fr {σ σ' : Wd} {pl : Nat} {π : PL} (h : FR_8 σ pl π) (h0 : σ' 0 = σ 0) (hf : ∀ k, pl ≤ k → k < pl + 7 → σ' k = σ k) : FR_8 σ' pl π :=
  ⟨by rw [h0]; exact h.1, h.2.fr hf⟩
theorem CR_8.fr {σ σ' : Wd} {pl sp : Nat} {π : PL} {x : ST} {us ks : List ST} {lk : List (Int × (Int × Int))} {tx : List Int} (h : CR_8 σ pl sp π x us ks lk tx) (hf : ∀ k, ¬ scr sp k → σ' k = σ k) : CR_8 σ' pl sp π x us ks lk tx := by
  obtain ⟨h1, h2, h3, h4, h5, h6, h7, h8, h9⟩ := h
  have a := kd5_8 h1.2.1
  have b := kd5_8 h3
  have f : ∀ k, ¬ (k = 3 ∨ k = 4 ∨ (24 ≤ k ∧ k < 29) ∨ 117 ≤ k ∨ (sp ≤ k ∧ k < sp + 7)) → σ' k = σ k := hf
  refine ⟨h1.fr (f 0 (by omega)) (fun k c d => f k (by omega)), by rw [f 0 (by omega)]; exact h2, h3, h4, h5.fr (fun k c d => f k (by omega)), h6.fr (fun k c d => f k (by omega)), h7.fr (fun k c d => f k (by omega)), h8.fr (fun k c d => f k (by omega)), h9.fr (f 1 (by omega)) (f 2 (by omega))⟩
theorem c_let_8 (l : Launch) (G : GE) (σ : Wd) (tx : List Int) (i : Nat) (h : TxR σ tx) (hi : i < 2000) : Ct_8 l G y_L_letter b_L_letter 2 (some (.char)) 0 0 [vR 1, vI (i : Int)] σ (Dt (some (vI (chr tx i))) σ) := by
  have ⟨t1, t2, t3⟩ := h
  have H := c_L_letter_8 l G σ (i : Int) ⟨by omega, by omega⟩ (by omega) (by omega) (fun k a b => by
    have hk : k.toNat < tx.length := by omega
    have := t3 k.toNat _ (chr_at hk)
    rw [Int.toNat_of_nonneg a] at this
    omega)
  by_cases hl : i < tx.length
  · rw [if_pos ⟨by omega, by omega⟩, (t3 i _ (chr_at hl)).1] at H
    exact H
  · rw [if_neg (by omega)] at H
    rw [chr_out (by omega)]
    exact H
/-- a plan that is being read into -/
def DR_8 (σ : Wd) (p : Nat) (d : DS) : Prop := kd_8 p = 5 ∧ (σ p 0 = (dM d).length ∧ (dM d).length ≤ 5) ∧ (σ p 2 = (dT d).length ∧ (dT d).length ≤ 8) ∧ (σ p 7 = (dX d).length ∧ (dX d).length ≤ 12) ∧ (σ p 9 = dS d ∧ σ p 10 = dL d) ∧ (∀ (k : Nat) (v : Int), (dM d)[k]? = some v → σ (p + 1) k = v) ∧ (∀ (k : Nat) (q : Int × (Int × (Int × Int))), (dT d)[k]? = some q → σ (p + 2) k = q.1 ∧ σ (p + 3) k = q.2.1 ∧ σ (p + 4) k = q.2.2.1 ∧ σ (p + 5) k = q.2.2.2) ∧ (∀ (k : Nat) (v : Int), (dX d)[k]? = some v → σ (p + 6) k = v)
theorem DR_8.addM {σ : Wd} {p : Nat} {d : DS} (h : DR_8 σ p d) (hl : (dM d).length < 5) (v : Int) : DR_8 (up (up σ (p + 1) (dM d).length v) p 0 ((dM d).length + 1)) p (dM d ++ [v], d.2) := by
  obtain ⟨h0, ⟨h1, h1b⟩, ⟨h2, h2b⟩, ⟨h3, h3b⟩, ⟨h4, h5⟩, h6, h7, h8⟩ := h
  refine ⟨h0, ⟨?_, ?_⟩, ⟨?_, h2b⟩, ⟨?_, h3b⟩, ⟨?_, ?_⟩, fun k z hk => ?_, fun k q hk => ?_, fun k z hk => ?_⟩
  · rw [up_at]; show _ = ((dM d ++ [v]).length : Int); rw [List.length_append]; rfl
  · show (dM d ++ [v]).length ≤ 5; rw [List.length_append, List.length_singleton]; omega
  · simp (disch := omega) only [up_ne1, up_ne2]; exact h2
  · simp (disch := omega) only [up_ne1, up_ne2]; exact h3
  · simp (disch := omega) only [up_ne1, up_ne2]; exact h4
  · simp (disch := omega) only [up_ne1, up_ne2]; exact h5
  · rcases rowApp hk with ⟨a, b⟩ | ⟨a, b⟩
    · simp (disch := omega) only [up_ne1, up_ne2]; exact h6 k z b
    · subst b; rw [a]; simp (disch := omega) only [up_ne1, up_at]
  · have := h7 k q hk
    simp (disch := omega) only [up_ne1]; exact this
  · simp (disch := omega) only [up_ne1]; exact h8 k z hk
theorem DR_8.addX {σ : Wd} {p : Nat} {d : DS} (h : DR_8 σ p d) (hl : (dX d).length < 12) (v : Int) : DR_8 (up (up σ (p + 6) (dX d).length v) p 7 ((dX d).length + 1)) p (dM d, (dT d, (dX d ++ [v], d.2.2.2))) := by
  obtain ⟨h0, ⟨h1, h1b⟩, ⟨h2, h2b⟩, ⟨h3, h3b⟩, ⟨h4, h5⟩, h6, h7, h8⟩ := h
  refine ⟨h0, ⟨?_, h1b⟩, ⟨?_, h2b⟩, ⟨?_, ?_⟩, ⟨?_, ?_⟩, fun k z hk => ?_, fun k q hk => ?_, fun k z hk => ?_⟩
  · simp (disch := omega) only [up_ne1, up_ne2]; exact h1
  · simp (disch := omega) only [up_ne1, up_ne2]; exact h2
  · rw [up_at]; show _ = ((dX d ++ [v]).length : Int); rw [List.length_append]; rfl
  · show (dX d ++ [v]).length ≤ 12; rw [List.length_append, List.length_singleton]; omega
  · simp (disch := omega) only [up_ne1, up_ne2]; exact h4
  · simp (disch := omega) only [up_ne1, up_ne2]; exact h5
  · simp (disch := omega) only [up_ne1]; exact h6 k z hk
  · have := h7 k q hk
    simp (disch := omega) only [up_ne1]; exact this
  · rcases rowApp hk with ⟨a, b⟩ | ⟨a, b⟩
    · simp (disch := omega) only [up_ne1, up_ne2]; exact h8 k z b
    · subst b; rw [a]; simp (disch := omega) only [up_ne1, up_at]
theorem DR_8.addT {σ : Wd} {p : Nat} {d : DS} (h : DR_8 σ p d) (hl : (dT d).length < 8) (a b c e : Int) : DR_8 (up (up (up (up (up σ (p + 2) (dT d).length a) (p + 3) (dT d).length b) (p + 4) (dT d).length c) (p + 5) (dT d).length e) p 2 ((dT d).length + 1)) p (dM d, (dT d ++ [(a, (b, (c, e)))], d.2.2)) := by
  obtain ⟨h0, ⟨h1, h1b⟩, ⟨h2, h2b⟩, ⟨h3, h3b⟩, ⟨h4, h5⟩, h6, h7, h8⟩ := h
  refine ⟨h0, ⟨?_, h1b⟩, ⟨?_, ?_⟩, ⟨?_, h3b⟩, ⟨?_, ?_⟩, fun k z hk => ?_, fun k q hk => ?_, fun k z hk => ?_⟩
  · simp (disch := omega) only [up_ne1, up_ne2]; exact h1
  · rw [up_at]; show _ = ((dT d ++ [(a, (b, (c, e)))]).length : Int); rw [List.length_append]; rfl
  · show (dT d ++ [(a, (b, (c, e)))]).length ≤ 8; rw [List.length_append, List.length_singleton]; omega
  · simp (disch := omega) only [up_ne1, up_ne2]; exact h3
  · simp (disch := omega) only [up_ne1, up_ne2]; exact h4
  · simp (disch := omega) only [up_ne1, up_ne2]; exact h5
  · simp (disch := omega) only [up_ne1]; exact h6 k z hk
  · rcases rowApp hk with ⟨i, j⟩ | ⟨i, j⟩
    · have := h7 k q j
      simp (disch := omega) only [up_ne1, up_ne2]; exact this
    · subst j; rw [i]; simp (disch := omega) only [up_ne1, up_at]; exact ⟨trivial, trivial, trivial, trivial⟩
  · simp (disch := omega) only [up_ne1]; exact h8 k z hk
theorem DR_8.shop {σ : Wd} {p : Nat} {d : DS} (h : DR_8 σ p d) (a b : Int) : DR_8 (up (up σ p 9 a) p 10 b) p (dM d, (dT d, (dX d, (a, b)))) := by
  obtain ⟨h0, ⟨h1, h1b⟩, ⟨h2, h2b⟩, ⟨h3, h3b⟩, ⟨h4, h5⟩, h6, h7, h8⟩ := h
  refine ⟨h0, ⟨?_, h1b⟩, ⟨?_, h2b⟩, ⟨?_, h3b⟩, ⟨?_, ?_⟩, fun k z hk => ?_, fun k q hk => ?_, fun k z hk => ?_⟩
  · simp (disch := omega) only [up_ne1, up_ne2]; exact h1
  · simp (disch := omega) only [up_ne1, up_ne2]; exact h2
  · simp (disch := omega) only [up_ne1, up_ne2]; exact h3
  · simp (disch := omega) only [up_ne2, up_at]; rfl
  · rw [up_at]; rfl
  · simp (disch := omega) only [up_ne1]; exact h6 k z hk
  · have := h7 k q hk
    simp (disch := omega) only [up_ne1]; exact this
  · simp (disch := omega) only [up_ne1]; exact h8 k z hk
theorem DR_8.fr {σ σ' : Wd} {p : Nat} {d : DS} (h : DR_8 σ p d) (hf : ∀ k, p ≤ k → k < p + 7 → σ' k = σ k) : DR_8 σ' p d := by
  obtain ⟨h0, h1, h2, h3, h4, h6, h7, h8⟩ := h
  have e := hf p (by omega) (by omega)
  refine ⟨h0, by rw [e]; exact h1, by rw [e]; exact h2, by rw [e]; exact h3, by rw [e]; exact h4, fun k z hk => ?_, fun k q hk => ?_, fun k z hk => ?_⟩
  · rw [hf (p + 1) (by omega) (by omega)]; exact h6 k z hk
  · rw [hf (p + 2) (by omega) (by omega), hf (p + 3) (by omega) (by omega), hf (p + 4) (by omega) (by omega), hf (p + 5) (by omega) (by omega)]; exact h7 k q hk
  · rw [hf (p + 6) (by omega) (by omega)]; exact h8 k z hk
set_option maxHeartbeats 1000000 in
set_option maxRecDepth 20000 in
theorem c_P_clear_8 (l : Launch) (G : GE) (σ : Wd) (p : Nat) (hp : kd_8 p = 5) : Ct_8 l G y_P_clear b_P_clear 1 (none) 0 0 [vR p] σ (Rt none (fun σ' => DR_8 σ' p d0 ∧ Fr p 7 σ σ')) := by
  refine Ct_8.of cm_P_clear (Nat.le_of_ble_eq_true rfl) ?_
  intro X hXl hXG hXN hRm C E
  subst hXl; subst hXG
  show V_8 X 0 [some (vR p)] [] σ
  refine V_R_8 (fun hR => ?_)
  refine V_aload_n_8 (pc := 0) C (dk k_P_clear 0 rfl) rfl ?_
  refine V_iconst_8 (pc := 1) C (dk k_P_clear 1 rfl) rfl ?_
  refine V_puti_8 (pc := 2) (ji := 0) C (dk k_P_clear 2 rfl) fl_P_30 fw_5_0 hp (by decide) rfl rfl ⟨by decide, by decide⟩ ?_
  refine V_R_8 (fun hR => ?_)
  refine V_aload_n_8 (pc := 5) C (dk k_P_clear 3 rfl) rfl ?_
  refine V_iconst_8 (pc := 6) C (dk k_P_clear 4 rfl) rfl ?_
  refine V_puti_8 (pc := 7) (ji := 2) C (dk k_P_clear 5 rfl) fl_P_34 fw_5_2 hp (by decide) rfl rfl ⟨by decide, by decide⟩ ?_
  refine V_R_8 (fun hR => ?_)
  refine V_aload_n_8 (pc := 10) C (dk k_P_clear 6 rfl) rfl ?_
  refine V_iconst_8 (pc := 11) C (dk k_P_clear 7 rfl) rfl ?_
  refine V_puti_8 (pc := 12) (ji := 7) C (dk k_P_clear 8 rfl) fl_P_37 fw_5_7 hp (by decide) rfl rfl ⟨by decide, by decide⟩ ?_
  refine V_R_8 (fun hR => ?_)
  refine V_aload_n_8 (pc := 15) C (dk k_P_clear 9 rfl) rfl ?_
  refine V_bipush_8 (pc := 16) (n' := 60) C (dk k_P_clear 10 rfl) rfl ?_
  refine V_puti_8 (pc := 18) (ji := 9) C (dk k_P_clear 11 rfl) fl_P_40 fw_5_9 hp (by decide) rfl rfl ⟨by decide, by decide⟩ ?_
  refine V_R_8 (fun hR => ?_)
  refine V_aload_n_8 (pc := 21) C (dk k_P_clear 12 rfl) rfl ?_
  refine V_iconst_8 (pc := 22) C (dk k_P_clear 13 rfl) rfl ?_
  refine V_puti_8 (pc := 23) (ji := 10) C (dk k_P_clear 14 rfl) fl_P_43 fw_5_10 hp (by decide) rfl rfl ⟨by decide, by decide⟩ ?_
  refine V_R_8 (fun hR => ?_)
  refine V_vret_8 (pc := 26) C E (dk k_P_clear 15 rfl) ?_
  refine ⟨rfl, ⟨hp, ⟨?_, by decide⟩, ⟨?_, by decide⟩, ⟨?_, by decide⟩, ⟨?_, ?_⟩, fun k z h => by simp [dM, d0] at h, fun k q h => by simp [dT, d0] at h, fun k z h => by simp [dX, d0] at h⟩, ((((Fr.rf p 7 σ).up _ _ (by omega) (by omega)).up _ _ (by omega) (by omega)).up _ _ (by omega) (by omega)).up _ _ (by omega) (by omega) |>.up _ _ (by omega) (by omega)⟩
  all_goals (simp (disch := omega) only [up_ne2, up_at]; rfl)

set_option maxHeartbeats 1000000 in
set_option maxRecDepth 20000 in
theorem c_P_addPerson_8 (l : Launch) (G : GE) (σ : Wd) (p : Nat) (d : DS) (v : Int) (hd : DR_8 σ p d) (hv : inR v) : Ct_8 l G y_P_addPerson b_P_addPerson 2 (some (.boolean)) 1 22 [vR p, vI v] σ (Rt (some (vI (if (dM d).length < 5 then 1 else 0))) (fun σ' => ((dM d).length < 5 → DR_8 σ' p (dM d ++ [v], d.2)) ∧ Fr p 7 σ σ')) := by
  refine Ct_8.of cm_P_addPerson (Nat.le_of_ble_eq_true rfl) ?_
  intro X hXl hXG hXN hRm C E
  subst hXl; subst hXG
  have ⟨hv_1, hv_2⟩ := hv
  show V_8 X 0 [some (vR p), some (vI v)] [] σ
  refine V_R_8 (fun hR => ?_)
  obtain ⟨hp, ⟨a0, a1⟩, ⟨b0, b1⟩, ⟨c0, c1⟩, ⟨s0, s1⟩, r1, r2, r3⟩ := id hd
  obtain ⟨hp_1, hp_2, hp_3, hp_4, hp_5, hp_6⟩ := kd_P_8 hp
  refine V_aload_n_8 (pc := 0) C (dk k_P_addPerson 0 rfl) rfl ?_
  refine V_geti_8 (pc := 1) (ji := 0) C (dk k_P_addPerson 1 rfl) fl_P_30 hp (by decide) rfl rfl ?_
  refine V_iconst_8 (pc := 4) C (dk k_P_addPerson 2 rfl) rfl ?_
  refine V_icmplt_8 (pc := 5) C (dk k_P_addPerson 3 rfl) 10 rfl (by first | exact hR _ _ | with_reducible assumption | exact ⟨by omega, by omega⟩) (by first | exact hR _ _ | with_reducible assumption | exact ⟨by omega, by omega⟩) (fun h1 => ?_) (fun h1 => ?_)
  · skip
    refine V_aload_n_8 (pc := 10) C (dk k_P_addPerson 6 rfl) rfl ?_
    refine V_getr_8 (pc := 11) (o2 := p + 1) C (dk k_P_addPerson 7 rfl) fl_P_9 hp (by decide) rfl (by decide) rfl ?_
    refine V_aload_n_8 (pc := 14) C (dk k_P_addPerson 8 rfl) rfl ?_
    refine V_geti_8 (pc := 15) (ji := 0) C (dk k_P_addPerson 9 rfl) fl_P_30 hp (by decide) rfl rfl ?_
    refine V_iload_n_8 (pc := 18) C (dk k_P_addPerson 10 rfl) rfl ?_
    rw [a0]
    refine V_callS0_8 (pc := 19) C (dk k_P_addPerson 11 rfl) lk_P_50 cm_F_put sm_F_put (c_put_8 _ _ _ (p + 1) 5 ((dM d).length : Int) v hp_1 (by decide) (by omega) (by omega) hv) rfl rfl (Nat.le_of_ble_eq_true rfl) (Rm.mono hRm (by decide) (by decide)) ?_
    refine V_R_8 (fun hR => ?_)
    refine V_aload_n_8 (pc := 22) C (dk k_P_addPerson 12 rfl) rfl ?_
    refine V_dupR_8 (pc := 23) C (dk k_P_addPerson 13 rfl) ?_
    refine V_geti_8 (pc := 24) (ji := 0) C (dk k_P_addPerson 14 rfl) fl_P_30 hp (by decide) rfl rfl ?_
    refine V_iconst_8 (pc := 27) C (dk k_P_addPerson 15 rfl) rfl ?_
    have e1 : up σ (p + 1) ((dM d).length : Int) v p 0 = (dM d).length := by rw [up_ne1 _ _ _ _ (by omega)]; exact a0
    rw [e1]
    refine V_iadd_8 (pc := 28) C (dk k_P_addPerson 16 rfl) ?_
    refine V_puti_8 (pc := 29) (ji := 0) C (dk k_P_addPerson 17 rfl) fl_P_30 fw_5_0 hp (by decide) rfl rfl ⟨by omega, by omega⟩ ?_
    refine V_R_8 (fun hR => ?_)
    refine V_iconst_8 (pc := 32) C (dk k_P_addPerson 18 rfl) rfl ?_
    refine V_zret_8 (pc := 33) C (by first | exact Or.inl rfl | exact Or.inr rfl | (split <;> first | exact Or.inl rfl | exact Or.inr rfl) | omega) E (dk k_P_addPerson 19 rfl) ?_
    rw [if_pos (by omega)]
    exact ⟨rfl, fun z => hd.addM z v, ((Fr.rf p 7 σ).up _ _ (by omega) (by omega)).up _ _ (by omega) (by omega)⟩
  · skip
    refine V_iconst_8 (pc := 8) C (dk k_P_addPerson 4 rfl) rfl ?_
    refine V_zret_8 (pc := 9) C (by first | exact Or.inl rfl | exact Or.inr rfl | (split <;> first | exact Or.inl rfl | exact Or.inr rfl) | omega) E (dk k_P_addPerson 5 rfl) ?_
    rw [if_neg (by omega)]
    exact ⟨rfl, fun z => by omega, Fr.rf _ _ _⟩

set_option maxHeartbeats 1000000 in
set_option maxRecDepth 20000 in
theorem c_P_addRate_8 (l : Launch) (G : GE) (σ : Wd) (p : Nat) (d : DS) (v : Int) (hd : DR_8 σ p d) (hv : inR v) : Ct_8 l G y_P_addRate b_P_addRate 2 (some (.boolean)) 1 22 [vR p, vI v] σ (Rt (some (vI (if (dX d).length < 12 ∧ v ≤ 9 then 1 else 0))) (fun σ' => ((dX d).length < 12 ∧ v ≤ 9 → DR_8 σ' p (dM d, (dT d, (dX d ++ [v], d.2.2.2)))) ∧ Fr p 7 σ σ')) := by
  refine Ct_8.of cm_P_addRate (Nat.le_of_ble_eq_true rfl) ?_
  intro X hXl hXG hXN hRm C E
  subst hXl; subst hXG
  have ⟨hv_1, hv_2⟩ := hv
  show V_8 X 0 [some (vR p), some (vI v)] [] σ
  refine V_R_8 (fun hR => ?_)
  obtain ⟨hp, ⟨a0, a1⟩, ⟨b0, b1⟩, ⟨c0, c1⟩, ⟨s0, s1⟩, r1, r2, r3⟩ := id hd
  obtain ⟨hp_1, hp_2, hp_3, hp_4, hp_5, hp_6⟩ := kd_P_8 hp
  refine V_aload_n_8 (pc := 0) C (dk k_P_addRate 0 rfl) rfl ?_
  refine V_geti_8 (pc := 1) (ji := 7) C (dk k_P_addRate 1 rfl) fl_P_37 hp (by decide) rfl rfl ?_
  refine V_bipush_8 (pc := 4) (n' := 12) C (dk k_P_addRate 2 rfl) rfl ?_
  refine V_icmpge_8 (pc := 6) C (dk k_P_addRate 3 rfl) 15 rfl (by first | exact hR _ _ | with_reducible assumption | exact ⟨by omega, by omega⟩) (by first | exact hR _ _ | with_reducible assumption | exact ⟨by omega, by omega⟩) (fun h1 => ?_) (fun h1 => ?_)
  · skip
    refine V_iconst_8 (pc := 15) C (dk k_P_addRate 7 rfl) rfl ?_
    refine V_zret_8 (pc := 16) C (by first | exact Or.inl rfl | exact Or.inr rfl | (split <;> first | exact Or.inl rfl | exact Or.inr rfl) | omega) E (dk k_P_addRate 8 rfl) ?_
    rw [if_neg (by omega)]
    exact ⟨rfl, fun z => by omega, Fr.rf _ _ _⟩
  · skip
    refine V_iload_n_8 (pc := 9) C (dk k_P_addRate 4 rfl) rfl ?_
    refine V_bipush_8 (pc := 10) (n' := 9) C (dk k_P_addRate 5 rfl) rfl ?_
    refine V_icmple_8 (pc := 12) C (dk k_P_addRate 6 rfl) 17 rfl (by first | exact hR _ _ | with_reducible assumption | exact ⟨by omega, by omega⟩) (by first | exact hR _ _ | with_reducible assumption | exact ⟨by omega, by omega⟩) (fun h2 => ?_) (fun h2 => ?_)
    · skip
      refine V_aload_n_8 (pc := 17) C (dk k_P_addRate 9 rfl) rfl ?_
      refine V_getr_8 (pc := 18) (o2 := p + 6) C (dk k_P_addRate 10 rfl) fl_P_27 hp (by decide) rfl (by decide) rfl ?_
      refine V_aload_n_8 (pc := 21) C (dk k_P_addRate 11 rfl) rfl ?_
      refine V_geti_8 (pc := 22) (ji := 7) C (dk k_P_addRate 12 rfl) fl_P_37 hp (by decide) rfl rfl ?_
      refine V_iload_n_8 (pc := 25) C (dk k_P_addRate 13 rfl) rfl ?_
      rw [c0]
      refine V_callS0_8 (pc := 26) C (dk k_P_addRate 14 rfl) lk_P_50 cm_F_put sm_F_put (c_put_8 _ _ _ (p + 6) 12 ((dX d).length : Int) v hp_6 (by decide) (by omega) (by omega) hv) rfl rfl (Nat.le_of_ble_eq_true rfl) (Rm.mono hRm (by decide) (by decide)) ?_
      refine V_R_8 (fun hR => ?_)
      refine V_aload_n_8 (pc := 29) C (dk k_P_addRate 15 rfl) rfl ?_
      refine V_dupR_8 (pc := 30) C (dk k_P_addRate 16 rfl) ?_
      refine V_geti_8 (pc := 31) (ji := 7) C (dk k_P_addRate 17 rfl) fl_P_37 hp (by decide) rfl rfl ?_
      refine V_iconst_8 (pc := 34) C (dk k_P_addRate 18 rfl) rfl ?_
      have e1 : up σ (p + 6) ((dX d).length : Int) v p 7 = (dX d).length := by rw [up_ne1 _ _ _ _ (by omega)]; exact c0
      rw [e1]
      refine V_iadd_8 (pc := 35) C (dk k_P_addRate 19 rfl) ?_
      refine V_puti_8 (pc := 36) (ji := 7) C (dk k_P_addRate 20 rfl) fl_P_37 fw_5_7 hp (by decide) rfl rfl ⟨by omega, by omega⟩ ?_
      refine V_R_8 (fun hR => ?_)
      refine V_iconst_8 (pc := 39) C (dk k_P_addRate 21 rfl) rfl ?_
      refine V_zret_8 (pc := 40) C (by first | exact Or.inl rfl | exact Or.inr rfl | (split <;> first | exact Or.inl rfl | exact Or.inr rfl) | omega) E (dk k_P_addRate 22 rfl) ?_
      rw [if_pos (by omega)]
      exact ⟨rfl, fun z => hd.addX z.1 v, ((Fr.rf p 7 σ).up _ _ (by omega) (by omega)).up _ _ (by omega) (by omega)⟩
    · skip
      refine V_iconst_8 (pc := 15) C (dk k_P_addRate 7 rfl) rfl ?_
      refine V_zret_8 (pc := 16) C (by first | exact Or.inl rfl | exact Or.inr rfl | (split <;> first | exact Or.inl rfl | exact Or.inr rfl) | omega) E (dk k_P_addRate 8 rfl) ?_
      rw [if_neg (by omega)]
      exact ⟨rfl, fun z => by omega, Fr.rf _ _ _⟩

set_option maxHeartbeats 1000000 in
set_option maxRecDepth 20000 in
theorem c_P_setShop_8 (l : Launch) (G : GE) (σ : Wd) (p : Nat) (d : DS) (a b : Int) (hd : DR_8 σ p d) (ha : inR a) (hb : inR b) : Ct_8 l G y_P_setShop b_P_setShop 3 (some (.boolean)) 0 0 [vR p, vI a, vI b] σ (Rt (some (vI (if b ≤ 20 then 1 else 0))) (fun σ' => (b ≤ 20 → DR_8 σ' p (dM d, (dT d, (dX d, (a, b))))) ∧ Fr p 7 σ σ')) := by
  refine Ct_8.of cm_P_setShop (Nat.le_of_ble_eq_true rfl) ?_
  intro X hXl hXG hXN hRm C E
  subst hXl; subst hXG
  have ⟨ha_1, ha_2⟩ := ha
  have ⟨hb_1, hb_2⟩ := hb
  show V_8 X 0 [some (vR p), some (vI a), some (vI b)] [] σ
  refine V_R_8 (fun hR => ?_)
  obtain ⟨hp, ⟨a0, a1⟩, ⟨b0, b1⟩, ⟨c0, c1⟩, ⟨s0, s1⟩, r1, r2, r3⟩ := id hd
  obtain ⟨hp_1, hp_2, hp_3, hp_4, hp_5, hp_6⟩ := kd_P_8 hp
  refine V_iload_n_8 (pc := 0) C (dk k_P_setShop 0 rfl) rfl ?_
  refine V_bipush_8 (pc := 1) (n' := 20) C (dk k_P_setShop 1 rfl) rfl ?_
  refine V_icmple_8 (pc := 3) C (dk k_P_setShop 2 rfl) 8 rfl (by first | exact hR _ _ | with_reducible assumption | exact ⟨by omega, by omega⟩) (by first | exact hR _ _ | with_reducible assumption | exact ⟨by omega, by omega⟩) (fun h1 => ?_) (fun h1 => ?_)
  · skip
    refine V_aload_n_8 (pc := 8) C (dk k_P_setShop 5 rfl) rfl ?_
    refine V_iload_n_8 (pc := 9) C (dk k_P_setShop 6 rfl) rfl ?_
    refine V_puti_8 (pc := 10) (ji := 9) C (dk k_P_setShop 7 rfl) fl_P_40 fw_5_9 hp (by decide) rfl rfl ha ?_
    refine V_R_8 (fun hR => ?_)
    refine V_aload_n_8 (pc := 13) C (dk k_P_setShop 8 rfl) rfl ?_
    refine V_iload_n_8 (pc := 14) C (dk k_P_setShop 9 rfl) rfl ?_
    refine V_puti_8 (pc := 15) (ji := 10) C (dk k_P_setShop 10 rfl) fl_P_43 fw_5_10 hp (by decide) rfl rfl hb ?_
    refine V_R_8 (fun hR => ?_)
    refine V_iconst_8 (pc := 18) C (dk k_P_setShop 11 rfl) rfl ?_
    refine V_zret_8 (pc := 19) C (by first | exact Or.inl rfl | exact Or.inr rfl | (split <;> first | exact Or.inl rfl | exact Or.inr rfl) | omega) E (dk k_P_setShop 12 rfl) ?_
    rw [if_pos (by omega)]
    exact ⟨rfl, fun z => hd.shop a b, ((Fr.rf p 7 σ).up _ _ (by omega) (by omega)).up _ _ (by omega) (by omega)⟩
  · skip
    refine V_iconst_8 (pc := 6) C (dk k_P_setShop 3 rfl) rfl ?_
    refine V_zret_8 (pc := 7) C (by first | exact Or.inl rfl | exact Or.inr rfl | (split <;> first | exact Or.inl rfl | exact Or.inr rfl) | omega) E (dk k_P_setShop 4 rfl) ?_
    rw [if_neg (by omega)]
    exact ⟨rfl, fun z => by omega, Fr.rf _ _ _⟩

set_option maxHeartbeats 1000000 in
set_option maxRecDepth 20000 in
theorem c_P_addThing_8 (l : Launch) (G : GE) (σ : Wd) (p : Nat) (d : DS) (a b c e : Int) (hd : DR_8 σ p d) (ha : inR a) (hb : inR b) (hc : inR c) (he : inR e) : Ct_8 l G y_P_addThing b_P_addThing 6 (some (.boolean)) 1 22 [vR p, vI a, vI b, vI c, vI e] σ (Rt (some (vI (if (dT d).length < 8 ∧ (0 ≤ a ∧ a ≤ (dM d).length - 1) ∧ (0 ≤ b ∧ b ≤ 3) ∧ (1 ≤ c ∧ c ≤ 20) ∧ (0 ≤ e ∧ e ≤ 20) then 1 else 0))) (fun σ' => ((dT d).length < 8 ∧ (0 ≤ a ∧ a ≤ (dM d).length - 1) ∧ (0 ≤ b ∧ b ≤ 3) ∧ (1 ≤ c ∧ c ≤ 20) ∧ (0 ≤ e ∧ e ≤ 20) → DR_8 σ' p (dM d, (dT d ++ [(a, (b, (c, e)))], d.2.2))) ∧ Fr p 7 σ σ')) := by
  refine Ct_8.of cm_P_addThing (Nat.le_of_ble_eq_true rfl) ?_
  intro X hXl hXG hXN hRm C E
  subst hXl; subst hXG
  have ⟨ha_1, ha_2⟩ := ha
  have ⟨hb_1, hb_2⟩ := hb
  have ⟨hc_1, hc_2⟩ := hc
  have ⟨he_1, he_2⟩ := he
  show V_8 X 0 [some (vR p), some (vI a), some (vI b), some (vI c), some (vI e), none] [] σ
  refine V_R_8 (fun hR => ?_)
  obtain ⟨hp, ⟨a0, a1⟩, ⟨b0, b1⟩, ⟨c0, c1⟩, ⟨s0, s1⟩, r1, r2, r3⟩ := id hd
  obtain ⟨hp_1, hp_2, hp_3, hp_4, hp_5, hp_6⟩ := kd_P_8 hp
  refine V_aload_n_8 (pc := 0) C (dk k_P_addThing 0 rfl) rfl ?_
  refine V_geti_8 (pc := 1) (ji := 2) C (dk k_P_addThing 1 rfl) fl_P_34 hp (by decide) rfl rfl ?_
  refine V_bipush_8 (pc := 4) (n' := 8) C (dk k_P_addThing 2 rfl) rfl ?_
  refine V_icmpge_8 (pc := 6) C (dk k_P_addThing 3 rfl) 57 rfl (by first | exact hR _ _ | with_reducible assumption | exact ⟨by omega, by omega⟩) (by first | exact hR _ _ | with_reducible assumption | exact ⟨by omega, by omega⟩) (fun h1 => ?_) (fun h1 => ?_)
  · skip
    refine V_iconst_8 (pc := 57) C (dk k_P_addThing 29 rfl) rfl ?_
    refine V_istore_8 (pc := 58) C (dk k_P_addThing 30 rfl) (by rw [hXN]; decide) ?_
    dsimp only [lst, lstL, lz, kill, Fin.val, Nat.reduceAdd]
    refine V_iload_8 (pc := 60) C (dk k_P_addThing 31 rfl) rfl ?_
    refine V_ifne_8 (pc := 62) C (dk k_P_addThing 32 rfl) 67 rfl (by first | exact hR _ _ | with_reducible assumption | exact ⟨by omega, by omega⟩) (fun h2 => ?_) (fun h2 => ?_)
    · skip
      refine V_aload_n_8 (pc := 67) C (dk k_P_addThing 35 rfl) rfl ?_
      refine V_getr_8 (pc := 68) (o2 := p + 2) C (dk k_P_addThing 36 rfl) fl_P_15 hp (by decide) rfl (by decide) rfl ?_
      refine V_aload_n_8 (pc := 71) C (dk k_P_addThing 37 rfl) rfl ?_
      refine V_geti_8 (pc := 72) (ji := 2) C (dk k_P_addThing 38 rfl) fl_P_34 hp (by decide) rfl rfl ?_
      rw [b0]
      refine V_iload_n_8 (pc := 75) C (dk k_P_addThing 39 rfl) rfl ?_
      refine V_callS0_8 (pc := 76) C (dk k_P_addThing 40 rfl) lk_P_50 cm_F_put sm_F_put (c_put_8 _ _ _ (p + 2) 8 ((dT d).length : Int) a hp_2 (by decide) (by omega) (by omega) ha) rfl rfl (Nat.le_of_ble_eq_true rfl) (Rm.mono hRm (by decide) (by decide)) ?_
      refine V_R_8 (fun hR => ?_)
      refine V_aload_n_8 (pc := 79) C (dk k_P_addThing 41 rfl) rfl ?_
      refine V_getr_8 (pc := 80) (o2 := p + 3) C (dk k_P_addThing 42 rfl) fl_P_18 hp (by decide) rfl (by decide) rfl ?_
      refine V_aload_n_8 (pc := 83) C (dk k_P_addThing 43 rfl) rfl ?_
      refine V_geti_8 (pc := 84) (ji := 2) C (dk k_P_addThing 44 rfl) fl_P_34 hp (by decide) rfl rfl ?_
      have e1 : up σ (p + 2) ((dT d).length : Int) a p 2 = ((dT d).length : Int) := (up_ne1 _ _ _ _ (by omega)).trans b0
      rw [e1]
      refine V_iload_n_8 (pc := 87) C (dk k_P_addThing 45 rfl) rfl ?_
      refine V_callS0_8 (pc := 88) C (dk k_P_addThing 46 rfl) lk_P_50 cm_F_put sm_F_put (c_put_8 _ _ _ (p + 3) 8 ((dT d).length : Int) b hp_3 (by decide) (by omega) (by omega) hb) rfl rfl (Nat.le_of_ble_eq_true rfl) (Rm.mono hRm (by decide) (by decide)) ?_
      refine V_R_8 (fun hR => ?_)
      refine V_aload_n_8 (pc := 91) C (dk k_P_addThing 47 rfl) rfl ?_
      refine V_getr_8 (pc := 92) (o2 := p + 4) C (dk k_P_addThing 48 rfl) fl_P_21 hp (by decide) rfl (by decide) rfl ?_
      refine V_aload_n_8 (pc := 95) C (dk k_P_addThing 49 rfl) rfl ?_
      refine V_geti_8 (pc := 96) (ji := 2) C (dk k_P_addThing 50 rfl) fl_P_34 hp (by decide) rfl rfl ?_
      have e2 : up (up σ (p + 2) ((dT d).length : Int) a) (p + 3) ((dT d).length : Int) b p 2 = ((dT d).length : Int) := (up_ne1 _ _ _ _ (by omega)).trans e1
      rw [e2]
      refine V_iload_n_8 (pc := 99) C (dk k_P_addThing 51 rfl) rfl ?_
      refine V_callS0_8 (pc := 100) C (dk k_P_addThing 52 rfl) lk_P_50 cm_F_put sm_F_put (c_put_8 _ _ _ (p + 4) 8 ((dT d).length : Int) c hp_4 (by decide) (by omega) (by omega) hc) rfl rfl (Nat.le_of_ble_eq_true rfl) (Rm.mono hRm (by decide) (by decide)) ?_
      refine V_R_8 (fun hR => ?_)
      refine V_aload_n_8 (pc := 103) C (dk k_P_addThing 53 rfl) rfl ?_
      refine V_getr_8 (pc := 104) (o2 := p + 5) C (dk k_P_addThing 54 rfl) fl_P_24 hp (by decide) rfl (by decide) rfl ?_
      refine V_aload_n_8 (pc := 107) C (dk k_P_addThing 55 rfl) rfl ?_
      refine V_geti_8 (pc := 108) (ji := 2) C (dk k_P_addThing 56 rfl) fl_P_34 hp (by decide) rfl rfl ?_
      have e3 : up (up (up σ (p + 2) ((dT d).length : Int) a) (p + 3) ((dT d).length : Int) b) (p + 4) ((dT d).length : Int) c p 2 = ((dT d).length : Int) := (up_ne1 _ _ _ _ (by omega)).trans e2
      rw [e3]
      refine V_iload_8 (pc := 111) C (dk k_P_addThing 57 rfl) rfl ?_
      refine V_callS0_8 (pc := 113) C (dk k_P_addThing 58 rfl) lk_P_50 cm_F_put sm_F_put (c_put_8 _ _ _ (p + 5) 8 ((dT d).length : Int) e hp_5 (by decide) (by omega) (by omega) he) rfl rfl (Nat.le_of_ble_eq_true rfl) (Rm.mono hRm (by decide) (by decide)) ?_
      refine V_R_8 (fun hR => ?_)
      refine V_aload_n_8 (pc := 116) C (dk k_P_addThing 59 rfl) rfl ?_
      refine V_dupR_8 (pc := 117) C (dk k_P_addThing 60 rfl) ?_
      refine V_geti_8 (pc := 118) (ji := 2) C (dk k_P_addThing 61 rfl) fl_P_34 hp (by decide) rfl rfl ?_
      have e4 : up (up (up (up σ (p + 2) ((dT d).length : Int) a) (p + 3) ((dT d).length : Int) b) (p + 4) ((dT d).length : Int) c) (p + 5) ((dT d).length : Int) e p 2 = ((dT d).length : Int) := (up_ne1 _ _ _ _ (by omega)).trans e3
      rw [e4]
      refine V_iconst_8 (pc := 121) C (dk k_P_addThing 62 rfl) rfl ?_
      refine V_iadd_8 (pc := 122) C (dk k_P_addThing 63 rfl) ?_
      refine V_puti_8 (pc := 123) (ji := 2) C (dk k_P_addThing 64 rfl) fl_P_34 fw_5_2 hp (by decide) rfl rfl ⟨by omega, by omega⟩ ?_
      refine V_R_8 (fun hR => ?_)
      refine V_iconst_8 (pc := 126) C (dk k_P_addThing 65 rfl) rfl ?_
      refine V_zret_8 (pc := 127) C (by first | exact Or.inl rfl | exact Or.inr rfl | (split <;> first | exact Or.inl rfl | exact Or.inr rfl) | omega) E (dk k_P_addThing 66 rfl) ?_
      first | (exfalso; omega) | (rw [if_pos (by omega)]; exact ⟨rfl, fun z => hd.addT (by omega) a b c e, ((((Fr.rf p 7 σ).up _ _ (by omega) (by omega)).up _ _ (by omega) (by omega)).up _ _ (by omega) (by omega)).up _ _ (by omega) (by omega) |>.up _ _ (by omega) (by omega)⟩)
    · skip
      refine V_iconst_8 (pc := 65) C (dk k_P_addThing 33 rfl) rfl ?_
      refine V_zret_8 (pc := 66) C (by first | exact Or.inl rfl | exact Or.inr rfl | (split <;> first | exact Or.inl rfl | exact Or.inr rfl) | omega) E (dk k_P_addThing 34 rfl) ?_
      first | (exfalso; omega) | (rw [if_neg (by omega)]; exact ⟨rfl, fun z => by omega, Fr.rf _ _ _⟩)
  · skip
    refine V_iload_n_8 (pc := 9) C (dk k_P_addThing 4 rfl) rfl ?_
    refine V_iconst_8 (pc := 10) C (dk k_P_addThing 5 rfl) rfl ?_
    refine V_aload_n_8 (pc := 11) C (dk k_P_addThing 6 rfl) rfl ?_
    refine V_geti_8 (pc := 12) (ji := 0) C (dk k_P_addThing 7 rfl) fl_P_30 hp (by decide) rfl rfl ?_
    refine V_iconst_8 (pc := 15) C (dk k_P_addThing 8 rfl) rfl ?_
    refine V_isub_8 (pc := 16) C (dk k_P_addThing 9 rfl) ?_
    refine V_callS_8 (pc := 17) C (dk k_P_addThing 10 rfl) lk_P_54 cm_F_within sm_F_within (c_F_within_8 _ _ _ a 0 (σ p 0 - 1) ha R0 ⟨by omega, by omega⟩) rfl rfl (Nat.le_of_ble_eq_true rfl) (Rm.mono hRm (by decide) (by decide)) ?_
    refine V_ifeqB_8 (pc := 20) C (dk k_P_addThing 11 rfl) 57 rfl (fun h3 => ?_) (fun h3 => ?_)
    · skip
      refine V_iconst_8 (pc := 57) C (dk k_P_addThing 29 rfl) rfl ?_
      refine V_istore_8 (pc := 58) C (dk k_P_addThing 30 rfl) (by rw [hXN]; decide) ?_
      dsimp only [lst, lstL, lz, kill, Fin.val, Nat.reduceAdd]
      refine V_iload_8 (pc := 60) C (dk k_P_addThing 31 rfl) rfl ?_
      refine V_ifne_8 (pc := 62) C (dk k_P_addThing 32 rfl) 67 rfl (by first | exact hR _ _ | with_reducible assumption | exact ⟨by omega, by omega⟩) (fun h4 => ?_) (fun h4 => ?_)
      · skip
        refine V_aload_n_8 (pc := 67) C (dk k_P_addThing 35 rfl) rfl ?_
        refine V_getr_8 (pc := 68) (o2 := p + 2) C (dk k_P_addThing 36 rfl) fl_P_15 hp (by decide) rfl (by decide) rfl ?_
        refine V_aload_n_8 (pc := 71) C (dk k_P_addThing 37 rfl) rfl ?_
        refine V_geti_8 (pc := 72) (ji := 2) C (dk k_P_addThing 38 rfl) fl_P_34 hp (by decide) rfl rfl ?_
        rw [b0]
        refine V_iload_n_8 (pc := 75) C (dk k_P_addThing 39 rfl) rfl ?_
        refine V_callS0_8 (pc := 76) C (dk k_P_addThing 40 rfl) lk_P_50 cm_F_put sm_F_put (c_put_8 _ _ _ (p + 2) 8 ((dT d).length : Int) a hp_2 (by decide) (by omega) (by omega) ha) rfl rfl (Nat.le_of_ble_eq_true rfl) (Rm.mono hRm (by decide) (by decide)) ?_
        refine V_R_8 (fun hR => ?_)
        refine V_aload_n_8 (pc := 79) C (dk k_P_addThing 41 rfl) rfl ?_
        refine V_getr_8 (pc := 80) (o2 := p + 3) C (dk k_P_addThing 42 rfl) fl_P_18 hp (by decide) rfl (by decide) rfl ?_
        refine V_aload_n_8 (pc := 83) C (dk k_P_addThing 43 rfl) rfl ?_
        refine V_geti_8 (pc := 84) (ji := 2) C (dk k_P_addThing 44 rfl) fl_P_34 hp (by decide) rfl rfl ?_
        have e1 : up σ (p + 2) ((dT d).length : Int) a p 2 = ((dT d).length : Int) := (up_ne1 _ _ _ _ (by omega)).trans b0
        rw [e1]
        refine V_iload_n_8 (pc := 87) C (dk k_P_addThing 45 rfl) rfl ?_
        refine V_callS0_8 (pc := 88) C (dk k_P_addThing 46 rfl) lk_P_50 cm_F_put sm_F_put (c_put_8 _ _ _ (p + 3) 8 ((dT d).length : Int) b hp_3 (by decide) (by omega) (by omega) hb) rfl rfl (Nat.le_of_ble_eq_true rfl) (Rm.mono hRm (by decide) (by decide)) ?_
        refine V_R_8 (fun hR => ?_)
        refine V_aload_n_8 (pc := 91) C (dk k_P_addThing 47 rfl) rfl ?_
        refine V_getr_8 (pc := 92) (o2 := p + 4) C (dk k_P_addThing 48 rfl) fl_P_21 hp (by decide) rfl (by decide) rfl ?_
        refine V_aload_n_8 (pc := 95) C (dk k_P_addThing 49 rfl) rfl ?_
        refine V_geti_8 (pc := 96) (ji := 2) C (dk k_P_addThing 50 rfl) fl_P_34 hp (by decide) rfl rfl ?_
        have e2 : up (up σ (p + 2) ((dT d).length : Int) a) (p + 3) ((dT d).length : Int) b p 2 = ((dT d).length : Int) := (up_ne1 _ _ _ _ (by omega)).trans e1
        rw [e2]
        refine V_iload_n_8 (pc := 99) C (dk k_P_addThing 51 rfl) rfl ?_
        refine V_callS0_8 (pc := 100) C (dk k_P_addThing 52 rfl) lk_P_50 cm_F_put sm_F_put (c_put_8 _ _ _ (p + 4) 8 ((dT d).length : Int) c hp_4 (by decide) (by omega) (by omega) hc) rfl rfl (Nat.le_of_ble_eq_true rfl) (Rm.mono hRm (by decide) (by decide)) ?_
        refine V_R_8 (fun hR => ?_)
        refine V_aload_n_8 (pc := 103) C (dk k_P_addThing 53 rfl) rfl ?_
        refine V_getr_8 (pc := 104) (o2 := p + 5) C (dk k_P_addThing 54 rfl) fl_P_24 hp (by decide) rfl (by decide) rfl ?_
        refine V_aload_n_8 (pc := 107) C (dk k_P_addThing 55 rfl) rfl ?_
        refine V_geti_8 (pc := 108) (ji := 2) C (dk k_P_addThing 56 rfl) fl_P_34 hp (by decide) rfl rfl ?_
        have e3 : up (up (up σ (p + 2) ((dT d).length : Int) a) (p + 3) ((dT d).length : Int) b) (p + 4) ((dT d).length : Int) c p 2 = ((dT d).length : Int) := (up_ne1 _ _ _ _ (by omega)).trans e2
        rw [e3]
        refine V_iload_8 (pc := 111) C (dk k_P_addThing 57 rfl) rfl ?_
        refine V_callS0_8 (pc := 113) C (dk k_P_addThing 58 rfl) lk_P_50 cm_F_put sm_F_put (c_put_8 _ _ _ (p + 5) 8 ((dT d).length : Int) e hp_5 (by decide) (by omega) (by omega) he) rfl rfl (Nat.le_of_ble_eq_true rfl) (Rm.mono hRm (by decide) (by decide)) ?_
        refine V_R_8 (fun hR => ?_)
        refine V_aload_n_8 (pc := 116) C (dk k_P_addThing 59 rfl) rfl ?_
        refine V_dupR_8 (pc := 117) C (dk k_P_addThing 60 rfl) ?_
        refine V_geti_8 (pc := 118) (ji := 2) C (dk k_P_addThing 61 rfl) fl_P_34 hp (by decide) rfl rfl ?_
        have e4 : up (up (up (up σ (p + 2) ((dT d).length : Int) a) (p + 3) ((dT d).length : Int) b) (p + 4) ((dT d).length : Int) c) (p + 5) ((dT d).length : Int) e p 2 = ((dT d).length : Int) := (up_ne1 _ _ _ _ (by omega)).trans e3
        rw [e4]
        refine V_iconst_8 (pc := 121) C (dk k_P_addThing 62 rfl) rfl ?_
        refine V_iadd_8 (pc := 122) C (dk k_P_addThing 63 rfl) ?_
        refine V_puti_8 (pc := 123) (ji := 2) C (dk k_P_addThing 64 rfl) fl_P_34 fw_5_2 hp (by decide) rfl rfl ⟨by omega, by omega⟩ ?_
        refine V_R_8 (fun hR => ?_)
        refine V_iconst_8 (pc := 126) C (dk k_P_addThing 65 rfl) rfl ?_
        refine V_zret_8 (pc := 127) C (by first | exact Or.inl rfl | exact Or.inr rfl | (split <;> first | exact Or.inl rfl | exact Or.inr rfl) | omega) E (dk k_P_addThing 66 rfl) ?_
        first | (exfalso; omega) | (rw [if_pos (by omega)]; exact ⟨rfl, fun z => hd.addT (by omega) a b c e, ((((Fr.rf p 7 σ).up _ _ (by omega) (by omega)).up _ _ (by omega) (by omega)).up _ _ (by omega) (by omega)).up _ _ (by omega) (by omega) |>.up _ _ (by omega) (by omega)⟩)
      · skip
        refine V_iconst_8 (pc := 65) C (dk k_P_addThing 33 rfl) rfl ?_
        refine V_zret_8 (pc := 66) C (by first | exact Or.inl rfl | exact Or.inr rfl | (split <;> first | exact Or.inl rfl | exact Or.inr rfl) | omega) E (dk k_P_addThing 34 rfl) ?_
        first | (exfalso; omega) | (rw [if_neg (by omega)]; exact ⟨rfl, fun z => by omega, Fr.rf _ _ _⟩)
    · skip
      refine V_iload_n_8 (pc := 23) C (dk k_P_addThing 12 rfl) rfl ?_
      refine V_iconst_8 (pc := 24) C (dk k_P_addThing 13 rfl) rfl ?_
      refine V_iconst_8 (pc := 25) C (dk k_P_addThing 14 rfl) rfl ?_
      refine V_callS_8 (pc := 26) C (dk k_P_addThing 15 rfl) lk_P_54 cm_F_within sm_F_within (c_F_within_8 _ _ _ b 0 3 hb R0 ⟨by decide, by decide⟩) rfl rfl (Nat.le_of_ble_eq_true rfl) (Rm.mono hRm (by decide) (by decide)) ?_
      refine V_ifeqB_8 (pc := 29) C (dk k_P_addThing 16 rfl) 57 rfl (fun h5 => ?_) (fun h5 => ?_)
      · skip
        refine V_iconst_8 (pc := 57) C (dk k_P_addThing 29 rfl) rfl ?_
        refine V_istore_8 (pc := 58) C (dk k_P_addThing 30 rfl) (by rw [hXN]; decide) ?_
        dsimp only [lst, lstL, lz, kill, Fin.val, Nat.reduceAdd]
        refine V_iload_8 (pc := 60) C (dk k_P_addThing 31 rfl) rfl ?_
        refine V_ifne_8 (pc := 62) C (dk k_P_addThing 32 rfl) 67 rfl (by first | exact hR _ _ | with_reducible assumption | exact ⟨by omega, by omega⟩) (fun h6 => ?_) (fun h6 => ?_)
        · skip
          refine V_aload_n_8 (pc := 67) C (dk k_P_addThing 35 rfl) rfl ?_
          refine V_getr_8 (pc := 68) (o2 := p + 2) C (dk k_P_addThing 36 rfl) fl_P_15 hp (by decide) rfl (by decide) rfl ?_
          refine V_aload_n_8 (pc := 71) C (dk k_P_addThing 37 rfl) rfl ?_
          refine V_geti_8 (pc := 72) (ji := 2) C (dk k_P_addThing 38 rfl) fl_P_34 hp (by decide) rfl rfl ?_
          rw [b0]
          refine V_iload_n_8 (pc := 75) C (dk k_P_addThing 39 rfl) rfl ?_
          refine V_callS0_8 (pc := 76) C (dk k_P_addThing 40 rfl) lk_P_50 cm_F_put sm_F_put (c_put_8 _ _ _ (p + 2) 8 ((dT d).length : Int) a hp_2 (by decide) (by omega) (by omega) ha) rfl rfl (Nat.le_of_ble_eq_true rfl) (Rm.mono hRm (by decide) (by decide)) ?_
          refine V_R_8 (fun hR => ?_)
          refine V_aload_n_8 (pc := 79) C (dk k_P_addThing 41 rfl) rfl ?_
          refine V_getr_8 (pc := 80) (o2 := p + 3) C (dk k_P_addThing 42 rfl) fl_P_18 hp (by decide) rfl (by decide) rfl ?_
          refine V_aload_n_8 (pc := 83) C (dk k_P_addThing 43 rfl) rfl ?_
          refine V_geti_8 (pc := 84) (ji := 2) C (dk k_P_addThing 44 rfl) fl_P_34 hp (by decide) rfl rfl ?_
          have e1 : up σ (p + 2) ((dT d).length : Int) a p 2 = ((dT d).length : Int) := (up_ne1 _ _ _ _ (by omega)).trans b0
          rw [e1]
          refine V_iload_n_8 (pc := 87) C (dk k_P_addThing 45 rfl) rfl ?_
          refine V_callS0_8 (pc := 88) C (dk k_P_addThing 46 rfl) lk_P_50 cm_F_put sm_F_put (c_put_8 _ _ _ (p + 3) 8 ((dT d).length : Int) b hp_3 (by decide) (by omega) (by omega) hb) rfl rfl (Nat.le_of_ble_eq_true rfl) (Rm.mono hRm (by decide) (by decide)) ?_
          refine V_R_8 (fun hR => ?_)
          refine V_aload_n_8 (pc := 91) C (dk k_P_addThing 47 rfl) rfl ?_
          refine V_getr_8 (pc := 92) (o2 := p + 4) C (dk k_P_addThing 48 rfl) fl_P_21 hp (by decide) rfl (by decide) rfl ?_
          refine V_aload_n_8 (pc := 95) C (dk k_P_addThing 49 rfl) rfl ?_
          refine V_geti_8 (pc := 96) (ji := 2) C (dk k_P_addThing 50 rfl) fl_P_34 hp (by decide) rfl rfl ?_
          have e2 : up (up σ (p + 2) ((dT d).length : Int) a) (p + 3) ((dT d).length : Int) b p 2 = ((dT d).length : Int) := (up_ne1 _ _ _ _ (by omega)).trans e1
          rw [e2]
          refine V_iload_n_8 (pc := 99) C (dk k_P_addThing 51 rfl) rfl ?_
          refine V_callS0_8 (pc := 100) C (dk k_P_addThing 52 rfl) lk_P_50 cm_F_put sm_F_put (c_put_8 _ _ _ (p + 4) 8 ((dT d).length : Int) c hp_4 (by decide) (by omega) (by omega) hc) rfl rfl (Nat.le_of_ble_eq_true rfl) (Rm.mono hRm (by decide) (by decide)) ?_
          refine V_R_8 (fun hR => ?_)
          refine V_aload_n_8 (pc := 103) C (dk k_P_addThing 53 rfl) rfl ?_
          refine V_getr_8 (pc := 104) (o2 := p + 5) C (dk k_P_addThing 54 rfl) fl_P_24 hp (by decide) rfl (by decide) rfl ?_
          refine V_aload_n_8 (pc := 107) C (dk k_P_addThing 55 rfl) rfl ?_
          refine V_geti_8 (pc := 108) (ji := 2) C (dk k_P_addThing 56 rfl) fl_P_34 hp (by decide) rfl rfl ?_
          have e3 : up (up (up σ (p + 2) ((dT d).length : Int) a) (p + 3) ((dT d).length : Int) b) (p + 4) ((dT d).length : Int) c p 2 = ((dT d).length : Int) := (up_ne1 _ _ _ _ (by omega)).trans e2
          rw [e3]
          refine V_iload_8 (pc := 111) C (dk k_P_addThing 57 rfl) rfl ?_
          refine V_callS0_8 (pc := 113) C (dk k_P_addThing 58 rfl) lk_P_50 cm_F_put sm_F_put (c_put_8 _ _ _ (p + 5) 8 ((dT d).length : Int) e hp_5 (by decide) (by omega) (by omega) he) rfl rfl (Nat.le_of_ble_eq_true rfl) (Rm.mono hRm (by decide) (by decide)) ?_
          refine V_R_8 (fun hR => ?_)
          refine V_aload_n_8 (pc := 116) C (dk k_P_addThing 59 rfl) rfl ?_
          refine V_dupR_8 (pc := 117) C (dk k_P_addThing 60 rfl) ?_
          refine V_geti_8 (pc := 118) (ji := 2) C (dk k_P_addThing 61 rfl) fl_P_34 hp (by decide) rfl rfl ?_
          have e4 : up (up (up (up σ (p + 2) ((dT d).length : Int) a) (p + 3) ((dT d).length : Int) b) (p + 4) ((dT d).length : Int) c) (p + 5) ((dT d).length : Int) e p 2 = ((dT d).length : Int) := (up_ne1 _ _ _ _ (by omega)).trans e3
          rw [e4]
          refine V_iconst_8 (pc := 121) C (dk k_P_addThing 62 rfl) rfl ?_
          refine V_iadd_8 (pc := 122) C (dk k_P_addThing 63 rfl) ?_
          refine V_puti_8 (pc := 123) (ji := 2) C (dk k_P_addThing 64 rfl) fl_P_34 fw_5_2 hp (by decide) rfl rfl ⟨by omega, by omega⟩ ?_
          refine V_R_8 (fun hR => ?_)
          refine V_iconst_8 (pc := 126) C (dk k_P_addThing 65 rfl) rfl ?_
          refine V_zret_8 (pc := 127) C (by first | exact Or.inl rfl | exact Or.inr rfl | (split <;> first | exact Or.inl rfl | exact Or.inr rfl) | omega) E (dk k_P_addThing 66 rfl) ?_
          first | (exfalso; omega) | (rw [if_pos (by omega)]; exact ⟨rfl, fun z => hd.addT (by omega) a b c e, ((((Fr.rf p 7 σ).up _ _ (by omega) (by omega)).up _ _ (by omega) (by omega)).up _ _ (by omega) (by omega)).up _ _ (by omega) (by omega) |>.up _ _ (by omega) (by omega)⟩)
        · skip
          refine V_iconst_8 (pc := 65) C (dk k_P_addThing 33 rfl) rfl ?_
          refine V_zret_8 (pc := 66) C (by first | exact Or.inl rfl | exact Or.inr rfl | (split <;> first | exact Or.inl rfl | exact Or.inr rfl) | omega) E (dk k_P_addThing 34 rfl) ?_
          first | (exfalso; omega) | (rw [if_neg (by omega)]; exact ⟨rfl, fun z => by omega, Fr.rf _ _ _⟩)
      · skip
        refine V_iload_n_8 (pc := 32) C (dk k_P_addThing 17 rfl) rfl ?_
        refine V_iconst_8 (pc := 33) C (dk k_P_addThing 18 rfl) rfl ?_
        refine V_bipush_8 (pc := 34) (n' := 20) C (dk k_P_addThing 19 rfl) rfl ?_
        refine V_callS_8 (pc := 36) C (dk k_P_addThing 20 rfl) lk_P_54 cm_F_within sm_F_within (c_F_within_8 _ _ _ c 1 20 hc ⟨by decide, by decide⟩ ⟨by decide, by decide⟩) rfl rfl (Nat.le_of_ble_eq_true rfl) (Rm.mono hRm (by decide) (by decide)) ?_
        refine V_ifeqB_8 (pc := 39) C (dk k_P_addThing 21 rfl) 57 rfl (fun h7 => ?_) (fun h7 => ?_)
        · skip
          refine V_iconst_8 (pc := 57) C (dk k_P_addThing 29 rfl) rfl ?_
          refine V_istore_8 (pc := 58) C (dk k_P_addThing 30 rfl) (by rw [hXN]; decide) ?_
          dsimp only [lst, lstL, lz, kill, Fin.val, Nat.reduceAdd]
          refine V_iload_8 (pc := 60) C (dk k_P_addThing 31 rfl) rfl ?_
          refine V_ifne_8 (pc := 62) C (dk k_P_addThing 32 rfl) 67 rfl (by first | exact hR _ _ | with_reducible assumption | exact ⟨by omega, by omega⟩) (fun h8 => ?_) (fun h8 => ?_)
          · skip
            refine V_aload_n_8 (pc := 67) C (dk k_P_addThing 35 rfl) rfl ?_
            refine V_getr_8 (pc := 68) (o2 := p + 2) C (dk k_P_addThing 36 rfl) fl_P_15 hp (by decide) rfl (by decide) rfl ?_
            refine V_aload_n_8 (pc := 71) C (dk k_P_addThing 37 rfl) rfl ?_
            refine V_geti_8 (pc := 72) (ji := 2) C (dk k_P_addThing 38 rfl) fl_P_34 hp (by decide) rfl rfl ?_
            rw [b0]
            refine V_iload_n_8 (pc := 75) C (dk k_P_addThing 39 rfl) rfl ?_
            refine V_callS0_8 (pc := 76) C (dk k_P_addThing 40 rfl) lk_P_50 cm_F_put sm_F_put (c_put_8 _ _ _ (p + 2) 8 ((dT d).length : Int) a hp_2 (by decide) (by omega) (by omega) ha) rfl rfl (Nat.le_of_ble_eq_true rfl) (Rm.mono hRm (by decide) (by decide)) ?_
            refine V_R_8 (fun hR => ?_)
            refine V_aload_n_8 (pc := 79) C (dk k_P_addThing 41 rfl) rfl ?_
            refine V_getr_8 (pc := 80) (o2 := p + 3) C (dk k_P_addThing 42 rfl) fl_P_18 hp (by decide) rfl (by decide) rfl ?_
            refine V_aload_n_8 (pc := 83) C (dk k_P_addThing 43 rfl) rfl ?_
            refine V_geti_8 (pc := 84) (ji := 2) C (dk k_P_addThing 44 rfl) fl_P_34 hp (by decide) rfl rfl ?_
            have e1 : up σ (p + 2) ((dT d).length : Int) a p 2 = ((dT d).length : Int) := (up_ne1 _ _ _ _ (by omega)).trans b0
            rw [e1]
            refine V_iload_n_8 (pc := 87) C (dk k_P_addThing 45 rfl) rfl ?_
            refine V_callS0_8 (pc := 88) C (dk k_P_addThing 46 rfl) lk_P_50 cm_F_put sm_F_put (c_put_8 _ _ _ (p + 3) 8 ((dT d).length : Int) b hp_3 (by decide) (by omega) (by omega) hb) rfl rfl (Nat.le_of_ble_eq_true rfl) (Rm.mono hRm (by decide) (by decide)) ?_
            refine V_R_8 (fun hR => ?_)
            refine V_aload_n_8 (pc := 91) C (dk k_P_addThing 47 rfl) rfl ?_
            refine V_getr_8 (pc := 92) (o2 := p + 4) C (dk k_P_addThing 48 rfl) fl_P_21 hp (by decide) rfl (by decide) rfl ?_
            refine V_aload_n_8 (pc := 95) C (dk k_P_addThing 49 rfl) rfl ?_
            refine V_geti_8 (pc := 96) (ji := 2) C (dk k_P_addThing 50 rfl) fl_P_34 hp (by decide) rfl rfl ?_
            have e2 : up (up σ (p + 2) ((dT d).length : Int) a) (p + 3) ((dT d).length : Int) b p 2 = ((dT d).length : Int) := (up_ne1 _ _ _ _ (by omega)).trans e1
            rw [e2]
            refine V_iload_n_8 (pc := 99) C (dk k_P_addThing 51 rfl) rfl ?_
            refine V_callS0_8 (pc := 100) C (dk k_P_addThing 52 rfl) lk_P_50 cm_F_put sm_F_put (c_put_8 _ _ _ (p + 4) 8 ((dT d).length : Int) c hp_4 (by decide) (by omega) (by omega) hc) rfl rfl (Nat.le_of_ble_eq_true rfl) (Rm.mono hRm (by decide) (by decide)) ?_
            refine V_R_8 (fun hR => ?_)
            refine V_aload_n_8 (pc := 103) C (dk k_P_addThing 53 rfl) rfl ?_
            refine V_getr_8 (pc := 104) (o2 := p + 5) C (dk k_P_addThing 54 rfl) fl_P_24 hp (by decide) rfl (by decide) rfl ?_
            refine V_aload_n_8 (pc := 107) C (dk k_P_addThing 55 rfl) rfl ?_
            refine V_geti_8 (pc := 108) (ji := 2) C (dk k_P_addThing 56 rfl) fl_P_34 hp (by decide) rfl rfl ?_
            have e3 : up (up (up σ (p + 2) ((dT d).length : Int) a) (p + 3) ((dT d).length : Int) b) (p + 4) ((dT d).length : Int) c p 2 = ((dT d).length : Int) := (up_ne1 _ _ _ _ (by omega)).trans e2
            rw [e3]
            refine V_iload_8 (pc := 111) C (dk k_P_addThing 57 rfl) rfl ?_
            refine V_callS0_8 (pc := 113) C (dk k_P_addThing 58 rfl) lk_P_50 cm_F_put sm_F_put (c_put_8 _ _ _ (p + 5) 8 ((dT d).length : Int) e hp_5 (by decide) (by omega) (by omega) he) rfl rfl (Nat.le_of_ble_eq_true rfl) (Rm.mono hRm (by decide) (by decide)) ?_
            refine V_R_8 (fun hR => ?_)
            refine V_aload_n_8 (pc := 116) C (dk k_P_addThing 59 rfl) rfl ?_
            refine V_dupR_8 (pc := 117) C (dk k_P_addThing 60 rfl) ?_
            refine V_geti_8 (pc := 118) (ji := 2) C (dk k_P_addThing 61 rfl) fl_P_34 hp (by decide) rfl rfl ?_
            have e4 : up (up (up (up σ (p + 2) ((dT d).length : Int) a) (p + 3) ((dT d).length : Int) b) (p + 4) ((dT d).length : Int) c) (p + 5) ((dT d).length : Int) e p 2 = ((dT d).length : Int) := (up_ne1 _ _ _ _ (by omega)).trans e3
            rw [e4]
            refine V_iconst_8 (pc := 121) C (dk k_P_addThing 62 rfl) rfl ?_
            refine V_iadd_8 (pc := 122) C (dk k_P_addThing 63 rfl) ?_
            refine V_puti_8 (pc := 123) (ji := 2) C (dk k_P_addThing 64 rfl) fl_P_34 fw_5_2 hp (by decide) rfl rfl ⟨by omega, by omega⟩ ?_
            refine V_R_8 (fun hR => ?_)
            refine V_iconst_8 (pc := 126) C (dk k_P_addThing 65 rfl) rfl ?_
            refine V_zret_8 (pc := 127) C (by first | exact Or.inl rfl | exact Or.inr rfl | (split <;> first | exact Or.inl rfl | exact Or.inr rfl) | omega) E (dk k_P_addThing 66 rfl) ?_
            first | (exfalso; omega) | (rw [if_pos (by omega)]; exact ⟨rfl, fun z => hd.addT (by omega) a b c e, ((((Fr.rf p 7 σ).up _ _ (by omega) (by omega)).up _ _ (by omega) (by omega)).up _ _ (by omega) (by omega)).up _ _ (by omega) (by omega) |>.up _ _ (by omega) (by omega)⟩)
          · skip
            refine V_iconst_8 (pc := 65) C (dk k_P_addThing 33 rfl) rfl ?_
            refine V_zret_8 (pc := 66) C (by first | exact Or.inl rfl | exact Or.inr rfl | (split <;> first | exact Or.inl rfl | exact Or.inr rfl) | omega) E (dk k_P_addThing 34 rfl) ?_
            first | (exfalso; omega) | (rw [if_neg (by omega)]; exact ⟨rfl, fun z => by omega, Fr.rf _ _ _⟩)
        · skip
          refine V_iload_8 (pc := 42) C (dk k_P_addThing 22 rfl) rfl ?_
          refine V_iconst_8 (pc := 44) C (dk k_P_addThing 23 rfl) rfl ?_
          refine V_bipush_8 (pc := 45) (n' := 20) C (dk k_P_addThing 24 rfl) rfl ?_
          refine V_callS_8 (pc := 47) C (dk k_P_addThing 25 rfl) lk_P_54 cm_F_within sm_F_within (c_F_within_8 _ _ _ e 0 20 he R0 ⟨by decide, by decide⟩) rfl rfl (Nat.le_of_ble_eq_true rfl) (Rm.mono hRm (by decide) (by decide)) ?_
          refine V_ifeqB_8 (pc := 50) C (dk k_P_addThing 26 rfl) 57 rfl (fun h9 => ?_) (fun h9 => ?_)
          · skip
            refine V_iconst_8 (pc := 57) C (dk k_P_addThing 29 rfl) rfl ?_
            refine V_istore_8 (pc := 58) C (dk k_P_addThing 30 rfl) (by rw [hXN]; decide) ?_
            dsimp only [lst, lstL, lz, kill, Fin.val, Nat.reduceAdd]
            refine V_iload_8 (pc := 60) C (dk k_P_addThing 31 rfl) rfl ?_
            refine V_ifne_8 (pc := 62) C (dk k_P_addThing 32 rfl) 67 rfl (by first | exact hR _ _ | with_reducible assumption | exact ⟨by omega, by omega⟩) (fun h10 => ?_) (fun h10 => ?_)
            · skip
              refine V_aload_n_8 (pc := 67) C (dk k_P_addThing 35 rfl) rfl ?_
              refine V_getr_8 (pc := 68) (o2 := p + 2) C (dk k_P_addThing 36 rfl) fl_P_15 hp (by decide) rfl (by decide) rfl ?_
              refine V_aload_n_8 (pc := 71) C (dk k_P_addThing 37 rfl) rfl ?_
              refine V_geti_8 (pc := 72) (ji := 2) C (dk k_P_addThing 38 rfl) fl_P_34 hp (by decide) rfl rfl ?_
              rw [b0]
              refine V_iload_n_8 (pc := 75) C (dk k_P_addThing 39 rfl) rfl ?_
              refine V_callS0_8 (pc := 76) C (dk k_P_addThing 40 rfl) lk_P_50 cm_F_put sm_F_put (c_put_8 _ _ _ (p + 2) 8 ((dT d).length : Int) a hp_2 (by decide) (by omega) (by omega) ha) rfl rfl (Nat.le_of_ble_eq_true rfl) (Rm.mono hRm (by decide) (by decide)) ?_
              refine V_R_8 (fun hR => ?_)
              refine V_aload_n_8 (pc := 79) C (dk k_P_addThing 41 rfl) rfl ?_
              refine V_getr_8 (pc := 80) (o2 := p + 3) C (dk k_P_addThing 42 rfl) fl_P_18 hp (by decide) rfl (by decide) rfl ?_
              refine V_aload_n_8 (pc := 83) C (dk k_P_addThing 43 rfl) rfl ?_
              refine V_geti_8 (pc := 84) (ji := 2) C (dk k_P_addThing 44 rfl) fl_P_34 hp (by decide) rfl rfl ?_
              have e1 : up σ (p + 2) ((dT d).length : Int) a p 2 = ((dT d).length : Int) := (up_ne1 _ _ _ _ (by omega)).trans b0
              rw [e1]
              refine V_iload_n_8 (pc := 87) C (dk k_P_addThing 45 rfl) rfl ?_
              refine V_callS0_8 (pc := 88) C (dk k_P_addThing 46 rfl) lk_P_50 cm_F_put sm_F_put (c_put_8 _ _ _ (p + 3) 8 ((dT d).length : Int) b hp_3 (by decide) (by omega) (by omega) hb) rfl rfl (Nat.le_of_ble_eq_true rfl) (Rm.mono hRm (by decide) (by decide)) ?_
              refine V_R_8 (fun hR => ?_)
              refine V_aload_n_8 (pc := 91) C (dk k_P_addThing 47 rfl) rfl ?_
              refine V_getr_8 (pc := 92) (o2 := p + 4) C (dk k_P_addThing 48 rfl) fl_P_21 hp (by decide) rfl (by decide) rfl ?_
              refine V_aload_n_8 (pc := 95) C (dk k_P_addThing 49 rfl) rfl ?_
              refine V_geti_8 (pc := 96) (ji := 2) C (dk k_P_addThing 50 rfl) fl_P_34 hp (by decide) rfl rfl ?_
              have e2 : up (up σ (p + 2) ((dT d).length : Int) a) (p + 3) ((dT d).length : Int) b p 2 = ((dT d).length : Int) := (up_ne1 _ _ _ _ (by omega)).trans e1
              rw [e2]
              refine V_iload_n_8 (pc := 99) C (dk k_P_addThing 51 rfl) rfl ?_
              refine V_callS0_8 (pc := 100) C (dk k_P_addThing 52 rfl) lk_P_50 cm_F_put sm_F_put (c_put_8 _ _ _ (p + 4) 8 ((dT d).length : Int) c hp_4 (by decide) (by omega) (by omega) hc) rfl rfl (Nat.le_of_ble_eq_true rfl) (Rm.mono hRm (by decide) (by decide)) ?_
              refine V_R_8 (fun hR => ?_)
              refine V_aload_n_8 (pc := 103) C (dk k_P_addThing 53 rfl) rfl ?_
              refine V_getr_8 (pc := 104) (o2 := p + 5) C (dk k_P_addThing 54 rfl) fl_P_24 hp (by decide) rfl (by decide) rfl ?_
              refine V_aload_n_8 (pc := 107) C (dk k_P_addThing 55 rfl) rfl ?_
              refine V_geti_8 (pc := 108) (ji := 2) C (dk k_P_addThing 56 rfl) fl_P_34 hp (by decide) rfl rfl ?_
              have e3 : up (up (up σ (p + 2) ((dT d).length : Int) a) (p + 3) ((dT d).length : Int) b) (p + 4) ((dT d).length : Int) c p 2 = ((dT d).length : Int) := (up_ne1 _ _ _ _ (by omega)).trans e2
              rw [e3]
              refine V_iload_8 (pc := 111) C (dk k_P_addThing 57 rfl) rfl ?_
              refine V_callS0_8 (pc := 113) C (dk k_P_addThing 58 rfl) lk_P_50 cm_F_put sm_F_put (c_put_8 _ _ _ (p + 5) 8 ((dT d).length : Int) e hp_5 (by decide) (by omega) (by omega) he) rfl rfl (Nat.le_of_ble_eq_true rfl) (Rm.mono hRm (by decide) (by decide)) ?_
              refine V_R_8 (fun hR => ?_)
              refine V_aload_n_8 (pc := 116) C (dk k_P_addThing 59 rfl) rfl ?_
              refine V_dupR_8 (pc := 117) C (dk k_P_addThing 60 rfl) ?_
              refine V_geti_8 (pc := 118) (ji := 2) C (dk k_P_addThing 61 rfl) fl_P_34 hp (by decide) rfl rfl ?_
              have e4 : up (up (up (up σ (p + 2) ((dT d).length : Int) a) (p + 3) ((dT d).length : Int) b) (p + 4) ((dT d).length : Int) c) (p + 5) ((dT d).length : Int) e p 2 = ((dT d).length : Int) := (up_ne1 _ _ _ _ (by omega)).trans e3
              rw [e4]
              refine V_iconst_8 (pc := 121) C (dk k_P_addThing 62 rfl) rfl ?_
              refine V_iadd_8 (pc := 122) C (dk k_P_addThing 63 rfl) ?_
              refine V_puti_8 (pc := 123) (ji := 2) C (dk k_P_addThing 64 rfl) fl_P_34 fw_5_2 hp (by decide) rfl rfl ⟨by omega, by omega⟩ ?_
              refine V_R_8 (fun hR => ?_)
              refine V_iconst_8 (pc := 126) C (dk k_P_addThing 65 rfl) rfl ?_
              refine V_zret_8 (pc := 127) C (by first | exact Or.inl rfl | exact Or.inr rfl | (split <;> first | exact Or.inl rfl | exact Or.inr rfl) | omega) E (dk k_P_addThing 66 rfl) ?_
              first | (exfalso; omega) | (rw [if_pos (by omega)]; exact ⟨rfl, fun z => hd.addT (by omega) a b c e, ((((Fr.rf p 7 σ).up _ _ (by omega) (by omega)).up _ _ (by omega) (by omega)).up _ _ (by omega) (by omega)).up _ _ (by omega) (by omega) |>.up _ _ (by omega) (by omega)⟩)
            · skip
              refine V_iconst_8 (pc := 65) C (dk k_P_addThing 33 rfl) rfl ?_
              refine V_zret_8 (pc := 66) C (by first | exact Or.inl rfl | exact Or.inr rfl | (split <;> first | exact Or.inl rfl | exact Or.inr rfl) | omega) E (dk k_P_addThing 34 rfl) ?_
              first | (exfalso; omega) | (rw [if_neg (by omega)]; exact ⟨rfl, fun z => by omega, Fr.rf _ _ _⟩)
          · skip
            refine V_iconst_8 (pc := 53) C (dk k_P_addThing 27 rfl) rfl ?_
            refine V_goto_8 (pc := 54) C (dk k_P_addThing 28 rfl) 58 rfl ?_
            refine V_istore_8 (pc := 58) C (dk k_P_addThing 30 rfl) (by rw [hXN]; decide) ?_
            dsimp only [lst, lstL, lz, kill, Fin.val, Nat.reduceAdd]
            refine V_iload_8 (pc := 60) C (dk k_P_addThing 31 rfl) rfl ?_
            refine V_ifne_8 (pc := 62) C (dk k_P_addThing 32 rfl) 67 rfl (by first | exact hR _ _ | with_reducible assumption | exact ⟨by omega, by omega⟩) (fun h11 => ?_) (fun h11 => ?_)
            · skip
              refine V_aload_n_8 (pc := 67) C (dk k_P_addThing 35 rfl) rfl ?_
              refine V_getr_8 (pc := 68) (o2 := p + 2) C (dk k_P_addThing 36 rfl) fl_P_15 hp (by decide) rfl (by decide) rfl ?_
              refine V_aload_n_8 (pc := 71) C (dk k_P_addThing 37 rfl) rfl ?_
              refine V_geti_8 (pc := 72) (ji := 2) C (dk k_P_addThing 38 rfl) fl_P_34 hp (by decide) rfl rfl ?_
              rw [b0]
              refine V_iload_n_8 (pc := 75) C (dk k_P_addThing 39 rfl) rfl ?_
              refine V_callS0_8 (pc := 76) C (dk k_P_addThing 40 rfl) lk_P_50 cm_F_put sm_F_put (c_put_8 _ _ _ (p + 2) 8 ((dT d).length : Int) a hp_2 (by decide) (by omega) (by omega) ha) rfl rfl (Nat.le_of_ble_eq_true rfl) (Rm.mono hRm (by decide) (by decide)) ?_
              refine V_R_8 (fun hR => ?_)
              refine V_aload_n_8 (pc := 79) C (dk k_P_addThing 41 rfl) rfl ?_
              refine V_getr_8 (pc := 80) (o2 := p + 3) C (dk k_P_addThing 42 rfl) fl_P_18 hp (by decide) rfl (by decide) rfl ?_
              refine V_aload_n_8 (pc := 83) C (dk k_P_addThing 43 rfl) rfl ?_
              refine V_geti_8 (pc := 84) (ji := 2) C (dk k_P_addThing 44 rfl) fl_P_34 hp (by decide) rfl rfl ?_
              have e1 : up σ (p + 2) ((dT d).length : Int) a p 2 = ((dT d).length : Int) := (up_ne1 _ _ _ _ (by omega)).trans b0
              rw [e1]
              refine V_iload_n_8 (pc := 87) C (dk k_P_addThing 45 rfl) rfl ?_
              refine V_callS0_8 (pc := 88) C (dk k_P_addThing 46 rfl) lk_P_50 cm_F_put sm_F_put (c_put_8 _ _ _ (p + 3) 8 ((dT d).length : Int) b hp_3 (by decide) (by omega) (by omega) hb) rfl rfl (Nat.le_of_ble_eq_true rfl) (Rm.mono hRm (by decide) (by decide)) ?_
              refine V_R_8 (fun hR => ?_)
              refine V_aload_n_8 (pc := 91) C (dk k_P_addThing 47 rfl) rfl ?_
              refine V_getr_8 (pc := 92) (o2 := p + 4) C (dk k_P_addThing 48 rfl) fl_P_21 hp (by decide) rfl (by decide) rfl ?_
              refine V_aload_n_8 (pc := 95) C (dk k_P_addThing 49 rfl) rfl ?_
              refine V_geti_8 (pc := 96) (ji := 2) C (dk k_P_addThing 50 rfl) fl_P_34 hp (by decide) rfl rfl ?_
              have e2 : up (up σ (p + 2) ((dT d).length : Int) a) (p + 3) ((dT d).length : Int) b p 2 = ((dT d).length : Int) := (up_ne1 _ _ _ _ (by omega)).trans e1
              rw [e2]
              refine V_iload_n_8 (pc := 99) C (dk k_P_addThing 51 rfl) rfl ?_
              refine V_callS0_8 (pc := 100) C (dk k_P_addThing 52 rfl) lk_P_50 cm_F_put sm_F_put (c_put_8 _ _ _ (p + 4) 8 ((dT d).length : Int) c hp_4 (by decide) (by omega) (by omega) hc) rfl rfl (Nat.le_of_ble_eq_true rfl) (Rm.mono hRm (by decide) (by decide)) ?_
              refine V_R_8 (fun hR => ?_)
              refine V_aload_n_8 (pc := 103) C (dk k_P_addThing 53 rfl) rfl ?_
              refine V_getr_8 (pc := 104) (o2 := p + 5) C (dk k_P_addThing 54 rfl) fl_P_24 hp (by decide) rfl (by decide) rfl ?_
              refine V_aload_n_8 (pc := 107) C (dk k_P_addThing 55 rfl) rfl ?_
              refine V_geti_8 (pc := 108) (ji := 2) C (dk k_P_addThing 56 rfl) fl_P_34 hp (by decide) rfl rfl ?_
              have e3 : up (up (up σ (p + 2) ((dT d).length : Int) a) (p + 3) ((dT d).length : Int) b) (p + 4) ((dT d).length : Int) c p 2 = ((dT d).length : Int) := (up_ne1 _ _ _ _ (by omega)).trans e2
              rw [e3]
              refine V_iload_8 (pc := 111) C (dk k_P_addThing 57 rfl) rfl ?_
              refine V_callS0_8 (pc := 113) C (dk k_P_addThing 58 rfl) lk_P_50 cm_F_put sm_F_put (c_put_8 _ _ _ (p + 5) 8 ((dT d).length : Int) e hp_5 (by decide) (by omega) (by omega) he) rfl rfl (Nat.le_of_ble_eq_true rfl) (Rm.mono hRm (by decide) (by decide)) ?_
              refine V_R_8 (fun hR => ?_)
              refine V_aload_n_8 (pc := 116) C (dk k_P_addThing 59 rfl) rfl ?_
              refine V_dupR_8 (pc := 117) C (dk k_P_addThing 60 rfl) ?_
              refine V_geti_8 (pc := 118) (ji := 2) C (dk k_P_addThing 61 rfl) fl_P_34 hp (by decide) rfl rfl ?_
              have e4 : up (up (up (up σ (p + 2) ((dT d).length : Int) a) (p + 3) ((dT d).length : Int) b) (p + 4) ((dT d).length : Int) c) (p + 5) ((dT d).length : Int) e p 2 = ((dT d).length : Int) := (up_ne1 _ _ _ _ (by omega)).trans e3
              rw [e4]
              refine V_iconst_8 (pc := 121) C (dk k_P_addThing 62 rfl) rfl ?_
              refine V_iadd_8 (pc := 122) C (dk k_P_addThing 63 rfl) ?_
              refine V_puti_8 (pc := 123) (ji := 2) C (dk k_P_addThing 64 rfl) fl_P_34 fw_5_2 hp (by decide) rfl rfl ⟨by omega, by omega⟩ ?_
              refine V_R_8 (fun hR => ?_)
              refine V_iconst_8 (pc := 126) C (dk k_P_addThing 65 rfl) rfl ?_
              refine V_zret_8 (pc := 127) C (by first | exact Or.inl rfl | exact Or.inr rfl | (split <;> first | exact Or.inl rfl | exact Or.inr rfl) | omega) E (dk k_P_addThing 66 rfl) ?_
              first | (exfalso; omega) | (rw [if_pos (by omega)]; exact ⟨rfl, fun z => hd.addT (by omega) a b c e, ((((Fr.rf p 7 σ).up _ _ (by omega) (by omega)).up _ _ (by omega) (by omega)).up _ _ (by omega) (by omega)).up _ _ (by omega) (by omega) |>.up _ _ (by omega) (by omega)⟩)
            · skip
              refine V_iconst_8 (pc := 65) C (dk k_P_addThing 33 rfl) rfl ?_
              refine V_zret_8 (pc := 66) C (by first | exact Or.inl rfl | exact Or.inr rfl | (split <;> first | exact Or.inl rfl | exact Or.inr rfl) | omega) E (dk k_P_addThing 34 rfl) ?_
              first | (exfalso; omega) | (rw [if_neg (by omega)]; exact ⟨rfl, fun z => by omega, Fr.rf _ _ _⟩)

set_option maxHeartbeats 1000000 in
set_option maxRecDepth 20000 in
theorem c_R_isFigure_8 (l : Launch) (G : GE) (σ : Wd) (tx : List Int) (i : Nat) (hT : TxR σ tx) (hi : i < 2000) : Ct_8 l G y_R_isFigure b_R_isFigure 3 (some (.boolean)) 1 22 [vR 3, vR 1, vI (i : Int)] σ (Dt (some (vI (if fig (chr tx i) then 1 else 0))) σ) := by
  refine Ct_8.of cm_R_isFigure (Nat.le_of_ble_eq_true rfl) ?_
  intro X hXl hXG hXN hRm C E
  subst hXl; subst hXG
  show V_8 X 0 [some (vR 3), some (vR 1), some (vI (i : Int))] [] σ
  refine V_R_8 (fun hR => ?_)
  have cb := chr_b hT i
  refine V_aload_n_8 (pc := 0) C (dk k_R_isFigure 0 rfl) rfl ?_
  refine V_iload_n_8 (pc := 1) C (dk k_R_isFigure 1 rfl) rfl ?_
  refine V_callV_8 (pc := 2) C (dk k_R_isFigure 2 rfl) lk_R_30 cm_L_letter vm_L_letter (c_let_8 _ _ _ tx i hT (by omega)) kq_1_8 rfl rfl rfl (Nat.le_of_ble_eq_true rfl) (Rm.mono hRm (by decide) (by decide)) ?_
  refine V_bipush_8 (pc := 5) (n' := 48) C (dk k_R_isFigure 3 rfl) rfl ?_
  refine V_bipush_8 (pc := 7) (n' := 57) C (dk k_R_isFigure 4 rfl) rfl ?_
  refine V_callS_8 (pc := 9) C (dk k_R_isFigure 5 rfl) lk_R_49 cm_F_within sm_F_within (c_F_within_8 _ _ _ (chr tx i) 48 57 ⟨by omega, by omega⟩ ⟨by decide, by decide⟩ ⟨by decide, by decide⟩) rfl rfl (Nat.le_of_ble_eq_true rfl) (Rm.mono hRm (by decide) (by decide)) ?_
  refine V_zret_8 (pc := 12) C (by first | exact Or.inl rfl | exact Or.inr rfl | (split <;> first | exact Or.inl rfl | exact Or.inr rfl) | omega) E (dk k_R_isFigure 6 rfl) ?_
  exact ⟨rfl, rfl⟩

set_option maxHeartbeats 1000000 in
set_option maxRecDepth 20000 in
theorem c_R_readNumbers_8 (l : Launch) (G : GE) (σ : Wd) (tx : List Int) (i0 : Nat) (hT : TxR σ tx) (hi0 : i0 ≤ 400) : Ct_8 l G y_R_readNumbers b_R_readNumbers 7 (some (.int)) 2 44 [vR 3, vR 1, vI (i0 : Int)] σ (Rt (some (vI (nr (rdN tx 4 i0 [])))) (fun σ' => Fr 3 2 σ σ' ∧ ∀ ns n, rdN tx 4 i0 [] = some (ns, n) → NsR σ' ns)) := by
  refine Ct_8.of cm_R_readNumbers (Nat.le_of_ble_eq_true rfl) ?_
  intro X hXl hXG hXN hRm C E
  subst hXl; subst hXG
  show V_8 X 0 [some (vR 3), some (vR 1), some (vI (i0 : Int)), none, none, none, none] [] σ
  refine V_R_8 (fun hR => ?_)
  refine V_iload_n_8 (pc := 0) C (dk k_R_readNumbers 0 rfl) rfl ?_
  refine V_istore_n_8 (pc := 1) C (dk k_R_readNumbers 1 rfl) (by rw [hXN]; decide) ?_
  dsimp only [lst, lstL, lz, kill, Fin.val, Nat.reduceAdd]
  refine V_iconst_8 (pc := 2) C (dk k_R_readNumbers 2 rfl) rfl ?_
  refine V_istore_8 (pc := 3) C (dk k_R_readNumbers 3 rfl) (by rw [hXN]; decide) ?_
  dsimp only [lst, lstL, lz, kill, Fin.val, Nat.reduceAdd]
  refine V_eq_8 (V_loop_8 (fun z : List Int × (Nat × Wd) => z.1.length ≤ 4 ∧ z.2.1 ≤ i0 + 3 * z.1.length ∧ (∀ (k : Nat) (v : Int), z.1[k]? = some v → z.2.2 4 k = v ∧ 0 ≤ v ∧ v ≤ 99) ∧ Fr 3 2 σ z.2.2 ∧ rdN tx 4 i0 [] = rdN tx (4 - z.1.length) z.2.1 z.1) (fun z => [some (vR 3), some (vR 1), some (vI (i0 : Int)), some (vI (z.2.1 : Int)), some (vI (z.1.length : Int)), none, none]) (fun z => z.2.2) (fun z => 4 - z.1.length) (fun z hz ih => ?_) ([], (i0, σ)) ⟨Nat.zero_le 4, Nat.le_refl _, fun k v h => by simp at h, Fr.rf _ _ _, rfl⟩) rfl rfl rfl
  obtain ⟨acc, q, τ⟩ := z
  obtain ⟨hal, hq, hrow, hfr, hrd⟩ := hz
  dsimp only at hal hq hrow hfr hrd ih ⊢
  refine V_R_8 (fun hR => ?_)
  have hTt : TxR τ tx := hT.fr (hfr 1 (by omega)) (hfr 2 (by omega))
  have cb := chr_b hTt q
  have cb1 := chr_b hTt (q + 1)
  refine V_iload_8 (pc := 5) C (dk k_R_readNumbers 4 rfl) rfl ?_
  refine V_iconst_8 (pc := 7) C (dk k_R_readNumbers 5 rfl) rfl ?_
  refine V_icmpge_8 (pc := 8) C (dk k_R_readNumbers 6 rfl) 116 rfl (by first | exact hR _ _ | with_reducible assumption | exact ⟨by omega, by omega⟩) (by first | exact hR _ _ | with_reducible assumption | exact ⟨by omega, by omega⟩) (fun h1 => ?_) (fun h1 => ?_)
  · skip
    refine V_iconst_8 (pc := 116) C (dk k_R_readNumbers 64 rfl) rfl ?_
    refine V_iret_8 (pc := 117) C E (dk k_R_readNumbers 65 rfl) ?_
    rw [hrd, show 4 - acc.length = 0 by omega]
    exact ⟨rfl, hfr, fun ns n h => by cases h⟩
  · skip
    refine V_aload_n_8 (pc := 11) C (dk k_R_readNumbers 7 rfl) rfl ?_
    refine V_aload_n_8 (pc := 12) C (dk k_R_readNumbers 8 rfl) rfl ?_
    refine V_iload_n_8 (pc := 13) C (dk k_R_readNumbers 9 rfl) rfl ?_
    refine V_callV_8 (pc := 14) C (dk k_R_readNumbers 10 rfl) lk_R_38 cm_R_isFigure vm_R_isFigure (c_R_isFigure_8 _ _ _ tx q hTt (by omega)) kq_3_8 rfl rfl rfl (Nat.le_of_ble_eq_true rfl) (Rm.mono hRm (by decide) (by decide)) ?_
    refine V_ifneB_8 (pc := 17) C (dk k_R_readNumbers 11 rfl) 22 rfl (fun h2 => ?_) (fun h2 => ?_)
    · skip
      refine V_aload_n_8 (pc := 22) C (dk k_R_readNumbers 14 rfl) rfl ?_
      refine V_iload_n_8 (pc := 23) C (dk k_R_readNumbers 15 rfl) rfl ?_
      refine V_callV_8 (pc := 24) C (dk k_R_readNumbers 16 rfl) lk_R_30 cm_L_letter vm_L_letter (c_let_8 _ _ _ tx q hTt (by omega)) kq_1_8 rfl rfl rfl (Nat.le_of_ble_eq_true rfl) (Rm.mono hRm (by decide) (by decide)) ?_
      refine V_bipush_8 (pc := 27) (n' := 48) C (dk k_R_readNumbers 17 rfl) rfl ?_
      refine V_isub_8 (pc := 29) C (dk k_R_readNumbers 18 rfl) ?_
      refine V_istore_8 (pc := 30) C (dk k_R_readNumbers 19 rfl) (by rw [hXN]; decide) ?_
      dsimp only [lst, lstL, lz, kill, Fin.val, Nat.reduceAdd]
      refine V_iinc_8 (pc := 32) C (dk k_R_readNumbers 20 rfl) (by rw [hXN]; decide) rfl ?_
      dsimp only [lst, lstL, lz, kill, Fin.val, Nat.reduceAdd]
      refine V_aload_n_8 (pc := 35) C (dk k_R_readNumbers 21 rfl) rfl ?_
      refine V_aload_n_8 (pc := 36) C (dk k_R_readNumbers 22 rfl) rfl ?_
      refine V_iload_n_8 (pc := 37) C (dk k_R_readNumbers 23 rfl) rfl ?_
      refine V_callV_8 (pc := 38) C (dk k_R_readNumbers 24 rfl) lk_R_38 cm_R_isFigure vm_R_isFigure (c_R_isFigure_8 _ _ _ tx (q + 1) hTt (by omega)) kq_3_8 rfl rfl rfl (Nat.le_of_ble_eq_true rfl) (Rm.mono hRm (by decide) (by decide)) ?_
      refine V_ifeqB_8 (pc := 41) C (dk k_R_readNumbers 25 rfl) 63 rfl (fun h3 => ?_) (fun h3 => ?_)
      · skip
        first | (obtain ⟨v, i1, hn0, hv, hi1⟩ : ∃ (v : Int) (i1 : Nat), num tx q = some (v, i1) ∧ 10 * (chr tx q - 48) + chr tx (q + 1) - 48 = v ∧ (q : Int) + 1 + 1 = (i1 : Int) := ⟨_, _, num_2 (by assumption) (by assumption), rfl, by omega⟩; rw [hv, hi1]) | (obtain ⟨v, i1, hn0, hv, hi1⟩ : ∃ (v : Int) (i1 : Nat), num tx q = some (v, i1) ∧ chr tx q - 48 = v ∧ (q : Int) + 1 = (i1 : Int) := ⟨_, _, num_1 (by assumption) (by assumption), rfl, by omega⟩; rw [hv, hi1])
        have ⟨nb1, nb2, nb3, nb4⟩ := num_b hn0
        refine V_aload_n_8 (pc := 63) C (dk k_R_readNumbers 37 rfl) rfl ?_
        refine V_getr_8 (pc := 64) (o2 := 4) C (dk k_R_readNumbers 38 rfl) fl_R_9 kq_3_8 (by decide) rfl (by decide) rfl ?_
        refine V_iload_8 (pc := 67) C (dk k_R_readNumbers 39 rfl) rfl ?_
        refine V_iload_8 (pc := 69) C (dk k_R_readNumbers 40 rfl) rfl ?_
        refine V_callS0_8 (pc := 71) C (dk k_R_readNumbers 41 rfl) lk_R_42 cm_F_put sm_F_put (c_put_8 _ _ _ (4) 4 (acc.length : Int) v kq_4_8 (by decide) (by omega) (by omega) ⟨by omega, by omega⟩) rfl rfl (Nat.le_of_ble_eq_true rfl) (Rm.mono hRm (by decide) (by decide)) ?_
        refine V_R_8 (fun hR => ?_)
        refine V_aload_n_8 (pc := 74) C (dk k_R_readNumbers 42 rfl) rfl ?_
        refine V_iload_8 (pc := 75) C (dk k_R_readNumbers 43 rfl) rfl ?_
        refine V_iconst_8 (pc := 77) C (dk k_R_readNumbers 44 rfl) rfl ?_
        refine V_iadd_8 (pc := 78) C (dk k_R_readNumbers 45 rfl) ?_
        refine V_puti_8 (pc := 79) (ji := 1) C (dk k_R_readNumbers 46 rfl) fl_R_46 fw_6_1 kq_3_8 (by decide) rfl rfl ⟨by omega, by omega⟩ ?_
        refine V_R_8 (fun hR => ?_)
        have hT3 : TxR (up (up τ 4 (acc.length : Int) v) 3 1 ((acc.length : Int) + 1)) tx := hTt.fr (by rw [up_row _ _ _ (by decide), up_row _ _ _ (by decide)]) (by rw [up_row _ _ _ (by decide), up_row _ _ _ (by decide)])
        have hfr2 : Fr 3 2 σ (up (up τ 4 (acc.length : Int) v) 3 1 ((acc.length : Int) + 1)) := (hfr.up _ _ (by omega) (by omega)).up _ _ (by omega) (by omega)
        have hrow2 : ∀ (k : Nat) (u : Int), (acc ++ [v])[k]? = some u → up (up τ 4 (acc.length : Int) v) 3 1 ((acc.length : Int) + 1) 4 k = u ∧ 0 ≤ u ∧ u ≤ 99 := fun k u hk => by (rcases rowApp hk with ⟨a, b⟩ | ⟨a, b⟩; (simp (disch := omega) only [up_ne1, up_ne2]; exact hrow k u b); (subst b; rw [a]; simp (disch := omega) only [up_ne1, up_at]; exact ⟨trivial, nb3, nb4⟩))
        have cb2 := chr_b hTt i1
        refine V_aload_n_8 (pc := 82) C (dk k_R_readNumbers 47 rfl) rfl ?_
        refine V_iload_n_8 (pc := 83) C (dk k_R_readNumbers 48 rfl) rfl ?_
        refine V_callV_8 (pc := 84) C (dk k_R_readNumbers 49 rfl) lk_R_30 cm_L_letter vm_L_letter (c_let_8 _ _ _ tx i1 hT3 (by omega)) kq_1_8 rfl rfl rfl (Nat.le_of_ble_eq_true rfl) (Rm.mono hRm (by decide) (by decide)) ?_
        refine V_istore_8 (pc := 87) C (dk k_R_readNumbers 50 rfl) (by rw [hXN]; decide) ?_
        dsimp only [lst, lstL, lz, kill, Fin.val, Nat.reduceAdd]
        refine V_iinc_8 (pc := 89) C (dk k_R_readNumbers 51 rfl) (by rw [hXN]; decide) rfl ?_
        dsimp only [lst, lstL, lz, kill, Fin.val, Nat.reduceAdd]
        refine V_iload_8 (pc := 92) C (dk k_R_readNumbers 52 rfl) rfl ?_
        refine V_bipush_8 (pc := 94) (n' := 59) C (dk k_R_readNumbers 53 rfl) rfl ?_
        refine V_icmpne_8 (pc := 96) C (dk k_R_readNumbers 54 rfl) 101 rfl (by first | exact hR _ _ | with_reducible assumption | exact ⟨by omega, by omega⟩) (by first | exact hR _ _ | with_reducible assumption | exact ⟨by omega, by omega⟩) (fun h4 => ?_) (fun h4 => ?_)
        · skip
          refine V_iload_8 (pc := 101) C (dk k_R_readNumbers 57 rfl) rfl ?_
          refine V_bipush_8 (pc := 103) (n' := 44) C (dk k_R_readNumbers 58 rfl) rfl ?_
          refine V_icmpeq_8 (pc := 105) C (dk k_R_readNumbers 59 rfl) 110 rfl (by first | exact hR _ _ | with_reducible assumption | exact ⟨by omega, by omega⟩) (by first | exact hR _ _ | with_reducible assumption | exact ⟨by omega, by omega⟩) (fun h5 => ?_) (fun h5 => ?_)
          · skip
            refine V_iinc_8 (pc := 110) C (dk k_R_readNumbers 62 rfl) (by rw [hXN]; decide) rfl ?_
            dsimp only [lst, lstL, lz, kill, Fin.val, Nat.reduceAdd]
            refine V_goto_8 (pc := 113) C (dk k_R_readNumbers 63 rfl) 5 rfl ?_
            refine V_fg_8 5 ?_
            dsimp only [fg]
            refine V_fg_8 6 ?_
            dsimp only [fg]
            refine V_eq_8 (ih (acc ++ [v], (i1 + 1, up (up τ 4 (acc.length : Int) v) 3 1 ((acc.length : Int) + 1))) ⟨by simp only [List.length_append, List.length_singleton]; omega, by simp only [List.length_append, List.length_singleton]; omega, hrow2, hfr2, ?_⟩ (by simp only [List.length_append, List.length_singleton]; omega)) (by simp only [List.length_append, List.length_singleton]; rfl) rfl rfl
            dsimp only
            rw [hrd, show 4 - acc.length = (4 - (acc.length + 1)) + 1 by omega, rdN_s, hn0]
            dsimp only
            rw [if_neg (by assumption), if_pos (by assumption), List.length_append, List.length_singleton]
          · skip
            refine V_iconst_8 (pc := 108) C (dk k_R_readNumbers 60 rfl) rfl ?_
            refine V_iret_8 (pc := 109) C E (dk k_R_readNumbers 61 rfl) ?_
            rw [hrd, show 4 - acc.length = (4 - (acc.length + 1)) + 1 by omega, rdN_s, hn0]
            dsimp only
            rw [if_neg (by assumption), if_neg (by assumption)]
            exact ⟨rfl, hfr2, fun ns n h => by cases h⟩
        · skip
          refine V_iload_n_8 (pc := 99) C (dk k_R_readNumbers 55 rfl) rfl ?_
          refine V_iret_8 (pc := 100) C E (dk k_R_readNumbers 56 rfl) ?_
          rw [hrd, show 4 - acc.length = (4 - (acc.length + 1)) + 1 by omega, rdN_s, hn0]
          dsimp only
          rw [if_pos (by assumption)]
          refine ⟨rfl, hfr2, fun ns n h => ?_⟩
          cases h
          exact ⟨by rw [up_at, List.length_append]; rfl, by rw [List.length_append, List.length_singleton]; omega, hrow2⟩
      · skip
        refine V_bipush_8 (pc := 44) (n' := 10) C (dk k_R_readNumbers 26 rfl) rfl ?_
        refine V_iload_8 (pc := 46) C (dk k_R_readNumbers 27 rfl) rfl ?_
        refine V_imul_8 (pc := 48) C (dk k_R_readNumbers 28 rfl) ?_
        refine V_aload_n_8 (pc := 49) C (dk k_R_readNumbers 29 rfl) rfl ?_
        refine V_iload_n_8 (pc := 50) C (dk k_R_readNumbers 30 rfl) rfl ?_
        refine V_callV_8 (pc := 51) C (dk k_R_readNumbers 31 rfl) lk_R_30 cm_L_letter vm_L_letter (c_let_8 _ _ _ tx (q + 1) hTt (by omega)) kq_1_8 rfl rfl rfl (Nat.le_of_ble_eq_true rfl) (Rm.mono hRm (by decide) (by decide)) ?_
        refine V_iadd_8 (pc := 54) C (dk k_R_readNumbers 32 rfl) ?_
        refine V_bipush_8 (pc := 55) (n' := 48) C (dk k_R_readNumbers 33 rfl) rfl ?_
        refine V_isub_8 (pc := 57) C (dk k_R_readNumbers 34 rfl) ?_
        refine V_istore_8 (pc := 58) C (dk k_R_readNumbers 35 rfl) (by rw [hXN]; decide) ?_
        dsimp only [lst, lstL, lz, kill, Fin.val, Nat.reduceAdd]
        refine V_iinc_8 (pc := 60) C (dk k_R_readNumbers 36 rfl) (by rw [hXN]; decide) rfl ?_
        dsimp only [lst, lstL, lz, kill, Fin.val, Nat.reduceAdd]
        first | (obtain ⟨v, i1, hn0, hv, hi1⟩ : ∃ (v : Int) (i1 : Nat), num tx q = some (v, i1) ∧ 10 * (chr tx q - 48) + chr tx (q + 1) - 48 = v ∧ (q : Int) + 1 + 1 = (i1 : Int) := ⟨_, _, num_2 (by assumption) (by assumption), rfl, by omega⟩; rw [hv, hi1]) | (obtain ⟨v, i1, hn0, hv, hi1⟩ : ∃ (v : Int) (i1 : Nat), num tx q = some (v, i1) ∧ chr tx q - 48 = v ∧ (q : Int) + 1 = (i1 : Int) := ⟨_, _, num_1 (by assumption) (by assumption), rfl, by omega⟩; rw [hv, hi1])
        have ⟨nb1, nb2, nb3, nb4⟩ := num_b hn0
        refine V_aload_n_8 (pc := 63) C (dk k_R_readNumbers 37 rfl) rfl ?_
        refine V_getr_8 (pc := 64) (o2 := 4) C (dk k_R_readNumbers 38 rfl) fl_R_9 kq_3_8 (by decide) rfl (by decide) rfl ?_
        refine V_iload_8 (pc := 67) C (dk k_R_readNumbers 39 rfl) rfl ?_
        refine V_iload_8 (pc := 69) C (dk k_R_readNumbers 40 rfl) rfl ?_
        refine V_callS0_8 (pc := 71) C (dk k_R_readNumbers 41 rfl) lk_R_42 cm_F_put sm_F_put (c_put_8 _ _ _ (4) 4 (acc.length : Int) v kq_4_8 (by decide) (by omega) (by omega) ⟨by omega, by omega⟩) rfl rfl (Nat.le_of_ble_eq_true rfl) (Rm.mono hRm (by decide) (by decide)) ?_
        refine V_R_8 (fun hR => ?_)
        refine V_aload_n_8 (pc := 74) C (dk k_R_readNumbers 42 rfl) rfl ?_
        refine V_iload_8 (pc := 75) C (dk k_R_readNumbers 43 rfl) rfl ?_
        refine V_iconst_8 (pc := 77) C (dk k_R_readNumbers 44 rfl) rfl ?_
        refine V_iadd_8 (pc := 78) C (dk k_R_readNumbers 45 rfl) ?_
        refine V_puti_8 (pc := 79) (ji := 1) C (dk k_R_readNumbers 46 rfl) fl_R_46 fw_6_1 kq_3_8 (by decide) rfl rfl ⟨by omega, by omega⟩ ?_
        refine V_R_8 (fun hR => ?_)
        have hT3 : TxR (up (up τ 4 (acc.length : Int) v) 3 1 ((acc.length : Int) + 1)) tx := hTt.fr (by rw [up_row _ _ _ (by decide), up_row _ _ _ (by decide)]) (by rw [up_row _ _ _ (by decide), up_row _ _ _ (by decide)])
        have hfr2 : Fr 3 2 σ (up (up τ 4 (acc.length : Int) v) 3 1 ((acc.length : Int) + 1)) := (hfr.up _ _ (by omega) (by omega)).up _ _ (by omega) (by omega)
        have hrow2 : ∀ (k : Nat) (u : Int), (acc ++ [v])[k]? = some u → up (up τ 4 (acc.length : Int) v) 3 1 ((acc.length : Int) + 1) 4 k = u ∧ 0 ≤ u ∧ u ≤ 99 := fun k u hk => by (rcases rowApp hk with ⟨a, b⟩ | ⟨a, b⟩; (simp (disch := omega) only [up_ne1, up_ne2]; exact hrow k u b); (subst b; rw [a]; simp (disch := omega) only [up_ne1, up_at]; exact ⟨trivial, nb3, nb4⟩))
        have cb2 := chr_b hTt i1
        refine V_aload_n_8 (pc := 82) C (dk k_R_readNumbers 47 rfl) rfl ?_
        refine V_iload_n_8 (pc := 83) C (dk k_R_readNumbers 48 rfl) rfl ?_
        refine V_callV_8 (pc := 84) C (dk k_R_readNumbers 49 rfl) lk_R_30 cm_L_letter vm_L_letter (c_let_8 _ _ _ tx i1 hT3 (by omega)) kq_1_8 rfl rfl rfl (Nat.le_of_ble_eq_true rfl) (Rm.mono hRm (by decide) (by decide)) ?_
        refine V_istore_8 (pc := 87) C (dk k_R_readNumbers 50 rfl) (by rw [hXN]; decide) ?_
        dsimp only [lst, lstL, lz, kill, Fin.val, Nat.reduceAdd]
        refine V_iinc_8 (pc := 89) C (dk k_R_readNumbers 51 rfl) (by rw [hXN]; decide) rfl ?_
        dsimp only [lst, lstL, lz, kill, Fin.val, Nat.reduceAdd]
        refine V_iload_8 (pc := 92) C (dk k_R_readNumbers 52 rfl) rfl ?_
        refine V_bipush_8 (pc := 94) (n' := 59) C (dk k_R_readNumbers 53 rfl) rfl ?_
        refine V_icmpne_8 (pc := 96) C (dk k_R_readNumbers 54 rfl) 101 rfl (by first | exact hR _ _ | with_reducible assumption | exact ⟨by omega, by omega⟩) (by first | exact hR _ _ | with_reducible assumption | exact ⟨by omega, by omega⟩) (fun h6 => ?_) (fun h6 => ?_)
        · skip
          refine V_iload_8 (pc := 101) C (dk k_R_readNumbers 57 rfl) rfl ?_
          refine V_bipush_8 (pc := 103) (n' := 44) C (dk k_R_readNumbers 58 rfl) rfl ?_
          refine V_icmpeq_8 (pc := 105) C (dk k_R_readNumbers 59 rfl) 110 rfl (by first | exact hR _ _ | with_reducible assumption | exact ⟨by omega, by omega⟩) (by first | exact hR _ _ | with_reducible assumption | exact ⟨by omega, by omega⟩) (fun h7 => ?_) (fun h7 => ?_)
          · skip
            refine V_iinc_8 (pc := 110) C (dk k_R_readNumbers 62 rfl) (by rw [hXN]; decide) rfl ?_
            dsimp only [lst, lstL, lz, kill, Fin.val, Nat.reduceAdd]
            refine V_goto_8 (pc := 113) C (dk k_R_readNumbers 63 rfl) 5 rfl ?_
            refine V_fg_8 5 ?_
            dsimp only [fg]
            refine V_fg_8 6 ?_
            dsimp only [fg]
            refine V_eq_8 (ih (acc ++ [v], (i1 + 1, up (up τ 4 (acc.length : Int) v) 3 1 ((acc.length : Int) + 1))) ⟨by simp only [List.length_append, List.length_singleton]; omega, by simp only [List.length_append, List.length_singleton]; omega, hrow2, hfr2, ?_⟩ (by simp only [List.length_append, List.length_singleton]; omega)) (by simp only [List.length_append, List.length_singleton]; rfl) rfl rfl
            dsimp only
            rw [hrd, show 4 - acc.length = (4 - (acc.length + 1)) + 1 by omega, rdN_s, hn0]
            dsimp only
            rw [if_neg (by assumption), if_pos (by assumption), List.length_append, List.length_singleton]
          · skip
            refine V_iconst_8 (pc := 108) C (dk k_R_readNumbers 60 rfl) rfl ?_
            refine V_iret_8 (pc := 109) C E (dk k_R_readNumbers 61 rfl) ?_
            rw [hrd, show 4 - acc.length = (4 - (acc.length + 1)) + 1 by omega, rdN_s, hn0]
            dsimp only
            rw [if_neg (by assumption), if_neg (by assumption)]
            exact ⟨rfl, hfr2, fun ns n h => by cases h⟩
        · skip
          refine V_iload_n_8 (pc := 99) C (dk k_R_readNumbers 55 rfl) rfl ?_
          refine V_iret_8 (pc := 100) C E (dk k_R_readNumbers 56 rfl) ?_
          rw [hrd, show 4 - acc.length = (4 - (acc.length + 1)) + 1 by omega, rdN_s, hn0]
          dsimp only
          rw [if_pos (by assumption)]
          refine ⟨rfl, hfr2, fun ns n h => ?_⟩
          cases h
          exact ⟨by rw [up_at, List.length_append]; rfl, by rw [List.length_append, List.length_singleton]; omega, hrow2⟩
    · skip
      refine V_iconst_8 (pc := 20) C (dk k_R_readNumbers 12 rfl) rfl ?_
      refine V_iret_8 (pc := 21) C E (dk k_R_readNumbers 13 rfl) ?_
      have hn0 : num tx q = none := num_0 (by assumption)
      rw [hrd, show 4 - acc.length = (4 - (acc.length + 1)) + 1 by omega, rdN_s, hn0]
      exact ⟨rfl, hfr, fun ns n h => by cases h⟩

set_option maxHeartbeats 1000000 in
set_option maxRecDepth 20000 in
theorem c_R_tell_8 (l : Launch) (G : GE) (σ : Wd) (p : Nat) (d : DS) (c : Int) (ns : List Int) (hd : DR_8 σ p d) (hN : NsR σ ns) (hc : inR c) : Ct_8 l G y_R_tell b_R_tell 5 (some (.boolean)) 2 47 [vR 3, vR p, vI c] σ (Rt (some (vI (if (tell d c ns).isSome = true then 1 else 0))) (fun σ' => (∀ d', tell d c ns = some d' → DR_8 σ' p d') ∧ Fr p 7 σ σ')) := by
  refine Ct_8.of cm_R_tell (Nat.le_of_ble_eq_true rfl) ?_
  intro X hXl hXG hXN hRm C E
  subst hXl; subst hXG
  have ⟨hc_1, hc_2⟩ := hc
  show V_8 X 0 [some (vR 3), some (vR p), some (vI c), none, none] [] σ
  refine V_R_8 (fun hR => ?_)
  obtain ⟨hp, ⟨a0, a1⟩, ⟨b0, b1⟩, ⟨c0, c1⟩, ⟨s0, s1⟩, r1, r2, r3⟩ := id hd
  obtain ⟨hp_1, hp_2, hp_3, hp_4, hp_5, hp_6⟩ := kd_P_8 hp
  obtain ⟨n1, n2, n3⟩ := id hN
  refine V_aload_n_8 (pc := 0) C (dk k_R_tell 0 rfl) rfl ?_
  refine V_getr_8 (pc := 1) (o2 := 4) C (dk k_R_tell 1 rfl) fl_R_9 kq_3_8 (by decide) rfl (by decide) rfl ?_
  refine V_iconst_8 (pc := 4) C (dk k_R_tell 2 rfl) rfl ?_
  refine V_callS_8 (pc := 5) C (dk k_R_tell 3 rfl) lk_R_53 cm_F_at sm_F_at (c_at_8 _ _ _ (4) 4 0 kq_4_8 (by decide) (by omega) (by omega)) rfl rfl (Nat.le_of_ble_eq_true rfl) (Rm.mono hRm (by decide) (by decide)) ?_
  refine V_istore_n_8 (pc := 8) C (dk k_R_tell 4 rfl) (by rw [hXN]; decide) ?_
  dsimp only [lst, lstL, lz, kill, Fin.val, Nat.reduceAdd]
  refine V_aload_n_8 (pc := 9) C (dk k_R_tell 5 rfl) rfl ?_
  refine V_getr_8 (pc := 10) (o2 := 4) C (dk k_R_tell 6 rfl) fl_R_9 kq_3_8 (by decide) rfl (by decide) rfl ?_
  refine V_iconst_8 (pc := 13) C (dk k_R_tell 7 rfl) rfl ?_
  refine V_callS_8 (pc := 14) C (dk k_R_tell 8 rfl) lk_R_53 cm_F_at sm_F_at (c_at_8 _ _ _ (4) 4 1 kq_4_8 (by decide) (by omega) (by omega)) rfl rfl (Nat.le_of_ble_eq_true rfl) (Rm.mono hRm (by decide) (by decide)) ?_
  refine V_istore_8 (pc := 17) C (dk k_R_tell 9 rfl) (by rw [hXN]; decide) ?_
  dsimp only [lst, lstL, lz, kill, Fin.val, Nat.reduceAdd]
  refine V_iload_n_8 (pc := 19) C (dk k_R_tell 10 rfl) rfl ?_
  refine V_lookup_8 (pc := 20) C (dk k_R_tell 11 rfl) (by decide) (by first | exact hR _ _ | with_reducible assumption | exact ⟨by omega, by omega⟩) ?_
  by_cases h2 : c = 97
  · refine ⟨44, 64, by rw [h2]; rfl, rfl, ?_⟩
    refine V_aload_n_8 (pc := 64) C (dk k_R_tell 12 rfl) rfl ?_
    refine V_geti_8 (pc := 65) (ji := 1) C (dk k_R_tell 13 rfl) fl_R_46 kq_3_8 (by decide) rfl rfl ?_
    refine V_iconst_8 (pc := 68) C (dk k_R_tell 14 rfl) rfl ?_
    refine V_icmpne_8 (pc := 69) C (dk k_R_tell 15 rfl) 84 rfl (by first | exact hR _ _ | with_reducible assumption | exact ⟨by omega, by omega⟩) (by first | exact hR _ _ | with_reducible assumption | exact ⟨by omega, by omega⟩) (fun h3 => ?_) (fun h3 => ?_)
    · skip
      refine V_iconst_8 (pc := 84) C (dk k_R_tell 22 rfl) rfl ?_
      refine V_zret_8 (pc := 85) C (by first | exact Or.inl rfl | exact Or.inr rfl | (split <;> first | exact Or.inl rfl | exact Or.inr rfl) | omega) E (dk k_R_tell 23 rfl) ?_
      first | (have ht : tell d c ns = none := by (unfold tell; rw [if_pos (by omega), if_neg (fun z => by omega)])) | (have ht : tell d c ns = some (dM d ++ [ns.getD 0 0], d.2) := by (unfold tell; rw [if_pos (by omega), if_pos (by omega)]))
      rw [ht]
      refine ⟨rfl, ?_, ?_⟩
      · intro d' h
        first | (cases h; done) | (cases h; exact hq1.1 (by omega))
      · first | exact hq1.2 | exact Fr.rf _ _ _
    · skip
      have ⟨g1, g2, g3⟩ := hN.at (k := 0) (by omega)
      have g1 : σ 4 0 = ns.getD 0 0 := g1
      rw [g1]
      refine V_aload_n_8 (pc := 72) C (dk k_R_tell 16 rfl) rfl ?_
      refine V_iload_n_8 (pc := 73) C (dk k_R_tell 17 rfl) rfl ?_
      refine V_callVr_8 (pc := 74) C (dk k_R_tell 18 rfl) lk_R_57 cm_P_addPerson vm_P_addPerson (c_P_addPerson_8 _ _ _ p d (ns.getD 0 0) hd ⟨by omega, by omega⟩) hp rfl rfl rfl (Nat.le_of_ble_eq_true rfl) (Rm.mono hRm (by decide) (by decide)) (fun τ1 hq1 => ?_)
      refine V_R_8 (fun hR => ?_)
      refine V_ifeqB_8 (pc := 77) C (dk k_R_tell 19 rfl) 84 rfl (fun h4 => ?_) (fun h4 => ?_)
      · skip
        refine V_iconst_8 (pc := 84) C (dk k_R_tell 22 rfl) rfl ?_
        refine V_zret_8 (pc := 85) C (by first | exact Or.inl rfl | exact Or.inr rfl | (split <;> first | exact Or.inl rfl | exact Or.inr rfl) | omega) E (dk k_R_tell 23 rfl) ?_
        first | (have ht : tell d c ns = none := by (unfold tell; rw [if_pos (by omega), if_neg (fun z => by omega)])) | (have ht : tell d c ns = some (dM d ++ [ns.getD 0 0], d.2) := by (unfold tell; rw [if_pos (by omega), if_pos (by omega)]))
        rw [ht]
        refine ⟨rfl, ?_, ?_⟩
        · intro d' h
          first | (cases h; done) | (cases h; exact hq1.1 (by omega))
        · first | exact hq1.2 | exact Fr.rf _ _ _
      · skip
        refine V_iconst_8 (pc := 80) C (dk k_R_tell 20 rfl) rfl ?_
        refine V_goto_8 (pc := 81) C (dk k_R_tell 21 rfl) 85 rfl ?_
        refine V_zret_8 (pc := 85) C (by first | exact Or.inl rfl | exact Or.inr rfl | (split <;> first | exact Or.inl rfl | exact Or.inr rfl) | omega) E (dk k_R_tell 23 rfl) ?_
        first | (have ht : tell d c ns = none := by (unfold tell; rw [if_pos (by omega), if_neg (fun z => by omega)])) | (have ht : tell d c ns = some (dM d ++ [ns.getD 0 0], d.2) := by (unfold tell; rw [if_pos (by omega), if_pos (by omega)]))
        rw [ht]
        refine ⟨rfl, ?_, ?_⟩
        · intro d' h
          first | (cases h; done) | (cases h; exact hq1.1 (by omega))
        · first | exact hq1.2 | exact Fr.rf _ _ _
  by_cases h5 : c = 115
  · refine ⟨128, 148, by rw [h5]; rfl, rfl, ?_⟩
    refine V_aload_n_8 (pc := 148) C (dk k_R_tell 57 rfl) rfl ?_
    refine V_geti_8 (pc := 149) (ji := 1) C (dk k_R_tell 58 rfl) fl_R_46 kq_3_8 (by decide) rfl rfl ?_
    refine V_iconst_8 (pc := 152) C (dk k_R_tell 59 rfl) rfl ?_
    refine V_icmpne_8 (pc := 153) C (dk k_R_tell 60 rfl) 170 rfl (by first | exact hR _ _ | with_reducible assumption | exact ⟨by omega, by omega⟩) (by first | exact hR _ _ | with_reducible assumption | exact ⟨by omega, by omega⟩) (fun h6 => ?_) (fun h6 => ?_)
    · skip
      refine V_iconst_8 (pc := 170) C (dk k_R_tell 68 rfl) rfl ?_
      refine V_zret_8 (pc := 171) C (by first | exact Or.inl rfl | exact Or.inr rfl | (split <;> first | exact Or.inl rfl | exact Or.inr rfl) | omega) E (dk k_R_tell 69 rfl) ?_
      first | (have ht : tell d c ns = none := by (unfold tell; rw [if_neg (by omega), if_neg (by omega), if_neg (by omega), if_pos (by omega), if_neg (fun z => by omega)])) | (have ht : tell d c ns = some (dM d, (dT d, (dX d, (ns.getD 0 0, ns.getD 1 0)))) := by (unfold tell; rw [if_neg (by omega), if_neg (by omega), if_neg (by omega), if_pos (by omega), if_pos (by omega)]))
      rw [ht]
      refine ⟨rfl, ?_, ?_⟩
      · intro d' h
        first | (cases h; done) | (cases h; exact hq1.1 (by omega))
      · first | exact hq1.2 | exact Fr.rf _ _ _
    · skip
      have ⟨g1, g2, g3⟩ := hN.at (k := 0) (by omega)
      have ⟨g4, g5, g6⟩ := hN.at (k := 1) (by omega)
      have g1 : σ 4 0 = ns.getD 0 0 := g1
      have g4 : σ 4 1 = ns.getD 1 0 := g4
      rw [g1, g4]
      refine V_aload_n_8 (pc := 156) C (dk k_R_tell 61 rfl) rfl ?_
      refine V_iload_n_8 (pc := 157) C (dk k_R_tell 62 rfl) rfl ?_
      refine V_iload_8 (pc := 158) C (dk k_R_tell 63 rfl) rfl ?_
      refine V_callVr_8 (pc := 160) C (dk k_R_tell 64 rfl) lk_R_68 cm_P_setShop vm_P_setShop (c_P_setShop_8 _ _ _ p d (ns.getD 0 0) (ns.getD 1 0) hd ⟨by omega, by omega⟩ ⟨by omega, by omega⟩) hp rfl rfl rfl (Nat.le_of_ble_eq_true rfl) (Rm.mono hRm (by decide) (by decide)) (fun τ1 hq1 => ?_)
      refine V_R_8 (fun hR => ?_)
      refine V_ifeqB_8 (pc := 163) C (dk k_R_tell 65 rfl) 170 rfl (fun h7 => ?_) (fun h7 => ?_)
      · skip
        refine V_iconst_8 (pc := 170) C (dk k_R_tell 68 rfl) rfl ?_
        refine V_zret_8 (pc := 171) C (by first | exact Or.inl rfl | exact Or.inr rfl | (split <;> first | exact Or.inl rfl | exact Or.inr rfl) | omega) E (dk k_R_tell 69 rfl) ?_
        first | (have ht : tell d c ns = none := by (unfold tell; rw [if_neg (by omega), if_neg (by omega), if_neg (by omega), if_pos (by omega), if_neg (fun z => by omega)])) | (have ht : tell d c ns = some (dM d, (dT d, (dX d, (ns.getD 0 0, ns.getD 1 0)))) := by (unfold tell; rw [if_neg (by omega), if_neg (by omega), if_neg (by omega), if_pos (by omega), if_pos (by omega)]))
        rw [ht]
        refine ⟨rfl, ?_, ?_⟩
        · intro d' h
          first | (cases h; done) | (cases h; exact hq1.1 (by omega))
        · first | exact hq1.2 | exact Fr.rf _ _ _
      · skip
        refine V_iconst_8 (pc := 166) C (dk k_R_tell 66 rfl) rfl ?_
        refine V_goto_8 (pc := 167) C (dk k_R_tell 67 rfl) 171 rfl ?_
        refine V_zret_8 (pc := 171) C (by first | exact Or.inl rfl | exact Or.inr rfl | (split <;> first | exact Or.inl rfl | exact Or.inr rfl) | omega) E (dk k_R_tell 69 rfl) ?_
        first | (have ht : tell d c ns = none := by (unfold tell; rw [if_neg (by omega), if_neg (by omega), if_neg (by omega), if_pos (by omega), if_neg (fun z => by omega)])) | (have ht : tell d c ns = some (dM d, (dT d, (dX d, (ns.getD 0 0, ns.getD 1 0)))) := by (unfold tell; rw [if_neg (by omega), if_neg (by omega), if_neg (by omega), if_pos (by omega), if_pos (by omega)]))
        rw [ht]
        refine ⟨rfl, ?_, ?_⟩
        · intro d' h
          first | (cases h; done) | (cases h; exact hq1.1 (by omega))
        · first | exact hq1.2 | exact Fr.rf _ _ _
  by_cases h8 : c = 117
  · refine ⟨66, 86, by rw [h8]; rfl, rfl, ?_⟩
    refine V_aload_n_8 (pc := 86) C (dk k_R_tell 24 rfl) rfl ?_
    refine V_geti_8 (pc := 87) (ji := 1) C (dk k_R_tell 25 rfl) fl_R_46 kq_3_8 (by decide) rfl rfl ?_
    refine V_iconst_8 (pc := 90) C (dk k_R_tell 26 rfl) rfl ?_
    refine V_icmpne_8 (pc := 91) C (dk k_R_tell 27 rfl) 124 rfl (by first | exact hR _ _ | with_reducible assumption | exact ⟨by omega, by omega⟩) (by first | exact hR _ _ | with_reducible assumption | exact ⟨by omega, by omega⟩) (fun h9 => ?_) (fun h9 => ?_)
    · skip
      refine V_iconst_8 (pc := 124) C (dk k_R_tell 43 rfl) rfl ?_
      refine V_zret_8 (pc := 125) C (by first | exact Or.inl rfl | exact Or.inr rfl | (split <;> first | exact Or.inl rfl | exact Or.inr rfl) | omega) E (dk k_R_tell 44 rfl) ?_
      first | (have ht : tell d c ns = none := by (unfold tell; rw [if_neg (by omega), if_pos (by omega), if_neg (fun z => by omega)])) | (have ht : tell d c ns = some (dM d, (dT d ++ [(ns.getD 0 0, (ns.getD 1 0, (ns.getD 2 0, ns.getD 3 0)))], d.2.2)) := by (unfold tell; rw [if_neg (by omega), if_pos (by omega), if_pos (by omega)]))
      rw [ht]
      refine ⟨rfl, ?_, ?_⟩
      · intro d' h
        first | (cases h; done) | (cases h; exact hq1.1 (by omega))
      · first | exact hq1.2 | exact Fr.rf _ _ _
    · skip
      have ⟨g1, g2, g3⟩ := hN.at (k := 0) (by omega)
      have ⟨g4, g5, g6⟩ := hN.at (k := 1) (by omega)
      have ⟨g7, g8, g9⟩ := hN.at (k := 2) (by omega)
      have ⟨u1, u2, u3⟩ := hN.at (k := 3) (by omega)
      have g1 : σ 4 0 = ns.getD 0 0 := g1
      have g4 : σ 4 1 = ns.getD 1 0 := g4
      have g7 : σ 4 2 = ns.getD 2 0 := g7
      have u1 : σ 4 3 = ns.getD 3 0 := u1
      rw [g1, g4]
      refine V_aload_n_8 (pc := 94) C (dk k_R_tell 28 rfl) rfl ?_
      refine V_iload_n_8 (pc := 95) C (dk k_R_tell 29 rfl) rfl ?_
      refine V_iload_8 (pc := 96) C (dk k_R_tell 30 rfl) rfl ?_
      refine V_aload_n_8 (pc := 98) C (dk k_R_tell 31 rfl) rfl ?_
      refine V_getr_8 (pc := 99) (o2 := 4) C (dk k_R_tell 32 rfl) fl_R_9 kq_3_8 (by decide) rfl (by decide) rfl ?_
      refine V_iconst_8 (pc := 102) C (dk k_R_tell 33 rfl) rfl ?_
      refine V_callS_8 (pc := 103) C (dk k_R_tell 34 rfl) lk_R_53 cm_F_at sm_F_at (c_at_8 _ _ _ (4) 4 2 kq_4_8 (by decide) (by omega) (by omega)) rfl rfl (Nat.le_of_ble_eq_true rfl) (Rm.mono hRm (by decide) (by decide)) ?_
      rw [g7]
      refine V_aload_n_8 (pc := 106) C (dk k_R_tell 35 rfl) rfl ?_
      refine V_getr_8 (pc := 107) (o2 := 4) C (dk k_R_tell 36 rfl) fl_R_9 kq_3_8 (by decide) rfl (by decide) rfl ?_
      refine V_iconst_8 (pc := 110) C (dk k_R_tell 37 rfl) rfl ?_
      refine V_callS_8 (pc := 111) C (dk k_R_tell 38 rfl) lk_R_53 cm_F_at sm_F_at (c_at_8 _ _ _ (4) 4 3 kq_4_8 (by decide) (by omega) (by omega)) rfl rfl (Nat.le_of_ble_eq_true rfl) (Rm.mono hRm (by decide) (by decide)) ?_
      rw [u1]
      refine V_callVr_8 (pc := 114) C (dk k_R_tell 39 rfl) lk_R_61 cm_P_addThing vm_P_addThing (c_P_addThing_8 _ _ _ p d (ns.getD 0 0) (ns.getD 1 0) (ns.getD 2 0) (ns.getD 3 0) hd ⟨by omega, by omega⟩ ⟨by omega, by omega⟩ ⟨by omega, by omega⟩ ⟨by omega, by omega⟩) hp rfl rfl rfl (Nat.le_of_ble_eq_true rfl) (Rm.mono hRm (by decide) (by decide)) (fun τ1 hq1 => ?_)
      refine V_R_8 (fun hR => ?_)
      refine V_ifeqB_8 (pc := 117) C (dk k_R_tell 40 rfl) 124 rfl (fun h10 => ?_) (fun h10 => ?_)
      · skip
        refine V_iconst_8 (pc := 124) C (dk k_R_tell 43 rfl) rfl ?_
        refine V_zret_8 (pc := 125) C (by first | exact Or.inl rfl | exact Or.inr rfl | (split <;> first | exact Or.inl rfl | exact Or.inr rfl) | omega) E (dk k_R_tell 44 rfl) ?_
        first | (have ht : tell d c ns = none := by (unfold tell; rw [if_neg (by omega), if_pos (by omega), if_neg (fun z => by omega)])) | (have ht : tell d c ns = some (dM d, (dT d ++ [(ns.getD 0 0, (ns.getD 1 0, (ns.getD 2 0, ns.getD 3 0)))], d.2.2)) := by (unfold tell; rw [if_neg (by omega), if_pos (by omega), if_pos (by omega)]))
        rw [ht]
        refine ⟨rfl, ?_, ?_⟩
        · intro d' h
          first | (cases h; done) | (cases h; exact hq1.1 (by omega))
        · first | exact hq1.2 | exact Fr.rf _ _ _
      · skip
        refine V_iconst_8 (pc := 120) C (dk k_R_tell 41 rfl) rfl ?_
        refine V_goto_8 (pc := 121) C (dk k_R_tell 42 rfl) 125 rfl ?_
        refine V_zret_8 (pc := 125) C (by first | exact Or.inl rfl | exact Or.inr rfl | (split <;> first | exact Or.inl rfl | exact Or.inr rfl) | omega) E (dk k_R_tell 44 rfl) ?_
        first | (have ht : tell d c ns = none := by (unfold tell; rw [if_neg (by omega), if_pos (by omega), if_neg (fun z => by omega)])) | (have ht : tell d c ns = some (dM d, (dT d ++ [(ns.getD 0 0, (ns.getD 1 0, (ns.getD 2 0, ns.getD 3 0)))], d.2.2)) := by (unfold tell; rw [if_neg (by omega), if_pos (by omega), if_pos (by omega)]))
        rw [ht]
        refine ⟨rfl, ?_, ?_⟩
        · intro d' h
          first | (cases h; done) | (cases h; exact hq1.1 (by omega))
        · first | exact hq1.2 | exact Fr.rf _ _ _
  by_cases h11 : c = 120
  · refine ⟨106, 126, by rw [h11]; rfl, rfl, ?_⟩
    refine V_aload_n_8 (pc := 126) C (dk k_R_tell 45 rfl) rfl ?_
    refine V_geti_8 (pc := 127) (ji := 1) C (dk k_R_tell 46 rfl) fl_R_46 kq_3_8 (by decide) rfl rfl ?_
    refine V_iconst_8 (pc := 130) C (dk k_R_tell 47 rfl) rfl ?_
    refine V_icmpne_8 (pc := 131) C (dk k_R_tell 48 rfl) 146 rfl (by first | exact hR _ _ | with_reducible assumption | exact ⟨by omega, by omega⟩) (by first | exact hR _ _ | with_reducible assumption | exact ⟨by omega, by omega⟩) (fun h12 => ?_) (fun h12 => ?_)
    · skip
      refine V_iconst_8 (pc := 146) C (dk k_R_tell 55 rfl) rfl ?_
      refine V_zret_8 (pc := 147) C (by first | exact Or.inl rfl | exact Or.inr rfl | (split <;> first | exact Or.inl rfl | exact Or.inr rfl) | omega) E (dk k_R_tell 56 rfl) ?_
      first | (have ht : tell d c ns = none := by (unfold tell; rw [if_neg (by omega), if_neg (by omega), if_pos (by omega), if_neg (fun z => by omega)])) | (have ht : tell d c ns = some (dM d, (dT d, (dX d ++ [ns.getD 0 0], d.2.2.2))) := by (unfold tell; rw [if_neg (by omega), if_neg (by omega), if_pos (by omega), if_pos (by omega)]))
      rw [ht]
      refine ⟨rfl, ?_, ?_⟩
      · intro d' h
        first | (cases h; done) | (cases h; exact hq1.1 (by omega))
      · first | exact hq1.2 | exact Fr.rf _ _ _
    · skip
      have ⟨g1, g2, g3⟩ := hN.at (k := 0) (by omega)
      have g1 : σ 4 0 = ns.getD 0 0 := g1
      rw [g1]
      refine V_aload_n_8 (pc := 134) C (dk k_R_tell 49 rfl) rfl ?_
      refine V_iload_n_8 (pc := 135) C (dk k_R_tell 50 rfl) rfl ?_
      refine V_callVr_8 (pc := 136) C (dk k_R_tell 51 rfl) lk_R_65 cm_P_addRate vm_P_addRate (c_P_addRate_8 _ _ _ p d (ns.getD 0 0) hd ⟨by omega, by omega⟩) hp rfl rfl rfl (Nat.le_of_ble_eq_true rfl) (Rm.mono hRm (by decide) (by decide)) (fun τ1 hq1 => ?_)
      refine V_R_8 (fun hR => ?_)
      refine V_ifeqB_8 (pc := 139) C (dk k_R_tell 52 rfl) 146 rfl (fun h13 => ?_) (fun h13 => ?_)
      · skip
        refine V_iconst_8 (pc := 146) C (dk k_R_tell 55 rfl) rfl ?_
        refine V_zret_8 (pc := 147) C (by first | exact Or.inl rfl | exact Or.inr rfl | (split <;> first | exact Or.inl rfl | exact Or.inr rfl) | omega) E (dk k_R_tell 56 rfl) ?_
        first | (have ht : tell d c ns = none := by (unfold tell; rw [if_neg (by omega), if_neg (by omega), if_pos (by omega), if_neg (fun z => by omega)])) | (have ht : tell d c ns = some (dM d, (dT d, (dX d ++ [ns.getD 0 0], d.2.2.2))) := by (unfold tell; rw [if_neg (by omega), if_neg (by omega), if_pos (by omega), if_pos (by omega)]))
        rw [ht]
        refine ⟨rfl, ?_, ?_⟩
        · intro d' h
          first | (cases h; done) | (cases h; exact hq1.1 (by omega))
        · first | exact hq1.2 | exact Fr.rf _ _ _
      · skip
        refine V_iconst_8 (pc := 142) C (dk k_R_tell 53 rfl) rfl ?_
        refine V_goto_8 (pc := 143) C (dk k_R_tell 54 rfl) 147 rfl ?_
        refine V_zret_8 (pc := 147) C (by first | exact Or.inl rfl | exact Or.inr rfl | (split <;> first | exact Or.inl rfl | exact Or.inr rfl) | omega) E (dk k_R_tell 56 rfl) ?_
        first | (have ht : tell d c ns = none := by (unfold tell; rw [if_neg (by omega), if_neg (by omega), if_pos (by omega), if_neg (fun z => by omega)])) | (have ht : tell d c ns = some (dM d, (dT d, (dX d ++ [ns.getD 0 0], d.2.2.2))) := by (unfold tell; rw [if_neg (by omega), if_neg (by omega), if_pos (by omega), if_pos (by omega)]))
        rw [ht]
        refine ⟨rfl, ?_, ?_⟩
        · intro d' h
          first | (cases h; done) | (cases h; exact hq1.1 (by omega))
        · first | exact hq1.2 | exact Fr.rf _ _ _
  refine ⟨152, 172, by simp only [Op.lookupswitch.offset_cons]; (repeat rw [if_neg (by omega)]); rfl, rfl, ?_⟩
  refine V_iconst_8 (pc := 172) C (dk k_R_tell 70 rfl) rfl ?_
  refine V_zret_8 (pc := 173) C (by first | exact Or.inl rfl | exact Or.inr rfl | (split <;> first | exact Or.inl rfl | exact Or.inr rfl) | omega) E (dk k_R_tell 71 rfl) ?_
  have ht : tell d c ns = none := by (unfold tell; rw [if_neg (by omega), if_neg (by omega), if_neg (by omega), if_neg (by omega)])
  rw [ht]
  exact ⟨rfl, fun d' h => by (cases h), Fr.rf _ _ _⟩

set_option maxHeartbeats 1000000 in
set_option maxRecDepth 20000 in
theorem c_R_readInto_8 (l : Launch) (G : GE) (σ : Wd) (p : Nat) (tx : List Int) (hp : kd_8 p = 5) (hT : TxR σ tx) : Ct_8 l G y_R_readInto b_R_readInto 6 (some (.int)) 3 71 [vR 3, vR p, vR 1] σ (Rt (some (vI (o_read tx).1)) (fun σ' => ((o_read tx).1 = -4 → DR_8 σ' p (o_read tx).2) ∧ ∀ k, ¬ (3 ≤ k ∧ k < 5) → ¬ (p ≤ k ∧ k < p + 7) → σ' k = σ k)) := by
  refine Ct_8.of cm_R_readInto (Nat.le_of_ble_eq_true rfl) ?_
  intro X hXl hXG hXN hRm C E
  subst hXl; subst hXG
  show V_8 X 0 [some (vR 3), some (vR p), some (vR 1), none, none, none] [] σ
  refine V_R_8 (fun hR => ?_)
  have hp512 := kd5_8 hp
  have ⟨tx1, tx2, tx3⟩ := hT
  refine V_aload_n_8 (pc := 0) C (dk k_R_readInto 0 rfl) rfl ?_
  refine V_callV0r_8 (pc := 1) C (dk k_R_readInto 1 rfl) lk_R_15 cm_P_clear vm_P_clear (c_P_clear_8 _ _ _ p hp) hp rfl rfl rfl (Nat.le_of_ble_eq_true rfl) (Rm.mono hRm (by decide) (by decide)) (fun τ0 hq0 => ?_)
  refine V_R_8 (fun hR => ?_)
  refine V_iconst_8 (pc := 4) C (dk k_R_readInto 2 rfl) rfl ?_
  refine V_istore_n_8 (pc := 5) C (dk k_R_readInto 3 rfl) (by rw [hXN]; decide) ?_
  dsimp only [lst, lstL, lz, kill, Fin.val, Nat.reduceAdd]
  refine V_iconst_8 (pc := 6) C (dk k_R_readInto 4 rfl) rfl ?_
  refine V_istore_8 (pc := 7) C (dk k_R_readInto 5 rfl) (by rw [hXN]; decide) ?_
  dsimp only [lst, lstL, lz, kill, Fin.val, Nat.reduceAdd]
  refine V_eq_8 (V_loop_8 (fun z : Nat × (Nat × (DS × Wd)) => z.1 ≤ 200 ∧ z.2.1 ≤ 300 ∧ z.1 ≤ z.2.1 ∧ DR_8 z.2.2.2 p z.2.2.1 ∧ o_read tx = rdI tx (200 - z.1) z.2.1 z.2.2.1 ∧ ∀ k, ¬ (3 ≤ k ∧ k < 5) → ¬ (p ≤ k ∧ k < p + 7) → z.2.2.2 k = σ k) (fun z => [some (vR 3), some (vR p), some (vR 1), some (vI (z.2.1 : Int)), some (vI (z.1 : Int)), none]) (fun z => z.2.2.2) (fun z => 200 - z.1) (fun z hz ih => ?_) (0, (0, (d0, τ0))) ⟨Nat.zero_le 200, Nat.zero_le 300, Nat.le_refl 0, hq0.1, rfl, fun k a b => hq0.2 k (by omega)⟩) rfl rfl rfl
  obtain ⟨it, q, d, τ⟩ := z
  obtain ⟨hit, hq, hitq, hd, hrd, hfr⟩ := hz
  dsimp only at hit hq hitq hd hrd hfr ih ⊢
  refine V_R_8 (fun hR => ?_)
  have f1t : τ 1 = σ 1 := hfr 1 (by omega) (by omega)
  have hTt : TxR τ tx := hT.fr f1t (hfr 2 (by omega) (by omega))
  have cb := chr_b hTt q
  refine V_iload_8 (pc := 9) C (dk k_R_readInto 6 rfl) rfl ?_
  refine V_sipush_8 (pc := 11) (n' := 200) C (dk k_R_readInto 7 rfl) rfl ?_
  refine V_icmpge_8 (pc := 14) C (dk k_R_readInto 8 rfl) 65 rfl (by first | exact hR _ _ | with_reducible assumption | exact ⟨by omega, by omega⟩) (by first | exact hR _ _ | with_reducible assumption | exact ⟨by omega, by omega⟩) (fun h1 => ?_) (fun h1 => ?_)
  · skip
    refine V_bipush_8 (pc := 65) (n' := (-4)) C (dk k_R_readInto 36 rfl) rfl ?_
    refine V_iret_8 (pc := 67) C E (dk k_R_readInto 37 rfl) ?_
    have hres : o_read tx = (-4, d) := by (rw [hrd]; cases hf : 200 - it with | zero => rfl | succ f => rw [rdI_s, if_neg (by omega)])
    rw [hres]
    exact ⟨rfl, fun _ => hd, hfr⟩
  · skip
    refine V_iload_n_8 (pc := 17) C (dk k_R_readInto 9 rfl) rfl ?_
    refine V_aload_n_8 (pc := 18) C (dk k_R_readInto 10 rfl) rfl ?_
    refine V_geti_8 (pc := 19) (ji := 1) C (dk k_R_readInto 11 rfl) fl_R_20 kq_1_8 (by decide) rfl rfl ?_
    rw [f1t]
    refine V_icmpge_8 (pc := 22) C (dk k_R_readInto 12 rfl) 65 rfl (by first | exact hR _ _ | with_reducible assumption | exact ⟨by omega, by omega⟩) (by first | exact hR _ _ | with_reducible assumption | exact ⟨by omega, by omega⟩) (fun h2 => ?_) (fun h2 => ?_)
    · skip
      refine V_bipush_8 (pc := 65) (n' := (-4)) C (dk k_R_readInto 36 rfl) rfl ?_
      refine V_iret_8 (pc := 67) C E (dk k_R_readInto 37 rfl) ?_
      have hres : o_read tx = (-4, d) := by (rw [hrd]; cases hf : 200 - it with | zero => rfl | succ f => rw [rdI_s, if_neg (by omega)])
      rw [hres]
      exact ⟨rfl, fun _ => hd, hfr⟩
    · skip
      refine V_aload_n_8 (pc := 25) C (dk k_R_readInto 13 rfl) rfl ?_
      refine V_aload_n_8 (pc := 26) C (dk k_R_readInto 14 rfl) rfl ?_
      refine V_iload_n_8 (pc := 27) C (dk k_R_readInto 15 rfl) rfl ?_
      refine V_iconst_8 (pc := 28) C (dk k_R_readInto 16 rfl) rfl ?_
      refine V_iadd_8 (pc := 29) C (dk k_R_readInto 17 rfl) ?_
      refine V_callVr_8 (pc := 30) C (dk k_R_readInto 18 rfl) lk_R_26 cm_R_readNumbers vm_R_readNumbers (c_R_readNumbers_8 _ _ _ tx (q + 1) hTt (by omega)) kq_3_8 rfl rfl rfl (Nat.le_of_ble_eq_true rfl) (Rm.mono hRm (by decide) (by decide)) (fun τ2 hq2 => ?_)
      refine V_R_8 (fun hR => ?_)
      refine V_istore_8 (pc := 33) C (dk k_R_readInto 19 rfl) (by rw [hXN]; decide) ?_
      dsimp only [lst, lstL, lz, kill, Fin.val, Nat.reduceAdd]
      have hT2 : TxR τ2 tx := hTt.fr (hq2.1 1 (by omega)) (hq2.1 2 (by omega))
      have hd2 : DR_8 τ2 p d := hd.fr (fun k a b => hq2.1 k (by omega))
      have hnr : inR (nr (rdN tx 4 (q + 1) [])) := nr_R (fun ns i h => by have := rdN_b tx 4 _ _ _ _ h; omega)
      refine V_iload_8 (pc := 35) C (dk k_R_readInto 20 rfl) rfl ?_
      refine V_iconst_8 (pc := 37) C (dk k_R_readInto 21 rfl) rfl ?_
      refine V_icmpeq_8 (pc := 38) C (dk k_R_readInto 22 rfl) 54 rfl hnr (by first | exact hR _ _ | with_reducible assumption | exact ⟨by omega, by omega⟩) (fun h3 => ?_) (fun h3 => ?_)
      · skip
        refine V_iload_n_8 (pc := 54) C (dk k_R_readInto 30 rfl) rfl ?_
        refine V_iret_8 (pc := 55) C E (dk k_R_readInto 31 rfl) ?_
        first | (have hn1 := nr_none (r := rdN tx 4 (q + 1) []) (by assumption)) | (have htn := isn (o := tell d (chr tx q) ns) (by assumption))
        have hres : o_read tx = ((q : Int), d) := by (rw [hrd, show 200 - it = (200 - (it + 1)) + 1 by omega, rdI_s, if_pos (by omega)]; first | rw [hn1] | (rw [hn0]; dsimp only; rw [htn]))
        rw [hres]
        first | exact ⟨rfl, fun z => by (have : (q : Int) = -4 := z; omega), fun k a b => (hq3.2 k (by omega)).trans ((hq2.1 k (by omega)).trans (hfr k a b))⟩ | exact ⟨rfl, fun z => by (have : (q : Int) = -4 := z; omega), fun k a b => (hq2.1 k (by omega)).trans (hfr k a b)⟩
      · skip
        obtain ⟨ns, i1, hn0⟩ := nr_some (r := rdN tx 4 (q + 1) []) (by assumption)
        have hib := rdN_b tx 4 _ _ _ _ hn0
        have hNs := hq2.2 ns i1 hn0
        rw [hn0]
        show V_8 X _ [some (vR 3), some (vR p), some (vR 1), some (vI (q : Int)), some (vI (it : Int)), some (vI (i1 : Int))] _ _
        refine V_aload_n_8 (pc := 41) C (dk k_R_readInto 23 rfl) rfl ?_
        refine V_aload_n_8 (pc := 42) C (dk k_R_readInto 24 rfl) rfl ?_
        refine V_aload_n_8 (pc := 43) C (dk k_R_readInto 25 rfl) rfl ?_
        refine V_iload_n_8 (pc := 44) C (dk k_R_readInto 26 rfl) rfl ?_
        refine V_callV_8 (pc := 45) C (dk k_R_readInto 27 rfl) lk_R_30 cm_L_letter vm_L_letter (c_let_8 _ _ _ tx q hT2 (by omega)) kq_1_8 rfl rfl rfl (Nat.le_of_ble_eq_true rfl) (Rm.mono hRm (by decide) (by decide)) ?_
        refine V_callVr_8 (pc := 48) C (dk k_R_readInto 28 rfl) lk_R_34 cm_R_tell vm_R_tell (c_R_tell_8 _ _ _ p d (chr tx q) ns hd2 hNs ⟨by omega, by omega⟩) kq_3_8 rfl rfl rfl (Nat.le_of_ble_eq_true rfl) (Rm.mono hRm (by decide) (by decide)) (fun τ3 hq3 => ?_)
        refine V_R_8 (fun hR => ?_)
        refine V_ifneB_8 (pc := 51) C (dk k_R_readInto 29 rfl) 56 rfl (fun h4 => ?_) (fun h4 => ?_)
        · skip
          obtain ⟨d', htl⟩ := Option.isSome_iff_exists.mp (by assumption : (tell d (chr tx q) ns).isSome = true)
          refine V_iload_8 (pc := 56) C (dk k_R_readInto 32 rfl) rfl ?_
          refine V_istore_n_8 (pc := 58) C (dk k_R_readInto 33 rfl) (by rw [hXN]; decide) ?_
          dsimp only [lst, lstL, lz, kill, Fin.val, Nat.reduceAdd]
          refine V_iinc_8 (pc := 59) C (dk k_R_readInto 34 rfl) (by rw [hXN]; decide) rfl ?_
          dsimp only [lst, lstL, lz, kill, Fin.val, Nat.reduceAdd]
          refine V_goto_8 (pc := 62) C (dk k_R_readInto 35 rfl) 9 rfl ?_
          refine V_fg_8 5 ?_
          dsimp only [fg]
          exact ih (it + 1, (i1, (d', τ3))) ⟨by dsimp only; omega, by dsimp only; omega, by dsimp only; omega, hq3.1 d' htl, by (dsimp only; rw [hrd, show 200 - it = (200 - (it + 1)) + 1 by omega, rdI_s, if_pos (by omega), hn0]; dsimp only; rw [htl]), fun k a b => (hq3.2 k (by omega)).trans ((hq2.1 k (by omega)).trans (hfr k a b))⟩ (by dsimp only; omega)
        · skip
          refine V_iload_n_8 (pc := 54) C (dk k_R_readInto 30 rfl) rfl ?_
          refine V_iret_8 (pc := 55) C E (dk k_R_readInto 31 rfl) ?_
          first | (have hn1 := nr_none (r := rdN tx 4 (q + 1) []) (by assumption)) | (have htn := isn (o := tell d (chr tx q) ns) (by assumption))
          have hres : o_read tx = ((q : Int), d) := by (rw [hrd, show 200 - it = (200 - (it + 1)) + 1 by omega, rdI_s, if_pos (by omega)]; first | rw [hn1] | (rw [hn0]; dsimp only; rw [htn]))
          rw [hres]
          first | exact ⟨rfl, fun z => by (have : (q : Int) = -4 := z; omega), fun k a b => (hq3.2 k (by omega)).trans ((hq2.1 k (by omega)).trans (hfr k a b))⟩ | exact ⟨rfl, fun z => by (have : (q : Int) = -4 := z; omega), fun k a b => (hq2.1 k (by omega)).trans (hfr k a b)⟩

