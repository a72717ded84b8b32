theorem arrV_cong {cI : ClassId} {N : Nat} {f g : Nat → Value} (h : ∀ j, j < N → f j = g j) : arrV cI N f = arrV cI N g := by
  unfold arrV
  congr 2
  funext j
  exact h j.val j.isLt
theorem gw_objI : Cond.instanceMethod Lib.objectInit ∈ gw := gw_in (82 + 22) (by decide +kernel) rfl
theorem gw_objC : Cond.code Lib.objectInit ⟨#[0xb1]⟩ 1 none ∈ gw := gw_in (82 + 23) (by decide +kernel) rfl
theorem W_sz {p : Program} {l : Launch} {e : Env} {R : Room} {s : State} {m : MethodId} {args : Array Value} {below : List Frame} {meth : Method} {c : Code} {H : Heap} {locs : List Loc} {cells slots : Nat} {Q : State → Prop} {g : JFrame} (k : H.size ≤ s.heap.size + cells → W p l e R s m args below meth c H locs cells slots Q g) : W p l e R s m args below meth c H locs cells slots Q g := fun T hT X => k (by rw [← hT]; exact X.heapSize) T hT X
/-- 0: an int; 1: a reference -/
def dfo : FieldType → Nat
  | .int => 0
  | .object _ => 1
  | .array _ => 1
  | _ => 2
theorem dfo_0 {t : FieldType} (h : dfo t = 0) : t = .int := by cases t <;> first | rfl | cases h
theorem dfo_1 {t : FieldType} (h : dfo t = 1) : defaultValue t = .null := by cases t <;> first | rfl | cases h
theorem dfo_n {t : FieldType} (h : dfo t = 1) (a : Nat) : narrow t (.ref a) = .ref a := by cases t <;> first | rfl | cases h
theorem dfo_f {t : FieldType} (h : dfo t = 1) (a : Nat) : fits t (.ref a) = true := by cases t <;> first | rfl | cases h
theorem gw_arrI : Cond.arrayClass (newarray.typeOf .int) ∈ gw := gw_in (82 + 53) (by decide +kernel) rfl
theorem gw_arrC : Cond.arrayClass (newarray.typeOf .char) ∈ gw := gw_in (82 + 39) (by decide +kernel) rfl
/-! a world that grows: of the first n objects that are there, those below m are whole, the others are being made; an object's place in the heap is its number -/
def lin (G : GE) : Prop := ∀ k, gA G k = gA G 0 + k
def fvlN (G : GE) (σ : Wd) (k j d : Nat) : Value := if d = 0 then .int (Int32.ofInt (σ k (j : Int))) else if σ k (j : Int) = 0 then .null else if d = 9999 then .ref (gA G (σ k (j : Int)).toNat) else .ref (gA G (k + d))
def fslN (G : GE) (σ : Wd) (k : Nat) : Nat → List Nat → List Value
  | _, [] => []
  | j, d :: r => fvlN G σ k j d :: fslN G σ k (j + 1) r
def rngN (G : GE) (σ : Wd) (k : Nat) : Nat → Option Nat := fun j => if j < 8 ∧ σ k (j : Int) = 0 then none else some (gA G (k + 1 + 5 * j))
def entN (G : GE) (σ : Wd) (k : Nat) : va_E :=
  if kd k < 1000 then .inr (kd k, fslN G σ k 0 (flds (kd k)))
  else if kd k < 2000 then .inl (gI G, kd k - 1000, .inl (fun j => Int32.ofInt (σ k (j : Int))))
  else if kd k < 3000 then .inl (gC G, kd k - 2000, .inl (fun j => Int32.ofInt (σ k (j : Int))))
  else .inl (gS G, 8, .inr (.inr (.inr (.inr (rngN G σ k)))))
def entM (G : GE) (σ : Wd) (m k : Nat) : va_E := if k < m then ent G σ k else entN G σ k
def wsM (G : GE) (σ : Wd) (m n : Nat) : va_W := (List.range n).map (fun k => (gA G k, entM G σ m k))
def AGn (M : Nat) (G : GE) : Nat → Prop := fun q => ∃ k, k < M ∧ q = gA G k
theorem fslN_at (G : GE) (σ : Wd) (k : Nat) : ∀ (l : List Nat) (j0 j d : Nat), l[j]? = some d → (fslN G σ k j0 l)[j]? = some (fvlN G σ k (j0 + j) d)
  | [], _, _, _, h => by simp at h
  | a :: r, j0, 0, d, h => by
    simp at h; subst h; rfl
  | a :: r, j0, j + 1, d, h => by
    have h1 : r[j]? = some d := by simpa using h
    have h2 := fslN_at G σ k r (j0 + 1) j d h1
    show (fslN G σ k (j0 + 1) r)[j]? = _
    rw [h2]; congr 2; omega
theorem fslN_len (G : GE) (σ : Wd) (k : Nat) : ∀ (l : List Nat) (j0 : Nat), (fslN G σ k j0 l).length = l.length
  | [], _ => rfl
  | _ :: r, j0 => by show (fslN G σ k (j0 + 1) r).length + 1 = _; rw [fslN_len G σ k r]; rfl
theorem fvlN_up (G : GE) (σ : Wd) (k : Nat) (i x : Int) (k2 j d : Nat) (h : k2 ≠ k ∨ (j : Int) ≠ i) : fvlN G (up σ k i x) k2 j d = fvlN G σ k2 j d := by
  have e : up σ k i x k2 (j : Int) = σ k2 (j : Int) := by
    unfold up
    rw [if_neg]
    rintro ⟨h1, h2⟩
    rcases h with h | h
    · exact h h1
    · exact h h2
  unfold fvlN
  rw [e]
theorem fslN_up_ne (G : GE) (σ : Wd) (k : Nat) (i x : Int) (k2 : Nat) (h : k2 ≠ k) : ∀ (l : List Nat) (j0 : Nat), fslN G (up σ k i x) k2 j0 l = fslN G σ k2 j0 l
  | [], _ => rfl
  | d :: r, j0 => by
    show fvlN _ _ _ _ _ :: _ = fvlN _ _ _ _ _ :: _
    rw [fvlN_up G σ k i x k2 j0 d (Or.inl h), fslN_up_ne G σ k i x k2 h r (j0 + 1)]
theorem fslN_up_lt (G : GE) (σ : Wd) (k : Nat) (i x : Int) : ∀ (l : List Nat) (j0 : Nat), i < (j0 : Int) → fslN G (up σ k i x) k j0 l = fslN G σ k j0 l
  | [], _, _ => rfl
  | d :: r, j0, h => by
    show fvlN _ _ _ _ _ :: _ = fvlN _ _ _ _ _ :: _
    rw [fvlN_up G σ k i x k j0 d (Or.inr (by omega)), fslN_up_lt G σ k i x r (j0 + 1) (by omega)]
theorem fslN_up (G : GE) (σ : Wd) (k : Nat) (x : Int) : ∀ (l : List Nat) (j0 j d : Nat), l[j]? = some d → fslN G (up σ k ((j0 + j : Nat) : Int) x) k j0 l = (fslN G σ k j0 l).set j (fvlN G (up σ k ((j0 + j : Nat) : Int) x) k (j0 + j) d)
  | [], _, _, _, h => by simp at h
  | a :: r, j0, 0, d, h => by
    simp at h; subst h
    show fvlN _ _ _ _ _ :: _ = fvlN _ _ _ _ _ :: _
    rw [fslN_up_lt G σ k _ x r (j0 + 1) (by omega)]
    try rfl
  | a :: r, j0, j + 1, d, h => by
    have h1 : r[j]? = some d := by simpa using h
    have h2 := fslN_up G σ k x r (j0 + 1) j d h1
    have e : j0 + 1 + j = j0 + (j + 1) := by omega
    rw [e] at h2
    show fvlN _ _ _ _ _ :: _ = fvlN _ _ _ _ _ :: _
    rw [fvlN_up G σ k _ x k j0 a (Or.inr (by omega)), h2]
    try rfl
theorem entN_up_ne (G : GE) (σ : Wd) (k : Nat) (i x : Int) (j : Nat) (h : j ≠ k) : entN G (up σ k i x) j = entN G σ j := by
  have e : ∀ b, up σ k i x j b = σ j b := fun b => by
    unfold up; rw [if_neg]; exact fun q => h q.1
  unfold entN rngN
  rw [fslN_up_ne G σ k i x j h]
  simp only [e]
theorem entN_obj (G : GE) (σ : Wd) {o ci : Nat} (hk : kd o = ci) (hc : ci < 1000) : entN G σ o = .inr (ci, fslN G σ o 0 (flds ci)) := by
  unfold entN; rw [hk, if_pos hc]
theorem entN_int (G : GE) (σ : Wd) {o n : Nat} (hk : kd o = 1000 + n) (hn : n < 1000) : entN G σ o = .inl (gI G, n, .inl (fun j => Int32.ofInt (σ o (j : Int)))) := by
  unfold entN; rw [hk, if_neg (by omega), if_pos (by omega), show 1000 + n - 1000 = n by omega]
theorem entN_chr (G : GE) (σ : Wd) {o n : Nat} (hk : kd o = 2000 + n) (hn : n < 1000) : entN G σ o = .inl (gC G, n, .inl (fun j => Int32.ofInt (σ o (j : Int)))) := by
  unfold entN; rw [hk, if_neg (by omega), if_neg (by omega), if_pos (by omega), show 2000 + n - 2000 = n by omega]
theorem entN_ring (G : GE) (σ : Wd) {o : Nat} (hk : kd o = 3000) : entN G σ o = .inl (gS G, 8, .inr (.inr (.inr (.inr (rngN G σ o))))) := by
  unfold entN; rw [hk, if_neg (by omega), if_neg (by omega), if_neg (by omega)]
theorem entM_up_ne (G : GE) (σ : Wd) (m k : Nat) (i x : Int) (j : Nat) (h : j ≠ k) : entM G (up σ k i x) m j = entM G σ m j := by
  unfold entM; rw [ent_up_ne G σ k i x j h, entN_up_ne G σ k i x j h]
theorem wsM_at (G : GE) (σ : Wd) {m n k : Nat} (hk : k < n) : (wsM G σ m n)[k]? = some (gA G k, entM G σ m k) := by
  simp [wsM, hk]
theorem wsM_atN (G : GE) (σ : Wd) {m n k : Nat} (hk : k < n) (hm : m ≤ k) : (wsM G σ m n)[k]? = some (gA G k, entN G σ k) := by
  rw [wsM_at G σ hk, entM, if_neg (by omega)]
theorem wsM_set (G : GE) (σ σ' : Wd) {m n k : Nat} {e : va_E} (hk : k < n) (h0 : entM G σ' m k = e) (he : ∀ j, j ≠ k → entM G σ' m j = entM G σ m j) : (wsM G σ m n).set k (gA G k, e) = wsM G σ' m n := by
  subst h0
  apply List.ext_getElem?
  intro j
  rw [List.getElem?_set]
  by_cases hj : k = j
  · subst hj
    rw [if_pos rfl, wsM_at G σ' hk]
    simp [wsM, hk]
  · rw [if_neg hj]
    by_cases hn : j < n
    · rw [wsM_at G σ hn, wsM_at G σ' hn, he j (fun h => hj h.symm)]
    · simp [wsM, hn]
theorem lin_inj {G : GE} (h : lin G) {i j : Nat} (e : gA G i = gA G j) : i = j := by
  have a := h i; have b := h j; omega
theorem lin_apart {G : GE} (h : lin G) : apart G := fun i j _ _ e => lin_inj h e
theorem lin_apart_8 {G : GE} (h : lin G) : apart_8 G := fun i j _ _ e => lin_inj h e
theorem lin_D {G : GE} (h : lin G) (σ : Wd) {m n M : Nat} (hn : n ≤ M) : va_D (AGn M G) (wsM G σ m n) := by
  constructor
  · intro i j p q hp hq hpq
    have hi : i < n := by
      have := (List.getElem?_eq_some_iff.mp hp).1
      simpa [wsM] using this
    have hj : j < n := by
      have := (List.getElem?_eq_some_iff.mp hq).1
      simpa [wsM] using this
    rw [wsM_at G σ hi] at hp
    rw [wsM_at G σ hj] at hq
    cases hp; cases hq
    exact lin_inj h hpq
  · intro k q hq
    have hk : k < n := by
      have := (List.getElem?_eq_some_iff.mp hq).1
      simpa [wsM] using this
    rw [wsM_at G σ hk] at hq
    cases hq
    exact ⟨k, by omega, rfl⟩
theorem wsM_succ (G : GE) (σ : Wd) (m n : Nat) : wsM G σ m (n + 1) = wsM G σ m n ++ [(gA G n, entM G σ m n)] := by
  simp [wsM, List.range_succ]
def VN (X : KX) (M wm wn wc wq : Nat) (pc : Nat) (ls : List (Option AV)) (st : List AV) (σ : Wd) : Prop := match X with
  | (p, l, e, R, s, m, args, below, meth, c, G, nL, _, _, Q) => R32 σ → s.heap.size + wc = gA G wn → ∀ (H : Heap) (locs : List Loc) (sl : Array Slot), va_P (gD G) CL (wsM G σ wm wn) H → va_S (AGn M G) s.heap H locs → Lh G sl nL ls → W p l e R s m args below meth c H locs wc wq Q (F0 m pc sl (st.map (cv G)))
def CN (X : KX) (cc : ByteArray) (own : String) : Prop := match X with
  | (p, _, _, R, s, m, args, _, meth, c, G, nL, ck, sk, _) => p.tables.exec = Jvm.exec ∧ c.code = cc ∧ c.maxLocals = nL ∧ s.vm.findClass own = some m.cls ∧ meth.locks = false ∧ (∀ wd ∈ gw, wd.before args s = true) ∧ PK G s ∧ lin G
def RN (X : KX) (mc ms : Nat) : Prop := match X with
  | (_, _, _, R, _, _, _, _, _, _, _, _, _, _, _) => mc ≤ R.cells ∧ ms ≤ R.slots
/-- the method under way is a constructor -/
def IN (X : KX) : Prop := match X with
  | (_, _, _, _, _, _, _, _, meth, _, _, _, _, _, _) => meth.name = "<init>"
def QcN (M : Nat) (G : GE) (m n : Nat) (fin : Wd → Prop) : Array Value → State → Outcome → State → Prop := fun _ st oc t => (∃ σ, oc = .returned none ∧ fin σ ∧ R32 σ ∧ t.heap.size = gA G n ∧ va_P (gD G) CL (wsM G σ m n) t.heap) ∧ va_F (AGn M G) st t
def EN (X : KX) (M m n mc ms : Nat) (fin : Wd → Prop) : Prop := match X with
  | (_, _, _, _, s, _, args, below, meth, _, G, _, _, _, Q) => meth.sig.returnType = none ∧ Q = MQ below (QcN M G m n fin) args s mc ms (AGn M G)
/-- what else a constructor leans on, at its start -/
def XiA (X : KX) (Ξ : State → Prop) : Prop := match X with
  | (_, _, _, _, s, _, _, _, _, _, _, _, _, _, _) => Ξ s
/-- and at a call: the callee's own -/
def XiC (X : KX) (Ξ : State → Prop) (M : Nat) : Prop := match X with
  | (_, _, _, _, s, _, _, _, _, _, G, _, _, _, _) => (∀ (U : State) g mk a, Ξ U → Ξ (U.calling g mk a)) ∧ ∀ (U : State) (H : Heap), U.heap = H → s.WarmedH U.vm → (∀ q : Nat, q < s.heap.size → ¬ AGn M G q → H[q]? = s.heap[q]?) → Ξ U
def AO : State → Prop := fun U => va_AO "ForgoneShop$Stand" U
def NoX : State → Prop := fun _ => True
theorem XiC_AO {X : KX} {M : Nat} (h : XiA X AO) : XiC X AO M := by
  obtain ⟨p, l, e, R, s, m, args, below, meth, c, G, nL, ck, sk, Q⟩ := X
  exact ⟨fun U g mk a h => va_AO.moved (u := U) (Vm.Alike.refl U.vm) h, fun U H _ hW _ => va_AO.moved hW.alike h⟩
theorem XiC_no {X : KX} {M : Nat} : XiC X NoX M := by
  obtain ⟨p, l, e, R, s, m, args, below, meth, c, G, nL, ck, sk, Q⟩ := X
  exact ⟨fun _ _ _ _ h => h, fun _ _ _ _ _ => trivial⟩
def xset (X : KX) (a b : Nat) : KX := match X with
  | (p, l, e, R, s, m, args, below, meth, c, G, nL, _, _, Q) => (p, l, e, R, s, m, args, below, meth, c, G, nL, a, b, Q)
def HZ (X : KX) (wc wn : Nat) : Prop := match X with
  | (_, _, _, _, s, _, _, _, _, _, G, _, _, _, _) => s.heap.size + wc = gA G wn
theorem wsM_O (G : GE) (σ : Wd) : wsO G σ = wsM G σ 150 150 := by
  unfold wsO wsM
  refine List.map_congr_left (fun k hk => ?_)
  rw [entM, if_pos (show k < 150 from List.mem_range.mp hk)]
theorem kd_88 : ∀ k, k < 128 → kd_8 k = kd k := by decide +kernel
theorem wsM_8 (G : GE) (σ : Wd) : wsO_8 G σ = wsM G σ 128 128 := by
  unfold wsO_8 wsM
  refine List.map_congr_left (fun k hk => ?_)
  have h := List.mem_range.mp hk
  rw [entM, if_pos (show k < 128 from h)]
  unfold ent_8 ent
  rw [kd_88 k h]
theorem szN {G : GE} {wm wn wc : Nat} {σ : Wd} {H0 H : Heap} {locs : List Loc} {A : Nat → Prop} (hlin : lin G) (hz0 : H0.size + wc = gA G wn) (hup : H.size ≤ H0.size + wc) (hP : va_P (gD G) CL (wsM G σ wm wn) H) (hS : va_S A H0 H locs) (hw0 : 0 < wn ∨ wc = 0) : H.size = gA G wn := by
  have a := hS.1
  rcases hw0 with h | h
  · have b := (hP (wn - 1) _ (wsM_at G σ (by omega))).lt
    have b : gA G (wn - 1) < H.size := b
    have c := hlin (wn - 1)
    have d := hlin wn
    omega
  · omega
theorem VN_after {p : Program} {l : Launch} {e : Env} {R : Room} {s : State} {m : MethodId} {args : Array Value} {below : List Frame} {meth : Method} {c : Code} {G : GE} {nL ck sk M M' m' wn mc ms wc wq : Nat} {Q : State → Prop} {pc : Nat} {ls : List (Option AV)} {sl : Array Slot} {rest : List AV} {st0 : List Value} {fin : Wd → Prop} {H : Heap} {locs : List Loc} {av : Array Value}
    (hr : va_Run p l e R s m args below meth c H locs wc wq mc ms (F0 m pc sl st0) (rest.map (cv G)) (QcN M' G m' (wn + mc) fin av) (AGn M' G)) (hlin : lin G) (hMM : M' ≤ M) (hz0 : s.heap.size + wc = gA G wn) (hS : va_S (AGn M G) s.heap H locs) (hL : Lh G sl nL ls)
    (k : ∀ σ', fin σ' → VN (p, l, e, R, s, m, args, below, meth, c, G, nL, ck, sk, Q) M m' (wn + mc) (wc + mc) (wq + ms) (pc + 3) ls rest σ') : W p l e R s m args below meth c H locs wc wq Q (F0 m pc sl st0) := by
  intro T hT X
  obtain ⟨v, st₀, t, T', L, h0, X', hL', e1, e2, ⟨⟨σ', hv, hfin, hR', hz', hP'⟩, hz, hkp⟩, stp⟩ := hr T hT X
  have hv : v = none := by injection hv
  have hup : ∀ q, AGn M' G q → AGn M G q := fun q ⟨j, hj, e⟩ => ⟨j, by omega, e⟩
  have hS' : va_S (AGn M G) s.heap T'.heap (locs ++ L) := by
    refine ⟨Nat.le_trans hS.1 (by rw [e1, ← h0]; exact hz), fun q h1 h2 => ?_, fun q hq => ?_⟩
    · rw [e1, hkp q (by rw [h0]; exact Nat.lt_of_lt_of_le h1 hS.1) (fun z => h2 (hup q z)), h0]; exact hS.2.1 q h1 h2
    · rcases List.mem_append.mp hq with h | h
      · exact hS.2.2 q h
      · exact hup _ (hL' q h)
  have a1 := hlin (wn + mc)
  have a2 := hlin wn
  have K := k σ' hfin hR' (by omega) T'.heap (locs ++ L) sl (by rw [e1]; exact hP') hS' hL
  subst hv
  obtain ⟨t2, b1, b2⟩ := K T' rfl X'
  exact ⟨t2, stp t2 b1, b2⟩
abbrev PcN (Ξ : State → Prop) (G : GE) (avs : List AV) (m n : Nat) (σ : Wd) : Array Value → State → Prop := va_Pc (avs.map (cv G)) (fun U => U.heap.size = gA G n ∧ va_P (gD G) CL (wsM G σ m n) U.heap ∧ PK G U ∧ Ξ U)
theorem PcN_blind {Ξ : State → Prop} (hΞ : ∀ (U : State) g mk a, Ξ U → Ξ (U.calling g mk a)) (G : GE) (avs : List AV) (m n : Nat) (σ : Wd) : FrameBlind (PcN Ξ G avs m n σ) := by
  intro a U g mk h
  exact ⟨h.1, h.2.1, h.2.2.1, PK.calling g mk a h.2.2.2.1, hΞ U g mk a h.2.2.2.2⟩
/-- a constructor's contract: m, n before; m', n' behind -/
def CtN (Ξ : State → Prop) (l : Launch) (G : GE) (y : MethodName) (b : ByteArray) (nL rF rL mc ms M : Nat) (avs : List AV) (m n m' n' : Nat) (σ : Wd) (fin : Wd → Prop) : Prop :=
  lin G → R32 σ → Met l y (Cond.code y b nL none :: gw) { frames := rF, cells := mc, slots := ms, locals := rL } (PcN Ξ G avs m n σ) (QcN M G m' n' fin) mc ms (AGn M G)
theorem CtN.of {Ξ : State → Prop} {l : Launch} {G : GE} {y : MethodName} {b : ByteArray} {nL np rF rL mc ms M : Nat} {avs : List AV} {m n m' n' : Nat} {σ : Wd} {fin : Wd → Prop} (cm : CMs y b nL none np) (hn : (avs.map avc).sum ≤ nL) (hy : y.name = "<init>")
    (h : ∀ X : KX, xL X = l → xG X = G → xN X = nL → Rm X rF rL → CN X b y.cls → RN X mc ms → IN X → EN X M m' n' mc ms fin → XiA X Ξ → VN X M m n 0 0 0 (ents nL avs) [] σ) : CtN Ξ l G y b nL rF rL mc ms M avs m n m' n' σ fin := by
  intro hlin hR
  refine Met.ofW (cc := b) (maxL := nL) (ret := none) cm.2.2.2 rfl ?_
  intro p e s mt args below meth c s₁ B hml hv
  obtain ⟨rfl, hH, hP, hPK, hXi⟩ := hv
  have hts0 := atoms_spec (ws := Cond.code y b nL none :: gw) B.pre
  have K := h (p, l, e, { frames := rF, cells := mc, slots := ms, locals := rL }, s, mt, (avs.map (cv G)).toArray, below, meth, c, G, nL, 0, 0, MQ below (QcN M G m' n' fin) (avs.map (cv G)).toArray s mc ms (AGn M G)) rfl rfl rfl ⟨Nat.le_refl _, Nat.le_refl _⟩
    ⟨B.exec, B.bytes, hml, findClass_of_methodNamed B.named, B.notSynchronized, fun wd hw => hts0 wd (List.mem_cons_of_mem _ hw), hPK, hlin⟩ ⟨Nat.le_refl _, Nat.le_refl _⟩ ((name_of_methodNamed B.named B.method).1.trans hy) ⟨B.returns, rfl⟩ hXi
  rw [lg_entry_eq]
  refine K hR hH s.heap [] _ hP va_S.rf ?_
  have hl := lv_entry (avs.map (cv G)) (n := nL) (by rw [lg_len]; exact hn)
  refine ⟨hl.1, hl.2.1, fun i a hi => ?_⟩
  have := entL_mem G avs 0 i a (ents_get hi)
  rw [Nat.zero_add] at this
  exact hl.2.2 _ this

section VNr
variable {X : KX} {cc : ByteArray} {own : String} {pc : Nat} {ls : List (Option AV)} {st : List AV} {σ : Wd} {M wm wn wc wq : Nat}
theorem VN_eq {ls' : List (Option AV)} {st' : List AV} {σ' : Wd} (k : VN X M wm wn wc wq pc ls' st' σ') (h1 : ls = ls') (h2 : st = st') (h3 : σ = σ') : VN X M wm wn wc wq pc ls st σ := by
  subst h1; subst h2; subst h3; exact k

theorem VN_iconst {n : Int} {n' : Int} (C : CN X cc own) (d : decode cc pc = .ok (.iconst n, 1))   (hn : n = n') (k : VN X M wm wn wc wq (pc + 1) ls (vI n' :: st) σ) : VN X M wm wn wc wq pc ls st σ := by
  obtain ⟨p, l, e, R, s, m, args, below, meth, c, G, nL, ck, sk, Q⟩ := X
  obtain ⟨hx, hb, hml, hown, hlk, hts, hPK, hlin⟩ := C
  intro hR hz H locs sl hP hS hL
  subst hn
  exact lv_iconst hx hb d rfl (k hR hz H locs sl hP hS hL)

theorem VN_bipush {n : Int} {n' : Int} (C : CN X cc own) (d : decode cc pc = .ok (.bipush n, 2))   (hn : (Int8.ofInt n).toInt32 = Int32.ofInt n') (k : VN X M wm wn wc wq (pc + 2) ls (vI n' :: st) σ) : VN X M wm wn wc wq pc ls st σ := by
  obtain ⟨p, l, e, R, s, m, args, below, meth, c, G, nL, ck, sk, Q⟩ := X
  obtain ⟨hx, hb, hml, hown, hlk, hts, hPK, hlin⟩ := C
  intro hR hz H locs sl hP hS hL
  exact lv_bipush hx hb d hn (k hR hz H locs sl hP hS hL)

theorem VN_sipush {n : Int} {n' : Int} (C : CN X cc own) (d : decode cc pc = .ok (.sipush n, 3))   (hn : (Int16.ofInt n).toInt32 = Int32.ofInt n') (k : VN X M wm wn wc wq (pc + 3) ls (vI n' :: st) σ) : VN X M wm wn wc wq pc ls st σ := by
  obtain ⟨p, l, e, R, s, m, args, below, meth, c, G, nL, ck, sk, Q⟩ := X
  obtain ⟨hx, hb, hml, hown, hlk, hts, hPK, hlin⟩ := C
  intro hR hz H locs sl hP hS hL
  exact lv_sipush hx hb d hn (k hR hz H locs sl hP hS hL)

theorem VN_iload_n {i : Fin 4} {z : Int} (C : CN X cc own) (d : decode cc pc = .ok (.iload_n i, 1))   (h : ls[(i : Nat)]? = some (some (vI z))) (k : VN X M wm wn wc wq (pc + 1) ls (vI z :: st) σ) : VN X M wm wn wc wq pc ls st σ := by
  obtain ⟨p, l, e, R, s, m, args, below, meth, c, G, nL, ck, sk, Q⟩ := X
  obtain ⟨hx, hb, hml, hown, hlk, hts, hPK, hlin⟩ := C
  intro hR hz H locs sl hP hS hL
  exact lv_iload_n hx hb d rfl (lv1 hL h) (k hR hz H locs sl hP hS hL)

theorem VN_aload_n {i : Fin 4} {z : Nat} (C : CN X cc own) (d : decode cc pc = .ok (.aload_n i, 1))   (h : ls[(i : Nat)]? = some (some (vR z))) (k : VN X M wm wn wc wq (pc + 1) ls (vR z :: st) σ) : VN X M wm wn wc wq pc ls st σ := by
  obtain ⟨p, l, e, R, s, m, args, below, meth, c, G, nL, ck, sk, Q⟩ := X
  obtain ⟨hx, hb, hml, hown, hlk, hts, hPK, hlin⟩ := C
  intro hR hz H locs sl hP hS hL
  exact lv_aload_n hx hb d rfl (lv1 hL h) (k hR hz H locs sl hP hS hL)

theorem VN_istore_n {i : Fin 4} {z : Int} (C : CN X cc own) (d : decode cc pc = .ok (.istore_n i, 1))   (h : (i : Nat) < xN X) (k : VN X M wm wn wc wq (pc + 1) (lst ls (i : Nat) (vI z)) st σ) : VN X M wm wn wc wq pc ls (vI z :: st) σ := by
  obtain ⟨p, l, e, R, s, m, args, below, meth, c, G, nL, ck, sk, Q⟩ := X
  obtain ⟨hx, hb, hml, hown, hlk, hts, hPK, hlin⟩ := C
  intro hR hz H locs sl hP hS hL
  exact lv_istore_n hx hb d rfl hL.has h rfl (fun sl' h' => k hR hz H locs sl' hP hS (Lh.store1 (a := vI z) h'))

theorem VN_astore_n {i : Fin 4} {z : Nat} (C : CN X cc own) (d : decode cc pc = .ok (.astore_n i, 1))   (h : (i : Nat) < xN X) (k : VN X M wm wn wc wq (pc + 1) (lst ls (i : Nat) (vR z)) st σ) : VN X M wm wn wc wq pc ls (vR z :: st) σ := by
  obtain ⟨p, l, e, R, s, m, args, below, meth, c, G, nL, ck, sk, Q⟩ := X
  obtain ⟨hx, hb, hml, hown, hlk, hts, hPK, hlin⟩ := C
  intro hR hz H locs sl hP hS hL
  exact lv_astore_n hx hb d rfl hL.has h rfl (fun sl' h' => k hR hz H locs sl' hP hS (Lh.store1 (a := vR z) h'))

theorem VN_iinc (C : CN X cc own) {i : Nat} {n z : Int} (d : decode cc pc = .ok (.iinc i n, 3)) (h : i < xN X) (hi : ls[i]? = some (some (vI z))) (k : VN X M wm wn wc wq (pc + 3) (lst ls i (vI (z + n))) st σ) : VN X M wm wn wc wq pc ls st σ := by
  obtain ⟨p, l, e, R, s, m, args, below, meth, c, G, nL, ck, sk, Q⟩ := X
  obtain ⟨hx, hb, hml, hown, hlk, hts, hPK, hlin⟩ := C
  intro hR hz H locs sl hP hS hL
  obtain ⟨q, hq, hm⟩ := List.getElem_of_mem (prs_mem (G := G) hi)
  have hk : (prs G ls)[q]? = some (i, .int (Int32.ofInt z)) := by rw [List.getElem?_eq_getElem hq, hm]; rfl
  exact lv_iinc hx hb d hL.has hk rfl h rfl (fun sl' h' => k hR hz H locs sl' hP hS (Lh.store1 (a := vI (z + n)) (by rw [← Int32.ofInt_add] at h'; exact h')))

theorem VN_dupR {z : Nat} (C : CN X cc own) (d : decode cc pc = .ok (.dup, 1))  (k : VN X M wm wn wc wq (pc + 1) ls (vR z :: vR z :: st) σ) : VN X M wm wn wc wq pc ls (vR z :: st) σ := by
  obtain ⟨p, l, e, R, s, m, args, below, meth, c, G, nL, ck, sk, Q⟩ := X
  obtain ⟨hx, hb, hml, hown, hlk, hts, hPK, hlin⟩ := C
  intro hR hz H locs sl hP hS hL
  exact lv_dup hx hb d rfl (k hR hz H locs sl hP hS hL)

theorem VN_goto (C : CN X cc own) {off : Int} (d : decode cc pc = .ok (.goto off, 3)) (tgt : Nat) (ht : (pc : Int) + off = (tgt : Int)) (k : VN X M wm wn wc wq tgt ls st σ) : VN X M wm wn wc wq pc ls st σ := by
  obtain ⟨p, l, e, R, s, m, args, below, meth, c, G, nL, ck, sk, Q⟩ := X
  obtain ⟨hx, hb, hml, hown, hlk, hts, hPK, hlin⟩ := C
  intro hR hz H locs sl hP hS hL
  exact lv_goto hx hb d ht (k hR hz H locs sl hP hS hL)

theorem VN_icmpge (C : CN X cc own) {off : Int} (d : decode cc pc = .ok (.if_icmp .ge off, 3)) (tgt : Nat) (ht : (pc : Int) + off = (tgt : Int)) {a b : Int} (ha : inR a) (hb1 : inR b) (kt : (b ≤ a) → VN X M wm wn wc wq tgt ls st σ) (kf : ¬ (b ≤ a) → VN X M wm wn wc wq (pc + 3) ls st σ) : VN X M wm wn wc wq pc ls (vI b :: vI a :: st) σ := by
  obtain ⟨p, l, e, R, s, m, args, below, meth, c, G, nL, ck, sk, Q⟩ := X
  obtain ⟨hx, hb, hml, hown, hlk, hts, hPK, hlin⟩ := C
  intro hR hz H locs sl hP hS hL
  exact lv_icmp_ge hx hb d ht (fun h => kt ((oi_le hb1 ha).mp h) hR hz H locs sl hP hS hL) (fun h => kf (fun q => h ((oi_le hb1 ha).mpr q)) hR hz H locs sl hP hS hL)

/-- what making an object of class ci needs of the tables -/
def NWq (own : String) (index ci : Nat) : Prop := ∃ (C : String) (T : u_T) (N : Nat) (ty : Nat → FieldType), CL[ci]? = some (C, T, N) ∧ (∀ wd ∈ u_ws C T N, wd ∈ gw) ∧ (∀ k, k < N → parseFieldDescriptor (T k).2.2.1 = some (ty k)) ∧ (flds ci).length = N ∧ (∀ j, j < N → dfo (ty j) = if (flds ci).getD j 0 = 0 then 0 else 1) ∧ Cond.classLink own index C ∈ gw ∧ Cond.instantiable C N ∈ gw ∧ Cond.initialized C ∈ gw
theorem fslN_new {G : GE} {σ : Wd} {k ci N : Nat} {ty : Nat → FieldType} (hz : ∀ i, σ k i = 0) (hl : (flds ci).length = N) (hd : ∀ j, j < N → dfo (ty j) = if (flds ci).getD j 0 = 0 then 0 else 1) : ∀ j, j < N → defaultValue (ty j) = vp_V (fslN G σ k 0 (flds ci)) j := by
  intro j hj
  obtain ⟨d, hdj⟩ : ∃ d, (flds ci)[j]? = some d := ⟨_, List.getElem?_eq_getElem (by omega)⟩
  have e := fslN_at G σ k (flds ci) 0 j d hdj
  rw [Nat.zero_add] at e
  have e2 : vp_V (fslN G σ k 0 (flds ci)) j = fvlN G σ k j d := by
    unfold vp_V
    first | rw [List.getD_eq_getElem?_getD, e]; rfl | (rw [e]; rfl) | simp [e]
  rw [e2]
  have h := hd j hj
  rw [List.getD_eq_getElem?_getD, hdj] at h
  unfold fvlN
  by_cases h0 : d = 0
  · subst h0
    rw [if_pos rfl, hz]
    have h : dfo (ty j) = 0 := h
    rw [dfo_0 h]; rfl
  · rw [if_neg h0, if_pos (hz _)]
    have h : dfo (ty j) = 1 := by simpa [h0] using h
    exact dfo_1 h
theorem wsM_push {G : GE} {σ : Wd} {wm wn : Nat} {H H1 : Heap} (hm : wm ≤ wn) (hH : H.size = gA G wn) (hP : va_P (gD G) CL (wsM G σ wm wn) H) (o1 : ∀ q, q < gA G wn → H1[q]? = H[q]?) (h1 : va_at (gD G) CL (gA G wn, entN G σ wn) H1) : va_P (gD G) CL (wsM G σ wm (wn + 1)) H1 := by
  rw [wsM_succ]
  refine (hP.kept (fun q x hx => o1 x.1 (by have := (hP q x hx).lt; omega))).app (fun q x hx => ?_)
  have hz : q < 1 := (List.getElem?_eq_some_iff.mp hx).1
  rw [show q = 0 by omega] at hx
  cases hx
  rw [entM, if_neg (by omega)]
  exact h1
theorem vaS_push {A : Nat → Prop} {H0 H H1 : Heap} {locs : List Loc} {h : Nat} (hS : va_S A H0 H locs) (hH : H.size = h) (z1 : H1.size = h + 1) (o1 : ∀ q, q < h → H1[q]? = H[q]?) : va_S A H0 H1 locs := by
  subst hH
  exact ⟨Nat.le_trans hS.1 (by omega), fun x h1 h2 => (o1 x (Nat.lt_of_lt_of_le h1 hS.1)).trans (hS.2.1 x h1 h2), hS.2.2⟩
theorem VN_new (C : CN X cc own) {index ci wn' wc' wq' : Nat} (d : decode cc pc = .ok (.new index, 3)) (nt : NWq own index ci) (hk : kd wn = ci) (hc : ci < 1000) (hw0 : 0 < wn ∨ wc = 0) (hm : wm ≤ wn) (hz : ∀ i, σ wn i = 0) (h1 : wn + 1 = wn') (h2 : wc + 1 = wc') (h3 : wq + (flds ci).length = wq') (hr : RN X wc' wq') (k : VN X M wm wn' wc' wq' (pc + 3) ls (vR wn :: st) σ) : VN X M wm wn wc wq pc ls st σ := by
  subst h1; subst h2; subst h3
  obtain ⟨p, l, e, R, s, m, args, below, meth, c, G, nL, ck, sk, Q⟩ := X
  obtain ⟨hx, hb, hml, hown, hlk, hts, hPK, hlin⟩ := C
  obtain ⟨Cn, Tn, N, ty, n1, n2, n3, n4, n5, n6, n7, n8⟩ := nt
  intro hR hz0 H locs sl hP hS hL
  refine W_sz fun hup => ?_
  have hH : H.size = gA G wn := szN hlin hz0 hup hP hS hw0
  have hKn := hPK.1.1 ci _ n1
  have hl0 := hlin wn
  have hl1 := hlin (wn + 1)
  have hfd := fslN_new (G := G) hz n4 n5
  have k := k hR (by omega)
  obtain ⟨r1, r2⟩ := hr
  rw [n4] at k r2
  refine W.newcK hx hb hown (hts _ n6) (hts _ n7) (hts _ n8) rfl d r1 r2 hKn.2.1 hH fun H1 kC hkC e1 z1 o1 => ?_
  refine k H1 locs sl (wsM_push hm hH hP o1 ?_) (vaS_push hS hH z1 o1) hL
  rw [entN_obj G σ hk hc]
  exact ⟨_, n1, (u_born ty hts n2 hKn hkC e1 n3).to hfd⟩
theorem VN_newI (C : CN X cc own) {len wn' wc' wq' : Nat} (d : decode cc pc = .ok (.newarray .int, 2)) (hk : kd wn = 1000 + len) (hl : len < 1000) (hw0 : 0 < wn ∨ wc = 0) (hm : wm ≤ wn) (hz : ∀ i, σ wn i = 0) (h1 : wn + 1 = wn') (h2 : wc + 1 = wc') (h3 : wq + len = wq') (hr : RN X wc' wq') (k : VN X M wm wn' wc' wq' (pc + 2) ls (vR wn :: st) σ) : VN X M wm wn wc wq pc ls (vI len :: st) σ := by
  subst h1; subst h2; subst h3
  obtain ⟨p, l, e, R, s, m, args, below, meth, c, G, nL, ck, sk, Q⟩ := X
  obtain ⟨hx, hb, hml, hown, hlk, hts, hPK, hlin⟩ := C
  intro hR hz0 H locs sl hP hS hL
  refine W_sz fun hup => ?_
  have hH : H.size = gA G wn := szN hlin hz0 hup hP hS hw0
  have hl0 := hlin wn
  have hl1 := hlin (wn + 1)
  obtain ⟨r1, r2⟩ := hr
  have hin : inR (len : Int) := ⟨by omega, by omega⟩
  refine va_newaK (n := Int32.ofInt (len : Int)) (N := len) hx hb (hts _ gw_arrI) rfl d rfl (fun q => ?_) ?_ ?_ r1 r2 hH fun H1 cA e1 z1 o1 _ hnm => ?_
  · have := (oi_lt hin R0).mp q
    omega
  · rw [oi_nat (by omega) hin]; exact Int.toNat_natCast len
  · show len * 4 ≤ _
    omega
  · have hcA : cA = gI G := Option.some.inj (hnm.symm.trans (hPK.1.2 0 _ rfl).2)
    subst hcA
    refine k hR (by omega) H1 locs sl (wsM_push hm hH hP o1 ?_) (vaS_push hS hH z1 o1) hL
    rw [entN_int G σ hk hl]
    show H1[_]? = some (vp_cell _ _)
    rw [vp_cell_i, e1]
    congr 2
    funext j
    rw [hz]; rfl
theorem VN_newC (C : CN X cc own) {len wn' wc' wq' : Nat} (d : decode cc pc = .ok (.newarray .char, 2)) (hk : kd wn = 2000 + len) (hl : len < 1000) (hw0 : 0 < wn ∨ wc = 0) (hm : wm ≤ wn) (hz : ∀ i, σ wn i = 0) (h1 : wn + 1 = wn') (h2 : wc + 1 = wc') (h3 : wq + len = wq') (hr : RN X wc' wq') (k : VN X M wm wn' wc' wq' (pc + 2) ls (vR wn :: st) σ) : VN X M wm wn wc wq pc ls (vI len :: st) σ := by
  subst h1; subst h2; subst h3
  obtain ⟨p, l, e, R, s, m, args, below, meth, c, G, nL, ck, sk, Q⟩ := X
  obtain ⟨hx, hb, hml, hown, hlk, hts, hPK, hlin⟩ := C
  intro hR hz0 H locs sl hP hS hL
  refine W_sz fun hup => ?_
  have hH : H.size = gA G wn := szN hlin hz0 hup hP hS hw0
  have hl0 := hlin wn
  have hl1 := hlin (wn + 1)
  obtain ⟨r1, r2⟩ := hr
  have hin : inR (len : Int) := ⟨by omega, by omega⟩
  refine va_newaK (n := Int32.ofInt (len : Int)) (N := len) hx hb (hts _ gw_arrC) rfl d rfl (fun q => ?_) ?_ ?_ r1 r2 hH fun H1 cA e1 z1 o1 _ hnm => ?_
  · have := (oi_lt hin R0).mp q
    omega
  · rw [oi_nat (by omega) hin]; exact Int.toNat_natCast len
  · show len * 2 ≤ _
    omega
  · have hcA : cA = gC G := Option.some.inj (hnm.symm.trans (hPK.1.2 1 _ rfl).2)
    subst hcA
    refine k hR (by omega) H1 locs sl (wsM_push hm hH hP o1 ?_) (vaS_push hS hH z1 o1) hL
    rw [entN_chr G σ hk hl]
    show H1[_]? = some (vp_cell _ _)
    rw [vp_cell_i, e1]
    congr 2
    funext j
    rw [hz]; rfl
theorem VN_newS (C : CN X cc own) (hAO : XiA X AO) {index wn' wc' wq' : Nat} (d : decode cc pc = .ok (.anewarray index, 3)) (hlk0 : Cond.classLink own index "ForgoneShop$Stand" ∈ gw) (hk : kd wn = 3000) (hw0 : 0 < wn ∨ wc = 0) (hm : wm ≤ wn) (hz : ∀ i, σ wn i = 0) (h1 : wn + 1 = wn') (h2 : wc + 1 = wc') (h3 : wq + 8 = wq') (hr : RN X wc' wq') (k : VN X M wm wn' wc' wq' (pc + 3) ls (vR wn :: st) σ) : VN X M wm wn wc wq pc ls (vI 8 :: st) σ := by
  subst h1; subst h2; subst h3
  obtain ⟨p, l, e, R, s, m, args, below, meth, c, G, nL, ck, sk, Q⟩ := X
  obtain ⟨hx, hb, hml, hown, hlk, hts, hPK, hlin⟩ := C
  intro hR hz0 H locs sl hP hS hL
  refine W_sz fun hup => ?_
  have hH : H.size = gA G wn := szN hlin hz0 hup hP hS hw0
  have hl0 := hlin wn
  have hl1 := hlin (wn + 1)
  obtain ⟨r1, r2⟩ := hr
  refine W.anew (n := Int32.ofInt 8) hx hb hown (hts _ hlk0) (va_AO.use hAO) rfl d rfl (by decide) (by decide) r1 r2 fun cA kA comp g1 g2 g3 g4 => ?_
  obtain ⟨kA', comp', f1, f2, f3, f4⟩ := (hPK.1.2 2 _ rfl).2
  have hcA : cA = gS G := Option.some.inj (g1.symm.trans f4)
  subst hcA
  rw [show (H.size : Nat) = gA G wn from hH]
  have o1 : ∀ q, q < gA G wn → (H.push { cls := gS G, slots := Array.replicate (Int32.ofInt 8).toNatClampNeg .null, vm := .none } : Heap)[q]? = H[q]? := fun q hq => by
    rw [Array.getElem?_push, if_neg (by omega)]
  have z1 : (H.push { cls := gS G, slots := Array.replicate (Int32.ofInt 8).toNatClampNeg .null, vm := .none } : Heap).size = gA G wn + 1 := by rw [Array.size_push, hH]
  refine k hR (by omega) _ locs sl (wsM_push hm hH hP o1 ?_) (vaS_push hS hH z1 o1) hL
  rw [entN_ring G σ hk]
  show (H.push _)[gA G wn]? = some (vp_cell _ _)
  rw [vp_cell_q, ← hH]
  have er : arrV (gS G) 8 (fun j => va_rf (rngN G σ wn j)) = arrV (gS G) 8 (fun _ => Value.null) := arrV_cong (fun j hj => by
    unfold rngN
    rw [if_pos ⟨hj, hz _⟩]; rfl)
  rw [er, ← arrV_new]
  simp
  try rfl
/-- a final field of a reference, in its class's constructor -/
def FLo (own : String) (index ci j : Nat) : Prop := ∃ (T : u_T) (N : Nat) (ty : Nat → FieldType), CL[ci]? = some (own, T, N) ∧ (∀ wd ∈ u_ws own T N, wd ∈ gw) ∧ (∀ k, k < N → parseFieldDescriptor (T k).2.2.1 = some (ty k)) ∧ (∀ a, a < N → ∀ b, b < N → a ≠ b → (T a).2.1 ≠ (T b).2.1) ∧ j < N ∧ Cond.fieldLink own index (T j).1 (T j).2.1 (T j).2.2.1 ∈ gw ∧ (T j).1 = own ∧ (T j).2.2.2 = true ∧ dfo (ty j) = 1
theorem VN_putF (C : CN X cc own) (I : IN X) {index ci j dd o o2 : Nat} (d : decode cc pc = .ok (.putfield index, 3)) (fl : FLo own index ci j) (hk : kd o = ci) (hc : ci < 1000) (hf : (flds ci)[j]? = some dd) (hd : dd ≠ 0 ∧ dd ≠ 9999) (ho : o < wn) (hm : wm ≤ o) (hM : wn ≤ M) (ho2 : o + dd = o2) (k : VN X M wm wn wc wq (pc + 3) ls st (up σ o (j : Int) 1)) : VN X M wm wn wc wq pc ls (vR o2 :: vR o :: st) σ := by
  subst ho2
  obtain ⟨p, l, e, R, s, m, args, below, meth, c, G, nL, ck, sk, Q⟩ := X
  obtain ⟨hx, hb, hml, hown, hlk, hts, hPK, hlin⟩ := C
  obtain ⟨Tn, N, ty, h1, h2, h3, h4, h5, h6, h7, h8, h9⟩ := fl
  intro hR hz0 H locs sl hP hS hL
  have he : (wsM G σ wm wn)[o]? = some (gA G o, .inr (ci, fslN G σ o 0 (flds ci))) := by rw [wsM_atN G σ ho hm, entN_obj G σ hk hc]
  have hlt : j < (fslN G σ o 0 (flds ci)).length := by rw [fslN_len]; exact (List.getElem?_eq_some_iff.mp hf).1
  have hset : (wsM G σ wm wn).set o (gA G o, .inr (ci, (fslN G σ o 0 (flds ci)).set j (.ref (gA G (o + dd))))) = wsM G (up σ o (j : Int) 1) wm wn := by
    refine wsM_set G σ _ ho ?_ (fun q hq => entM_up_ne G σ wm o _ 1 q hq)
    rw [entM, if_neg (by omega), entN_obj G _ hk hc]
    have := fslN_up G σ o 1 (flds ci) 0 j dd hf
    rw [Nat.zero_add] at this
    rw [this]
    have e : fvlN G (up σ o (j : Int) 1) o j dd = .ref (gA G (o + dd)) := by
      unfold fvlN
      rw [if_neg hd.1, up_at, if_neg (by decide), if_neg hd.2]
    rw [e]
  refine va_putF hx hb hts h2 ty h3 h4 hown hPK.1 hP (lin_D hlin σ hM) hS o he h1 j h5 (hts _ h6) (fun _ q => q) h8 I h7 (h3 j h5) (dfo_n h9 _) (dfo_f h9 _) hlt d (fun H1 locs1 hP1 hD1 hS1 => ?_)
  have hP1 : va_P (gD G) CL (wsM G (up σ o (j : Int) 1) wm wn) H1 := hset ▸ hP1
  exact k (up_R hR ⟨by decide, by decide⟩) hz0 H1 locs1 sl hP1 hS1 hL
theorem VN_putv (C : CN X cc own) {index ci j dd o : Nat} {x : Int} {t0 : FieldType} (d : decode cc pc = .ok (.putfield index, 3)) (fl : FL own index ci j) (fw : FW ci j t0) (hk : kd o = ci) (hc : ci < 1000) (hf : (flds ci)[j]? = some dd) (ho : o < wn) (hm : wm ≤ o) (hM : wn ≤ M) (hx0 : inR x) {v : AV} (hv : ∀ G, fvlN G (up σ o (j : Int) x) o j dd = cv G v) (hn : ∀ G, narrow t0 (cv G v) = cv G v ∧ fits t0 (cv G v) = true) (k : VN X M wm wn wc wq (pc + 3) ls st (up σ o (j : Int) x)) : VN X M wm wn wc wq pc ls (v :: vR o :: st) σ := by
  obtain ⟨p, l, e, R, s, m, args, below, meth, c, G, nL, ck, sk, Q⟩ := X
  obtain ⟨hx, hb, hml, hown, hlk, hts, hPK, hlin⟩ := C
  intro hR hz0 H locs sl hP hS hL
  obtain ⟨Cn, Tn, N, ty, h1, h2, h3, h4, h5, h6⟩ := fl
  obtain ⟨f1, f2⟩ := fw _ _ _ h1
  have he : (wsM G σ wm wn)[o]? = some (gA G o, .inr (ci, fslN G σ o 0 (flds ci))) := by rw [wsM_atN G σ ho hm, entN_obj G σ hk hc]
  have hlt : j < (fslN G σ o 0 (flds ci)).length := by rw [fslN_len]; exact (List.getElem?_eq_some_iff.mp hf).1
  have hset : (wsM G σ wm wn).set o (gA G o, .inr (ci, (fslN G σ o 0 (flds ci)).set j (cv G v))) = wsM G (up σ o (j : Int) x) wm wn := by
    refine wsM_set G σ _ ho ?_ (fun q hq => entM_up_ne G σ wm o _ x q hq)
    rw [entM, if_neg (by omega), entN_obj G _ hk hc]
    have := fslN_up G σ o x (flds ci) 0 j dd hf
    rw [Nat.zero_add] at this
    rw [this, hv G]
  rcases h6 with h6 | ⟨host, h6⟩
  · refine va_put hx hb hts h2 ty h3 h4 hown hPK.1 hP (lin_D hlin σ hM) hS o he h1 j h5 (hts _ h6) (fun _ q => q) f1 f2 (hn G).1 (hn G).2 hlt d (fun H1 locs1 hP1 hD1 hS1 => ?_)
    rw [hset] at hP1
    exact k (up_R hR hx0) hz0 H1 locs1 sl hP1 hS1 hL
  · refine va_putN hx hb hts h2 ty h3 h4 hown hPK.1 hP (lin_D hlin σ hM) hS o he h1 j h5 (va_Nw.use (by rfl) (hPK.2 _ h6)) (fun _ q => q) f1 f2 (hn G).1 (hn G).2 hlt d (fun H1 locs1 hP1 hD1 hS1 => ?_)
    rw [hset] at hP1
    exact k (up_R hR hx0) hz0 H1 locs1 sl hP1 hS1 hL
theorem VN_putm (C : CN X cc own) {index ci j o o2 : Nat} {n : String} (d : decode cc pc = .ok (.putfield index, 3)) (fl : FL own index ci j) (fw : FW ci j (.object n)) (hk : kd o = ci) (hc : ci < 1000) (hf : (flds ci)[j]? = some 9999) (ho : o < wn) (hm : wm ≤ o) (hM : wn ≤ M) (ho2 : o2 < 2147483648) (h0 : o2 ≠ 0) (k : VN X M wm wn wc wq (pc + 3) ls st (up σ o (j : Int) (o2 : Int))) : VN X M wm wn wc wq pc ls (vR o2 :: vR o :: st) σ :=
  VN_putv C d fl fw hk hc hf ho hm hM (x := (o2 : Int)) ⟨by omega, by omega⟩ (v := vR o2) (fun G => by unfold fvlN; rw [if_neg (by decide), up_at, if_neg (by omega), if_pos rfl, Int.toNat_natCast]; rfl) (fun G => ⟨rfl, rfl⟩) k
theorem VN_getr (C : CN X cc own) {index ci j dd o o2 : Nat} (d : decode cc pc = .ok (.getfield index, 3)) (fl : FL own index ci j) (hk : kd o = ci) (hc : ci < 1000) (hf : (flds ci)[j]? = some dd) (hd : dd ≠ 0 ∧ dd ≠ 9999) (ho : o < wn) (hm : wm ≤ o) (h1 : σ o (j : Int) ≠ 0) (ho2 : o + dd = o2) (k : VN X M wm wn wc wq (pc + 3) ls (vR o2 :: st) σ) : VN X M wm wn wc wq pc ls (vR o :: st) σ := by
  subst ho2
  obtain ⟨p, l, e, R, s, m, args, below, meth, c, G, nL, ck, sk, Q⟩ := X
  obtain ⟨hx, hb, hml, hown, hlk, hts, hPK, hlin⟩ := C
  intro hR hz0 H locs sl hP hS hL
  obtain ⟨Cn, Tn, N, ty, g1, g2, g3, g4, g5, g6⟩ := fl
  have he : (wsM G σ wm wn)[o]? = some (gA G o, .inr (ci, fslN G σ o 0 (flds ci))) := by rw [wsM_atN G σ ho hm, entN_obj G σ hk hc]
  have hfs : (fslN G σ o 0 (flds ci))[j]? = some (cv G (vR (o + dd))) := by
    rw [fslN_at G σ o (flds ci) 0 j dd hf, Nat.zero_add]
    unfold fvlN
    rw [if_neg hd.1, if_neg h1, if_neg hd.2]; rfl
  rcases g6 with h6 | ⟨host, h6⟩
  · exact va_get hx hb hts g2 hown hPK.1 hP o he g1 j g5 (hts _ h6) (fun _ q => q) hfs d (k hR hz0 H locs sl hP hS hL)
  · exact va_getN hx hb hts g2 hown hPK.1 hP o he g1 j g5 (va_Nw.use (by rfl) (hPK.2 _ h6)) (fun _ q => q) hfs d (k hR hz0 H locs sl hP hS hL)
theorem VN_alenS (C : CN X cc own) (d : decode cc pc = .ok (.arraylength, 1)) {o : Nat} (hk : kd o = 3000) (ho : o < wn) (hm : wm ≤ o) (k : VN X M wm wn wc wq (pc + 1) ls (vI 8 :: st) σ) : VN X M wm wn wc wq pc ls (vR o :: st) σ := by
  obtain ⟨p, l, e, R, s, m, args, below, meth, c, G, nL, ck, sk, Q⟩ := X
  obtain ⟨hx, hb, hml, hown, hlk, hts, hPK, hlin⟩ := C
  intro hR hz0 H locs sl hP hS hL
  have he : (wsM G σ wm wn)[o]? = some (gA G o, .inl (gS G, 8, .inr (.inr (.inr (.inr (rngN G σ o)))))) := by rw [wsM_atN G σ ho hm, entN_ring G σ hk]
  exact va_alen hx hb hPK.1 hP o 2 he rfl (v := Int32.ofInt 8) rfl d (k hR hz0 H locs sl hP hS hL)
theorem VN_aast (C : CN X cc own) (d : decode cc pc = .ok (.aastore, 1)) {o o2 : Nat} {i : Int} (hk : kd o = 3000) (hk2 : kd o2 = 7) (h0 : 0 ≤ i) (h1 : i < 8) (he2 : o + 1 + 5 * i.toNat = o2) (ho : o < wn) (ho2 : o2 < wn) (hm : wm ≤ o) (hM : wn ≤ M) (k : VN X M wm wn wc wq (pc + 1) ls st (up σ o i 1)) : VN X M wm wn wc wq pc ls (vR o2 :: vI i :: vR o :: st) σ := by
  obtain ⟨p, l, e, R, s, m, args, below, meth, c, G, nL, ck, sk, Q⟩ := X
  obtain ⟨hx, hb, hml, hown, hlk, hts, hPK, hlin⟩ := C
  intro hR hz0 H locs sl hP hS hL
  have he : (wsM G σ wm wn)[o]? = some (gA G o, .inl (gS G, 8, .inr (.inr (.inr (.inr (rngN G σ o)))))) := by rw [wsM_atN G σ ho hm, entN_ring G σ hk]
  have hv : (wsM G σ wm wn)[o2]? = some (gA G o2, .inr (7, fslN G σ o2 0 (flds 7))) := by rw [wsM_atN G σ ho2 (by omega), entN_obj G σ hk2 (by decide)]
  refine va_astq (r := (R_S, T_S, 6)) hx hb hPK.1 hP (lin_D hlin σ hM) hS o 2 o2 7 he rfl hv rfl (oi_in (n := 8) h0 h1 (by decide)) d (fun H1 locs1 hP1 hD1 hS1 => ?_)
  have e3 : va_up (rngN G σ o) (Int32.ofInt i).toNatClampNeg (some (gA G o2)) = rngN G (up σ o i 1) o := by
    rw [oi_nat h0 ⟨by omega, by omega⟩]
    funext j
    unfold va_up rngN
    by_cases hj : (j : Int) = i
    · subst hj
      rw [Int.toNat_natCast] at he2 ⊢
      rw [if_pos rfl, if_neg (fun q => absurd q.2 (by rw [up_at]; decide)), he2]
    · have e4 : up σ o i 1 o (j : Int) = σ o (j : Int) := by unfold up; rw [if_neg (fun q => hj q.2)]
      rw [e4]
      first | rw [if_neg (by omega)] | simp [show ¬ j = i.toNat by omega]
  rw [e3, wsM_set G σ (up σ o i 1) ho (by rw [entM, if_neg (by omega), entN_ring G _ hk]) (fun q hq => entM_up_ne G σ wm o _ 1 q hq)] at hP1
  exact k (up_R hR ⟨by decide, by decide⟩) hz0 H1 locs1 sl hP1 hS1 hL
theorem VN_obj (C : CN X cc own) {index o : Nat} (d : decode cc pc = .ok (.invokespecial index, 3)) (hl : Cond.methodLink own index Lib.objectInit ∈ gw) (hroom : (st.map avc).sum ≤ 8) (hRm : Rm X 1 20) (k : VN X M wm wn wc wq (pc + 3) ls st σ) : VN X M wm wn wc wq pc ls (vR o :: st) σ := by
  obtain ⟨p, l, e, R, s, m, args, below, meth, c, G, nL, ck, sk, Q⟩ := X
  obtain ⟨hx, hb, hml, hown, hlk, hts, hPK, hlin⟩ := C
  intro hR hz0 H locs sl hP hS hL
  refine W.objInit hx hb hown (hts _ hl) (hts _ gw_objI) (hts _ gw_objC) rfl (hL.1.trans hml.symm) (a := gA G o) (rest := st.map (cv G)) rfl d hRm.1 ?_ (k hR hz0 H locs sl hP hS hL)
  have h := rm_sum (G := G) (m := m) (pc := pc) (sl := sl) (s2 := .ref (gA G o) :: st.map (cv G)) hroom
  exact Nat.le_trans (Nat.add_le_add_right h 12) hRm.2
/-- a constructor's end -/
theorem VN_ret (C : CN X cc own) {fin : Wd → Prop} {m' : Nat} (E : EN X M m' wn wc wq fin) (hw0 : 0 < wn ∨ wc = 0) (hw : ∀ G, wsM G σ wm wn = wsM G σ m' wn) (d : decode cc pc = .ok (.return_, 1)) (h : fin σ) : VN X M wm wn wc wq pc ls [] σ := by
  obtain ⟨p, l, e, R, s, m, args, below, meth, c, G, nL, ck, sk, Q⟩ := X
  obtain ⟨hx, hb, hml, hown, hlk, hts, hPK, hlin⟩ := C
  obtain ⟨hr, hQ⟩ := E
  subst hQ
  intro hR hz0 H locs sl hP hS hL
  refine W_sz fun hup => ?_
  have hH : H.size = gA G wn := szN hlin hz0 hup hP hS hw0
  exact W.vret hx hb hr (fun t ht hW => ⟨⟨σ, rfl, h, hR, by rw [ht]; exact hH, by rw [ht, ← hw]; exact hP⟩, hS.F ht⟩) hS.2.2 d hlk
/-- a constructor's call -/
theorem VN_callI (C : CN X cc own) {Ξ : State → Prop} {index nL2 rF rL mc ms M' o m' wn' wc' wq' : Nat} {y : MethodName} {b : ByteArray} {fin : Wd → Prop} (d : decode cc pc = .ok (.invokespecial index, 3)) (lk : LK own index y) (cm : CMs y b nL2 none 0) (hy : y.name = "<init>") (hyi : Cond.instanceMethod y ∈ gw) (hM : CtN Ξ (xL X) (xG X) y b nL2 rF rL mc ms M' [vR o] wm wn m' wn' σ fin) (hΞ : XiC X Ξ M') (hMM : M' ≤ M) (hroom : (st.map avc).sum ≤ 8) (hRm : Rm X (rF + 1) (8 + (nL2 + 11) + rL)) (h1 : wn + mc = wn') (h2 : wc + mc = wc') (h3 : wq + ms = wq') (hr : RN X wc' wq') (hw0 : 0 < wn ∨ wc = 0) (hAM : wn ≤ M') (k : ∀ σ', fin σ' → VN X M m' wn' wc' wq' (pc + 3) ls st σ') : VN X M wm wn wc wq pc ls (vR o :: st) σ := by
  subst h1; subst h2; subst h3
  obtain ⟨p, l, e, R, s, m, args, below, meth, c, G, nL, ck, sk, Q⟩ := X
  obtain ⟨hx, hb, hml, hown, hlk, hts, hPK, hlin⟩ := C
  intro hR hz0 H locs sl hP hS hL
  refine W_sz fun hup => ?_
  have hH : H.size = gA G wn := szN hlin hz0 hup hP hS hw0
  have hM := hM hlin hR
  obtain ⟨c1, c2, c3, c4⟩ := cm
  have hpay := gw_pay (nL := nL2) (ret := none) hts c1
  have hlen : ∀ sig, parseMethodDescriptor y.desc = some sig → 0 = sig.parameters.length := by
    intro sig h
    have h2 := c3.2.2
    rw [h] at h2
    exact (Option.some.inj h2).symm
  have hp : PreS s H (PcN Ξ G [vR o] wm wn σ) (Value.ref (gA G o) :: []) := ⟨PcN_blind hΞ.1 _ _ _ _ _, fun U hU hW => ⟨rfl, by rw [hU]; exact hH, by rw [hU]; exact hP, hPK.moved hW, hΞ.2 U H hU hW (fun q h1 h2 => hS.2.1 q h1 (fun z => h2 (by
    obtain ⟨j, hj, e⟩ := z
    refine ⟨j, ?_, e⟩
    have a1 := hlin j
    have a2 := hlin wn
    have a3 := hlin M'
    omega)))⟩⟩
  have hstk : (F0 m pc sl ((vR o :: st).map (cv G))).stack = ([] : List Value).reverse ++ .ref (gA G o) :: st.map (cv G) := rfl
  rcases lk with lk | ⟨host, lk⟩
  · exact VN_after (va_runI (b := gA G o) (As := []) (rest := st.map (cv G)) ⟨hx, hb, hml, hown, hts⟩ hM ⟨⟨rfl, rfl, hRm.1, hRm.2, hpay, List.mem_cons_self, hts _ c1, hts _ c2, ⟨c3.1, c3.2.1⟩, hlen, hts _ lk⟩, hy, hts _ hyi⟩ hp rfl rfl hL.1 hstk (rm_sum hroom) d hr) hlin hMM hz0 hS hL k
  · exact VN_after (va_runIN (b := gA G o) (As := []) (rest := st.map (cv G)) ⟨hx, hb, hml, hown, hts⟩ hM ⟨⟨⟨rfl, rfl, hRm.1, hRm.2, hpay, List.mem_cons_self⟩, hts _ c1, hts _ c2, ⟨c3.1, c3.2.1⟩, hlen, va_Nw.use (by rfl) (hPK.2 _ lk)⟩, hy, hts _ hyi⟩ hp rfl rfl hL.1 hstk (rm_sum hroom) d hr) hlin hMM hz0 hS hL k
/-- into the whole world -/
theorem VN_V {wm : Nat} (hw : ∀ G, wsM G σ wm 150 = wsO G σ) (k : HZ X wc 150 → V (xset X wc wq) pc ls st σ) : VN X 150 wm 150 wc wq pc ls st σ := by
  obtain ⟨p, l, e, R, s, m, args, below, meth, c, G, nL, ck, sk, Q⟩ := X
  intro hR hz0 H locs sl hP hS hL
  exact k hz0 hR H locs sl (hw G ▸ hP) hS hL
theorem CN.x (C : CN X cc own) (hr : RN X wc wq) : Cx (xset X wc wq) cc own := by
  obtain ⟨p, l, e, R, s, m, args, below, meth, c, G, nL, ck, sk, Q⟩ := X
  obtain ⟨hx, hb, hml, hown, hlk, hts, hPK, hlin⟩ := C
  exact ⟨hx, hb, hml, hown, hlk, hts, hPK, lin_apart hlin, hr.1, hr.2⟩
/-- and out of it, at a constructor's end -/
theorem V_retN (C : CN X cc own) {fin : Wd → Prop} (E : EN X 150 150 150 wc wq fin) (hz0 : HZ X wc 150) (d : decode cc pc = .ok (.return_, 1)) (h : fin σ) : V (xset X wc wq) pc ls [] σ := by
  obtain ⟨p, l, e, R, s, m, args, below, meth, c, G, nL, ck, sk, Q⟩ := X
  obtain ⟨hx, hb, hml, hown, hlk, hts, hPK, hlin⟩ := C
  obtain ⟨hr, hQ⟩ := E
  subst hQ
  intro hR H locs sl hP hS hL
  refine W_sz fun hup => ?_
  have hP2 : va_P (gD G) CL (wsM G σ 150 150) H := wsM_O G σ ▸ hP
  have hH : H.size = gA G 150 := szN hlin hz0 hup hP2 hS (Or.inl (by decide))
  exact W.vret hx hb hr (fun t ht hW => ⟨⟨σ, rfl, h, hR, by rw [ht]; exact hH, by rw [ht]; exact hP2⟩, hS.F ht⟩) hS.2.2 d hlk
theorem VN_V8 (hw : ∀ G, wsM G σ wm 128 = wsO_8 G σ) (k : HZ X wc 128 → V_8 (xset X wc wq) pc ls st σ) : VN X 128 wm 128 wc wq pc ls st σ := by
  obtain ⟨p, l, e, R, s, m, args, below, meth, c, G, nL, ck, sk, Q⟩ := X
  intro hR hz0 H locs sl hP hS hL
  exact k hz0 hR H locs sl (hw G ▸ hP) hS hL
theorem CN.x8 (C : CN X cc own) (hr : RN X wc wq) : Cx_8 (xset X wc wq) cc own := by
  obtain ⟨p, l, e, R, s, m, args, below, meth, c, G, nL, ck, sk, Q⟩ := X
  obtain ⟨hx, hb, hml, hown, hlk, hts, hPK, hlin⟩ := C
  exact ⟨hx, hb, hml, hown, hlk, hts, hPK, lin_apart_8 hlin, hr.1, hr.2⟩
theorem V_retN8 (C : CN X cc own) {fin : Wd → Prop} (E : EN X 128 128 128 wc wq fin) (hz0 : HZ X wc 128) (d : decode cc pc = .ok (.return_, 1)) (h : fin σ) : V_8 (xset X wc wq) pc ls [] σ := by
  obtain ⟨p, l, e, R, s, m, args, below, meth, c, G, nL, ck, sk, Q⟩ := X
  obtain ⟨hx, hb, hml, hown, hlk, hts, hPK, hlin⟩ := C
  obtain ⟨hr, hQ⟩ := E
  subst hQ
  intro hR H locs sl hP hS hL
  refine W_sz fun hup => ?_
  have hP2 : va_P (gD G) CL (wsM G σ 128 128) H := wsM_8 G σ ▸ hP
  have hH : H.size = gA G 128 := szN hlin hz0 hup hP2 hS (Or.inl (by decide))
  exact W.vret hx hb hr (fun t ht hW => ⟨⟨σ, rfl, h, hR, by rw [ht]; exact hH, by rw [ht]; exact hP2⟩, hS.F ht⟩) hS.2.2 d hlk
end VNr
