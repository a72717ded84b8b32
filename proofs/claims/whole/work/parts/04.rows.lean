/-! the judgement V: a frame over the abstract world -/
def kill : Option AV → Option AV
  | some (.inr (.inl _)) => none
  | o => o
def lst : List (Option AV) → Nat → AV → List (Option AV)
  | [], _, _ => []
  | _ :: r, 0, v => some v :: r
  | a :: r, 1, v => kill a :: lst r 0 v
  | a :: r, i + 2, v => a :: lst r (i + 1) v
def lz : List (Option AV) → List (Option AV)
  | [] => []
  | _ :: r => none :: r
def lstL : List (Option AV) → Nat → AV → List (Option AV)
  | [], _, _ => []
  | _ :: r, 0, v => some v :: lz r
  | a :: r, 1, v => kill a :: lstL r 0 v
  | a :: r, i + 2, v => a :: lstL r (i + 1) v
def Lh (G : GE) (sl : Array Slot) (nL : Nat) (ls : List (Option AV)) : Prop := sl.size = nL ∧ lv_wf sl ∧ ∀ (i : Nat) (a : AV), ls[i]? = some (some a) → sl[i]? = some (.val (cv G a))
theorem lst_get : ∀ (ls : List (Option AV)) (i : Nat) (v : AV) (j : Nat) (a : AV), (lst ls i v)[j]? = some (some a) → (j = i ∧ a = v) ∨ (j ≠ i ∧ ls[j]? = some (some a) ∧ ¬ (j + 1 = i ∧ ∃ z, a = vL z))
  | [], _, _, j, a, h => by simp [lst] at h
  | b :: r, 0, v, 0, a, h => by simp [lst] at h; exact Or.inl ⟨rfl, h.symm⟩
  | b :: r, 0, v, j + 1, a, h => by
    simp [lst] at h
    exact Or.inr ⟨by omega, by simpa using h, by omega⟩
  | b :: r, 1, v, 0, a, h => by
    simp [lst] at h
    rcases b with _ | (z | z | k | u) <;> simp [kill] at h
    all_goals subst h; exact Or.inr ⟨by omega, rfl, by rintro ⟨-, z, hz⟩; cases hz⟩
  | b :: r, 1, v, j + 1, a, h => by
    have h1 : (lst r 0 v)[j]? = some (some a) := by simpa [lst] using h
    rcases lst_get r 0 v j a h1 with ⟨e, q⟩ | ⟨e, q, n⟩
    · exact Or.inl ⟨by omega, q⟩
    · exact Or.inr ⟨by omega, by simpa using q, by omega⟩
  | b :: r, i + 2, v, 0, a, h => by
    simp [lst] at h; subst h; exact Or.inr ⟨by omega, rfl, by omega⟩
  | b :: r, i + 2, v, j + 1, a, h => by
    have h1 : (lst r (i + 1) v)[j]? = some (some a) := by simpa [lst] using h
    rcases lst_get r (i + 1) v j a h1 with ⟨e, q⟩ | ⟨e, q, n⟩
    · exact Or.inl ⟨by omega, q⟩
    · exact Or.inr ⟨by omega, by simpa using q, fun ⟨x, y⟩ => n ⟨by omega, y⟩⟩
theorem lstL_get : ∀ (ls : List (Option AV)) (i : Nat) (v : AV) (j : Nat) (a : AV), (lstL ls i v)[j]? = some (some a) → (j = i ∧ a = v) ∨ (j ≠ i ∧ j ≠ i + 1 ∧ ls[j]? = some (some a) ∧ ¬ (j + 1 = i ∧ ∃ z, a = vL z))
  | [], _, _, j, a, h => by simp [lstL] at h
  | b :: r, 0, v, 0, a, h => by simp [lstL] at h; exact Or.inl ⟨rfl, h.symm⟩
  | b :: r, 0, v, j + 1, a, h => by
    have h1 : (lz r)[j]? = some (some a) := by simpa [lstL] using h
    rcases r with _ | ⟨c, r⟩
    · simp [lz] at h1
    · rcases j with _ | j
      · simp [lz] at h1
      · have h2 : r[j]? = some (some a) := by simpa [lz] using h1
        exact Or.inr ⟨by omega, by omega, by simpa using h2, by omega⟩
  | b :: r, 1, v, 0, a, h => by
    simp [lstL] at h
    rcases b with _ | (z | z | k | u) <;> simp [kill] at h
    all_goals subst h; exact Or.inr ⟨by omega, by omega, rfl, by rintro ⟨-, z, hz⟩; cases hz⟩
  | b :: r, 1, v, j + 1, a, h => by
    have h1 : (lstL r 0 v)[j]? = some (some a) := by simpa [lstL] using h
    rcases lstL_get r 0 v j a h1 with ⟨e, q⟩ | ⟨e, e2, q, n⟩
    · exact Or.inl ⟨by omega, q⟩
    · exact Or.inr ⟨by omega, by omega, by simpa using q, by omega⟩
  | b :: r, i + 2, v, 0, a, h => by
    simp [lstL] at h; subst h; exact Or.inr ⟨by omega, by omega, rfl, by omega⟩
  | b :: r, i + 2, v, j + 1, a, h => by
    have h1 : (lstL r (i + 1) v)[j]? = some (some a) := by simpa [lstL] using h
    rcases lstL_get r (i + 1) v j a h1 with ⟨e, q⟩ | ⟨e, e2, q, n⟩
    · exact Or.inl ⟨by omega, q⟩
    · exact Or.inr ⟨by omega, by omega, by simpa using q, fun ⟨x, y⟩ => n ⟨by omega, y⟩⟩
/-- the list of pairs that the kit's stores speak of -/
def prs (G : GE) (ls : List (Option AV)) : List (Nat × Value) := (List.range ls.length).filterMap (fun i => match ls[i]? with | some (some a) => some (i, cv G a) | _ => none)
theorem prs_mem {G : GE} {ls : List (Option AV)} {i : Nat} {a : AV} (h : ls[i]? = some (some a)) : (i, cv G a) ∈ prs G ls := by
  refine List.mem_filterMap.mpr ⟨i, List.mem_range.mpr (List.getElem?_eq_some_iff.mp h).1, ?_⟩
  simp [h]
theorem Lh.has {G : GE} {sl : Array Slot} {nL : Nat} {ls : List (Option AV)} (h : Lh G sl nL ls) : lv_has sl nL (prs G ls) := by
  refine ⟨h.1, h.2.1, fun q hq => ?_⟩
  obtain ⟨i, -, hi⟩ := List.mem_filterMap.mp hq
  split at hi
  · rename_i a ha
    cases hi
    exact h.2.2 i a ha
  · cases hi
theorem cat_ne {G : GE} {a : AV} (h : ¬ ∃ z, a = vL z) : ((cv G a).category == 2) = false := by
  rcases a with z | z | k | (_ | b)
  · rfl
  · exact absurd ⟨z, rfl⟩ h
  · rfl
  · rfl
  · rfl
theorem Lh.store1 {G : GE} {sl' : Array Slot} {nL : Nat} {ls : List (Option AV)} {i : Nat} {a : AV} (h : lv_has sl' nL ((i, cv G a) :: (prs G ls).filter (fun q => !(q.1 == i) && !(q.1 + 1 == i && q.2.category == 2)))) : Lh G sl' nL (lst ls i a) := by
  refine ⟨h.1, h.2.1, fun j b hj => ?_⟩
  rcases lst_get ls i a j b hj with ⟨rfl, rfl⟩ | ⟨hne, hb, hn⟩
  · exact h.2.2 _ List.mem_cons_self
  · refine h.2.2 (j, cv G b) (List.mem_cons_of_mem _ (List.mem_filter.mpr ⟨prs_mem hb, ?_⟩))
    have h1 : (j == i) = false := by simpa using hne
    by_cases hj1 : j + 1 = i
    · have h2 : ((cv G b).category == 2) = false := cat_ne (fun hz => hn ⟨hj1, hz⟩)
      simp [h1, h2]
    · have h2 : (j + 1 == i) = false := by simpa using hj1
      simp [h1, h2]
theorem Lh.store2 {G : GE} {sl' : Array Slot} {nL : Nat} {ls : List (Option AV)} {i : Nat} {a : AV} (h : lv_has sl' nL ((i, cv G a) :: (prs G ls).filter (fun q => !(q.1 == i) && (!(q.1 == i + 1) && !(q.1 + 1 == i && q.2.category == 2))))) : Lh G sl' nL (lstL ls i a) := by
  refine ⟨h.1, h.2.1, fun j b hj => ?_⟩
  rcases lstL_get ls i a j b hj with ⟨rfl, rfl⟩ | ⟨hne, hne2, hb, hn⟩
  · exact h.2.2 _ List.mem_cons_self
  · refine h.2.2 (j, cv G b) (List.mem_cons_of_mem _ (List.mem_filter.mpr ⟨prs_mem hb, ?_⟩))
    have h1 : (j == i) = false := by simpa using hne
    have h3 : (j == i + 1) = false := by simpa using hne2
    by_cases hj1 : j + 1 = i
    · have h2 : ((cv G b).category == 2) = false := cat_ne (fun hz => hn ⟨hj1, hz⟩)
      simp [h1, h2, h3]
    · have h2 : (j + 1 == i) = false := by simpa using hj1
      simp [h1, h2, h3]
abbrev KX : Type := Program × (Launch × (Env × (Room × (State × (MethodId × (Array Value × (List Frame × (Method × (Code × (GE × (Nat × (Nat × (Nat × (State → Prop))))))))))))))
def V (X : KX) (pc : Nat) (ls : List (Option AV)) (st : List AV) (σ : Wd) : Prop := match X with
  | (p, l, e, R, s, m, args, below, meth, c, G, nL, ck, sk, Q) => R32 σ → ∀ (H : Heap) (locs : List Loc) (sl : Array Slot), va_P (gD G) CL (wsO G σ) H → va_S (AG G) s.heap H locs → Lh G sl nL ls → W p l e R s m args below meth c H locs ck sk Q (F0 m pc sl (st.map (cv G)))
def Cx (X : KX) (cc : ByteArray) (own : String) : Prop := match X with
  | (p, _, _, R, s, m, args, _, meth, c, G, nL, ck, sk, _) => p.tables.exec = Jvm.exec ∧ c.code = cc ∧ c.maxLocals = nL ∧ s.vm.findClass own = some m.cls ∧ meth.locks = false ∧ (∀ wd ∈ gw, wd.before args s = true) ∧ PK G s ∧ apart G ∧ ck ≤ R.cells ∧ sk ≤ R.slots
/-- room for a call: frames and words of locals left -/
def Rm (X : KX) (rF rL : Nat) : Prop := match X with
  | (_, _, _, R, _, _, _, _, _, _, _, _, _, _, _) => rF ≤ R.frames ∧ rL ≤ R.locals
def xN (X : KX) : Nat := match X with
  | (_, _, _, _, _, _, _, _, _, _, _, nL, _, _, _) => nL
def xG (X : KX) : GE := match X with
  | (_, _, _, _, _, _, _, _, _, _, G, _, _, _, _) => G
def xL (X : KX) : Launch := match X with
  | (_, l, _, _, _, _, _, _, _, _, _, _, _, _, _) => l
def QcO (G : GE) (fin : Option AV → Wd → Prop) : Array Value → State → Outcome → State → Prop := fun _ st oc t => (∃ r σ, oc = .returned (r.map (cv G)) ∧ fin r σ ∧ R32 σ ∧ va_P (gD G) CL (wsO G σ) t.heap) ∧ va_F (AG G) st t
def Ex (X : KX) (ret : Option FieldType) (fin : Option AV → Wd → Prop) : Prop := match X with
  | (_, _, _, _, s, _, args, below, meth, _, G, _, ck, sk, Q) => meth.sig.returnType = ret ∧ Q = MQ below (QcO G fin) args s ck sk (AG G)
/-- a method's contract: from the world σ, with these arguments, it ends, with fin of the answer and the world behind it; nothing is made -/
def Ct (l : Launch) (G : GE) (y : MethodName) (b : ByteArray) (nL : Nat) (ret : Option FieldType) (rF rL : Nat) (avs : List AV) (σ : Wd) (fin : Option AV → Wd → Prop) : Prop :=
  apart G → R32 σ → Met l y (Cond.code y b nL ret :: gw) { frames := rF, cells := 0, slots := 0, locals := rL } (va_Pc (avs.map (cv G)) (fun U => va_P (gD G) CL (wsO G σ) U.heap ∧ PK G U)) (QcO G fin) 0 0 (AG G)
theorem dk {b : ByteArray} {T : List (Nat × (Instr × Nat))} (h : T.all (fun q => decide (decode b q.1 = .ok q.2)) = true) (i : Nat) {pc n : Nat} {ins : Instr} (hi : T[i]? = some (pc, (ins, n))) : decode b pc = .ok (ins, n) := by
  have := List.all_eq_true.mp h _ (List.mem_of_getElem? hi)
  simpa using this
theorem lv1 {ls : List (Option AV)} {sl : Array Slot} {nL : Nat} {G : GE} (h : Lh G sl nL ls) {i : Nat} {a : AV} (hi : ls[i]? = some (some a)) : sl[i]? = some (.val (cv G a)) := h.2.2 i a hi

section VR
variable {X : KX} {cc : ByteArray} {own : String} {pc : Nat} {ls : List (Option AV)} {st : List AV} {σ : Wd}
/-- the world's numbers are the machine's -/
theorem V_R (k : R32 σ → V X pc ls st σ) : V X pc ls st σ := by
  obtain ⟨p, l, e, R, s, m, args, below, meth, c, G, nL, ck, sk, Q⟩ := X
  intro hR H locs sl hP hS hL
  exact k hR hR H locs sl hP hS hL
theorem V_eq {ls' : List (Option AV)} {st' : List AV} {σ' : Wd} (k : V X pc ls' st' σ') (h1 : ls = ls') (h2 : st = st') (h3 : σ = σ') : V X pc ls st σ := by
  subst h1; subst h2; subst h3; exact k
theorem V_pc {pc' : Nat} (h : pc = pc') (k : V X pc' ls st σ) : V X pc ls st σ := h ▸ k

theorem V_iconst {n : Int} {n' : Int} (C : Cx X cc own) (d : decode cc pc = .ok (.iconst n, 1))   (hn : n = n') (k : V X (pc + 1) ls (vI n' :: st) σ) : V X pc ls st σ := by
  obtain ⟨p, l, e, R, s, m, args, below, meth, c, G, nL, ck, sk, Q⟩ := X
  obtain ⟨hx, hb, hml, hown, hlk, hts, hPK, hap, hck, hsk⟩ := C
  intro hR H locs sl hP hS hL
  subst hn
  exact lv_iconst hx hb d rfl (k hR H locs sl hP hS hL)

theorem V_bipush {n : Int} {n' : Int} (C : Cx X cc own) (d : decode cc pc = .ok (.bipush n, 2))   (hn : (Int8.ofInt n).toInt32 = Int32.ofInt n') (k : V X (pc + 2) ls (vI n' :: st) σ) : V X pc ls st σ := by
  obtain ⟨p, l, e, R, s, m, args, below, meth, c, G, nL, ck, sk, Q⟩ := X
  obtain ⟨hx, hb, hml, hown, hlk, hts, hPK, hap, hck, hsk⟩ := C
  intro hR H locs sl hP hS hL
  exact lv_bipush hx hb d hn (k hR H locs sl hP hS hL)

theorem V_sipush {n : Int} {n' : Int} (C : Cx X cc own) (d : decode cc pc = .ok (.sipush n, 3))   (hn : (Int16.ofInt n).toInt32 = Int32.ofInt n') (k : V X (pc + 3) ls (vI n' :: st) σ) : V X pc ls st σ := by
  obtain ⟨p, l, e, R, s, m, args, below, meth, c, G, nL, ck, sk, Q⟩ := X
  obtain ⟨hx, hb, hml, hown, hlk, hts, hPK, hap, hck, hsk⟩ := C
  intro hR H locs sl hP hS hL
  exact lv_sipush hx hb d hn (k hR H locs sl hP hS hL)

theorem V_lconst {n : Fin 2} {n' : Int} (C : Cx X cc own) (d : decode cc pc = .ok (.lconst n, 1))   (hn : Int64.ofNat (n : Nat) = Int64.ofInt n') (k : V X (pc + 1) ls (vL n' :: st) σ) : V X pc ls st σ := by
  obtain ⟨p, l, e, R, s, m, args, below, meth, c, G, nL, ck, sk, Q⟩ := X
  obtain ⟨hx, hb, hml, hown, hlk, hts, hPK, hap, hck, hsk⟩ := C
  intro hR H locs sl hP hS hL
  exact lv_lconst hx hb d hn (k hR H locs sl hP hS hL)

theorem V_null  (C : Cx X cc own) (d : decode cc pc = .ok (.aconst_null, 1))  (k : V X (pc + 1) ls (vX none :: st) σ) : V X pc ls st σ := by
  obtain ⟨p, l, e, R, s, m, args, below, meth, c, G, nL, ck, sk, Q⟩ := X
  obtain ⟨hx, hb, hml, hown, hlk, hts, hPK, hap, hck, hsk⟩ := C
  intro hR H locs sl hP hS hL
  exact lv_null hx hb d (k hR H locs sl hP hS hL)

theorem V_ldc {index : Nat} {v : Int32} {n' : Int} (C : Cx X cc own) (d : decode cc pc = .ok (.ldc index, 2))    (hc : Cond.constant own index v ∈ gw) (hn : v = Int32.ofInt n') (k : V X (pc + 2) ls (vI n' :: st) σ) : V X pc ls st σ := by
  obtain ⟨p, l, e, R, s, m, args, below, meth, c, G, nL, ck, sk, Q⟩ := X
  obtain ⟨hx, hb, hml, hown, hlk, hts, hPK, hap, hck, hsk⟩ := C
  intro hR H locs sl hP hS hL
  subst hn
  exact lv_ldc hx hb hown (hts _ hc) d (k hR H locs sl hP hS hL)

theorem V_ldc2 {index : Nat} {v : Int64} {n' : Int} (C : Cx X cc own) (d : decode cc pc = .ok (.ldc2_w index, 3))    (hc : Cond.constantLong own index v ∈ gw) (hn : v = Int64.ofInt n') (k : V X (pc + 3) ls (vL n' :: st) σ) : V X pc ls st σ := by
  obtain ⟨p, l, e, R, s, m, args, below, meth, c, G, nL, ck, sk, Q⟩ := X
  obtain ⟨hx, hb, hml, hown, hlk, hts, hPK, hap, hck, hsk⟩ := C
  intro hR H locs sl hP hS hL
  subst hn
  exact lv_ldc2 hx hb hown (hts _ hc) d (k hR H locs sl hP hS hL)

theorem V_iload_n {i : Fin 4} {z : Int} (C : Cx X cc own) (d : decode cc pc = .ok (.iload_n i, 1))   (h : ls[(i : Nat)]? = some (some (vI z))) (k : V X (pc + 1) ls (vI z :: st) σ) : V X pc ls st σ := by
  obtain ⟨p, l, e, R, s, m, args, below, meth, c, G, nL, ck, sk, Q⟩ := X
  obtain ⟨hx, hb, hml, hown, hlk, hts, hPK, hap, hck, hsk⟩ := C
  intro hR H locs sl hP hS hL
  exact lv_iload_n hx hb d rfl (lv1 hL h) (k hR H locs sl hP hS hL)

theorem V_iload {i : Nat} {z : Int} (C : Cx X cc own) (d : decode cc pc = .ok (.iload i, 2))   (h : ls[i]? = some (some (vI z))) (k : V X (pc + 2) ls (vI z :: st) σ) : V X pc ls st σ := by
  obtain ⟨p, l, e, R, s, m, args, below, meth, c, G, nL, ck, sk, Q⟩ := X
  obtain ⟨hx, hb, hml, hown, hlk, hts, hPK, hap, hck, hsk⟩ := C
  intro hR H locs sl hP hS hL
  exact lv_iload hx hb d (lv1 hL h) (k hR H locs sl hP hS hL)

theorem V_lload_n {i : Fin 4} {z : Int} (C : Cx X cc own) (d : decode cc pc = .ok (.lload_n i, 1))   (h : ls[(i : Nat)]? = some (some (vL z))) (k : V X (pc + 1) ls (vL z :: st) σ) : V X pc ls st σ := by
  obtain ⟨p, l, e, R, s, m, args, below, meth, c, G, nL, ck, sk, Q⟩ := X
  obtain ⟨hx, hb, hml, hown, hlk, hts, hPK, hap, hck, hsk⟩ := C
  intro hR H locs sl hP hS hL
  exact lv_lload_n hx hb d rfl (lv1 hL h) (k hR H locs sl hP hS hL)

theorem V_lload {i : Nat} {z : Int} (C : Cx X cc own) (d : decode cc pc = .ok (.lload i, 2))   (h : ls[i]? = some (some (vL z))) (k : V X (pc + 2) ls (vL z :: st) σ) : V X pc ls st σ := by
  obtain ⟨p, l, e, R, s, m, args, below, meth, c, G, nL, ck, sk, Q⟩ := X
  obtain ⟨hx, hb, hml, hown, hlk, hts, hPK, hap, hck, hsk⟩ := C
  intro hR H locs sl hP hS hL
  exact lv_lload hx hb d (lv1 hL h) (k hR H locs sl hP hS hL)

theorem V_aload_n {i : Fin 4} {z : Nat} (C : Cx X cc own) (d : decode cc pc = .ok (.aload_n i, 1))   (h : ls[(i : Nat)]? = some (some (vR z))) (k : V X (pc + 1) ls (vR z :: st) σ) : V X pc ls st σ := by
  obtain ⟨p, l, e, R, s, m, args, below, meth, c, G, nL, ck, sk, Q⟩ := X
  obtain ⟨hx, hb, hml, hown, hlk, hts, hPK, hap, hck, hsk⟩ := C
  intro hR H locs sl hP hS hL
  exact lv_aload_n hx hb d rfl (lv1 hL h) (k hR H locs sl hP hS hL)

theorem V_aload {i : Nat} {z : Nat} (C : Cx X cc own) (d : decode cc pc = .ok (.aload i, 2))   (h : ls[i]? = some (some (vR z))) (k : V X (pc + 2) ls (vR z :: st) σ) : V X pc ls st σ := by
  obtain ⟨p, l, e, R, s, m, args, below, meth, c, G, nL, ck, sk, Q⟩ := X
  obtain ⟨hx, hb, hml, hown, hlk, hts, hPK, hap, hck, hsk⟩ := C
  intro hR H locs sl hP hS hL
  exact lv_aload hx hb d (lv1 hL h) (k hR H locs sl hP hS hL)

theorem V_aloadX_n {i : Fin 4} {b : Nat} (C : Cx X cc own) (d : decode cc pc = .ok (.aload_n i, 1))   (h : ls[(i : Nat)]? = some (some (vX (some b)))) (k : V X (pc + 1) ls (vX (some b) :: st) σ) : V X pc ls st σ := by
  obtain ⟨p, l, e, R, s, m, args, below, meth, c, G, nL, ck, sk, Q⟩ := X
  obtain ⟨hx, hb, hml, hown, hlk, hts, hPK, hap, hck, hsk⟩ := C
  intro hR H locs sl hP hS hL
  exact lv_aload_n hx hb d rfl (lv1 hL h) (k hR H locs sl hP hS hL)

theorem V_aloadN_n {i : Fin 4} (C : Cx X cc own) (d : decode cc pc = .ok (.aload_n i, 1))  (h : ls[(i : Nat)]? = some (some (vX none))) (k : V X (pc + 1) ls (vX none :: st) σ) : V X pc ls st σ := by
  obtain ⟨p, l, e, R, s, m, args, below, meth, c, G, nL, ck, sk, Q⟩ := X
  obtain ⟨hx, hb, hml, hown, hlk, hts, hPK, hap, hck, hsk⟩ := C
  intro hR H locs sl hP hS hL
  exact lv_aload_nN hx hb d rfl (lv1 hL h) (k hR H locs sl hP hS hL)

theorem V_istore_n {i : Fin 4} {z : Int} (C : Cx X cc own) (d : decode cc pc = .ok (.istore_n i, 1))   (h : (i : Nat) < xN X) (k : V X (pc + 1) (lst ls (i : Nat) (vI z)) st σ) : V X pc ls (vI z :: st) σ := by
  obtain ⟨p, l, e, R, s, m, args, below, meth, c, G, nL, ck, sk, Q⟩ := X
  obtain ⟨hx, hb, hml, hown, hlk, hts, hPK, hap, hck, hsk⟩ := C
  intro hR H locs sl hP hS hL
  exact lv_istore_n hx hb d rfl hL.has h rfl (fun sl' h' => k hR H locs sl' hP hS (Lh.store1 (a := vI z) h'))

theorem V_istore {i : Nat} {z : Int} (C : Cx X cc own) (d : decode cc pc = .ok (.istore i, 2))   (h : i < xN X) (k : V X (pc + 2) (lst ls i (vI z)) st σ) : V X pc ls (vI z :: st) σ := by
  obtain ⟨p, l, e, R, s, m, args, below, meth, c, G, nL, ck, sk, Q⟩ := X
  obtain ⟨hx, hb, hml, hown, hlk, hts, hPK, hap, hck, hsk⟩ := C
  intro hR H locs sl hP hS hL
  exact lv_istore hx hb d hL.has h rfl (fun sl' h' => k hR H locs sl' hP hS (Lh.store1 (a := vI z) h'))

theorem V_astore_n {i : Fin 4} {z : Nat} (C : Cx X cc own) (d : decode cc pc = .ok (.astore_n i, 1))   (h : (i : Nat) < xN X) (k : V X (pc + 1) (lst ls (i : Nat) (vR z)) st σ) : V X pc ls (vR z :: st) σ := by
  obtain ⟨p, l, e, R, s, m, args, below, meth, c, G, nL, ck, sk, Q⟩ := X
  obtain ⟨hx, hb, hml, hown, hlk, hts, hPK, hap, hck, hsk⟩ := C
  intro hR H locs sl hP hS hL
  exact lv_astore_n hx hb d rfl hL.has h rfl (fun sl' h' => k hR H locs sl' hP hS (Lh.store1 (a := vR z) h'))

theorem V_astore {i : Nat} {z : Nat} (C : Cx X cc own) (d : decode cc pc = .ok (.astore i, 2))   (h : i < xN X) (k : V X (pc + 2) (lst ls i (vR z)) st σ) : V X pc ls (vR z :: st) σ := by
  obtain ⟨p, l, e, R, s, m, args, below, meth, c, G, nL, ck, sk, Q⟩ := X
  obtain ⟨hx, hb, hml, hown, hlk, hts, hPK, hap, hck, hsk⟩ := C
  intro hR H locs sl hP hS hL
  exact lv_astore hx hb d hL.has h rfl (fun sl' h' => k hR H locs sl' hP hS (Lh.store1 (a := vR z) h'))

theorem V_lstore_n {i : Fin 4} {z : Int} (C : Cx X cc own) (d : decode cc pc = .ok (.lstore_n i, 1))   (h : (i : Nat) + 1 < xN X) (k : V X (pc + 1) (lstL ls (i : Nat) (vL z)) st σ) : V X pc ls (vL z :: st) σ := by
  obtain ⟨p, l, e, R, s, m, args, below, meth, c, G, nL, ck, sk, Q⟩ := X
  obtain ⟨hx, hb, hml, hown, hlk, hts, hPK, hap, hck, hsk⟩ := C
  intro hR H locs sl hP hS hL
  exact lv_lstore_n hx hb d rfl hL.has h rfl (fun sl' h' => k hR H locs sl' hP hS (Lh.store2 (a := vL z) h'))

theorem V_lstore {i : Nat} {z : Int} (C : Cx X cc own) (d : decode cc pc = .ok (.lstore i, 2))   (h : i + 1 < xN X) (k : V X (pc + 2) (lstL ls i (vL z)) st σ) : V X pc ls (vL z :: st) σ := by
  obtain ⟨p, l, e, R, s, m, args, below, meth, c, G, nL, ck, sk, Q⟩ := X
  obtain ⟨hx, hb, hml, hown, hlk, hts, hPK, hap, hck, hsk⟩ := C
  intro hR H locs sl hP hS hL
  exact lv_lstore hx hb d hL.has h rfl (fun sl' h' => k hR H locs sl' hP hS (Lh.store2 (a := vL z) h'))

theorem V_iinc (C : Cx X cc own) {i : Nat} {n z : Int} (d : decode cc pc = .ok (.iinc i n, 3)) (h : i < xN X) (hi : ls[i]? = some (some (vI z))) (k : V X (pc + 3) (lst ls i (vI (z + n))) st σ) : V X pc ls st σ := by
  obtain ⟨p, l, e, R, s, m, args, below, meth, c, G, nL, ck, sk, Q⟩ := X
  obtain ⟨hx, hb, hml, hown, hlk, hts, hPK, hap, hck, hsk⟩ := C
  intro hR H locs sl hP hS hL
  obtain ⟨q, hq, hm⟩ := List.getElem_of_mem (prs_mem (G := G) hi)
  have hk : (prs G ls)[q]? = some (i, .int (Int32.ofInt z)) := by rw [List.getElem?_eq_getElem hq, hm]; rfl
  exact lv_iinc hx hb d hL.has hk rfl h rfl (fun sl' h' => k hR H locs sl' hP hS (Lh.store1 (a := vI (z + n)) (by rw [← Int32.ofInt_add] at h'; exact h')))

theorem V_iadd {a b : Int} (C : Cx X cc own) (d : decode cc pc = .ok (.iadd, 1))  (k : V X (pc + 1) ls (vI (a + b) :: st) σ) : V X pc ls (vI b :: vI a :: st) σ := by
  obtain ⟨p, l, e, R, s, m, args, below, meth, c, G, nL, ck, sk, Q⟩ := X
  obtain ⟨hx, hb, hml, hown, hlk, hts, hPK, hap, hck, hsk⟩ := C
  intro hR H locs sl hP hS hL
  refine lv_iadd hx hb d ?_
  rw [← Int32.ofInt_add]
  exact k hR H locs sl hP hS hL

theorem V_isub {a b : Int} (C : Cx X cc own) (d : decode cc pc = .ok (.isub, 1))  (k : V X (pc + 1) ls (vI (a - b) :: st) σ) : V X pc ls (vI b :: vI a :: st) σ := by
  obtain ⟨p, l, e, R, s, m, args, below, meth, c, G, nL, ck, sk, Q⟩ := X
  obtain ⟨hx, hb, hml, hown, hlk, hts, hPK, hap, hck, hsk⟩ := C
  intro hR H locs sl hP hS hL
  refine lv_isub hx hb d ?_
  rw [← Int32.ofInt_sub]
  exact k hR H locs sl hP hS hL

theorem V_imul {a b : Int} (C : Cx X cc own) (d : decode cc pc = .ok (.imul, 1))  (k : V X (pc + 1) ls (vI (a * b) :: st) σ) : V X pc ls (vI b :: vI a :: st) σ := by
  obtain ⟨p, l, e, R, s, m, args, below, meth, c, G, nL, ck, sk, Q⟩ := X
  obtain ⟨hx, hb, hml, hown, hlk, hts, hPK, hap, hck, hsk⟩ := C
  intro hR H locs sl hP hS hL
  refine lv_imul hx hb d ?_
  rw [← Int32.ofInt_mul]
  exact k hR H locs sl hP hS hL

theorem V_ladd {a b : Int} (C : Cx X cc own) (d : decode cc pc = .ok (.ladd, 1))  (k : V X (pc + 1) ls (vL (a + b) :: st) σ) : V X pc ls (vL b :: vL a :: st) σ := by
  obtain ⟨p, l, e, R, s, m, args, below, meth, c, G, nL, ck, sk, Q⟩ := X
  obtain ⟨hx, hb, hml, hown, hlk, hts, hPK, hap, hck, hsk⟩ := C
  intro hR H locs sl hP hS hL
  refine lv_ladd hx hb d ?_
  rw [← Int64.ofInt_add]
  exact k hR H locs sl hP hS hL

theorem V_lsub {a b : Int} (C : Cx X cc own) (d : decode cc pc = .ok (.lsub, 1))  (k : V X (pc + 1) ls (vL (a - b) :: st) σ) : V X pc ls (vL b :: vL a :: st) σ := by
  obtain ⟨p, l, e, R, s, m, args, below, meth, c, G, nL, ck, sk, Q⟩ := X
  obtain ⟨hx, hb, hml, hown, hlk, hts, hPK, hap, hck, hsk⟩ := C
  intro hR H locs sl hP hS hL
  refine lv_lsub hx hb d ?_
  rw [← Int64.ofInt_sub]
  exact k hR H locs sl hP hS hL

theorem V_lmul {a b : Int} (C : Cx X cc own) (d : decode cc pc = .ok (.lmul, 1))  (k : V X (pc + 1) ls (vL (a * b) :: st) σ) : V X pc ls (vL b :: vL a :: st) σ := by
  obtain ⟨p, l, e, R, s, m, args, below, meth, c, G, nL, ck, sk, Q⟩ := X
  obtain ⟨hx, hb, hml, hown, hlk, hts, hPK, hap, hck, hsk⟩ := C
  intro hR H locs sl hP hS hL
  refine lv_lmul hx hb d ?_
  rw [← Int64.ofInt_mul]
  exact k hR H locs sl hP hS hL

theorem V_ineg {a : Int} (C : Cx X cc own) (d : decode cc pc = .ok (.ineg, 1))  (k : V X (pc + 1) ls (vI (-a) :: st) σ) : V X pc ls (vI a :: st) σ := by
  obtain ⟨p, l, e, R, s, m, args, below, meth, c, G, nL, ck, sk, Q⟩ := X
  obtain ⟨hx, hb, hml, hown, hlk, hts, hPK, hap, hck, hsk⟩ := C
  intro hR H locs sl hP hS hL
  refine lv_ineg hx hb d ?_
  rw [← Int32.ofInt_neg]
  exact k hR H locs sl hP hS hL

theorem V_idiv {a b : Int} (C : Cx X cc own) (d : decode cc pc = .ok (.idiv, 1))  (ha : inR a) (hb1 : inR b) (h0 : 0 ≤ a) (h1 : 0 < b) (k : V X (pc + 1) ls (vI (a / b) :: st) σ) : V X pc ls (vI b :: vI a :: st) σ := by
  obtain ⟨p, l, e, R, s, m, args, below, meth, c, G, nL, ck, sk, Q⟩ := X
  obtain ⟨hx, hb, hml, hown, hlk, hts, hPK, hap, hck, hsk⟩ := C
  intro hR H locs sl hP hS hL
  refine lv_idiv hx hb d (oi_ne hb1 (by omega)) ?_
  rw [oi_div ha hb1 h0 h1]
  exact k hR H locs sl hP hS hL

theorem V_irem {a b : Int} (C : Cx X cc own) (d : decode cc pc = .ok (.irem, 1))  (ha : inR a) (hb1 : inR b) (h0 : 0 ≤ a) (h1 : 0 < b) (k : V X (pc + 1) ls (vI (a % b) :: st) σ) : V X pc ls (vI b :: vI a :: st) σ := by
  obtain ⟨p, l, e, R, s, m, args, below, meth, c, G, nL, ck, sk, Q⟩ := X
  obtain ⟨hx, hb, hml, hown, hlk, hts, hPK, hap, hck, hsk⟩ := C
  intro hR H locs sl hP hS hL
  refine lv_irem hx hb d (oi_ne hb1 (by omega)) ?_
  rw [oi_rem ha hb1 h0 h1]
  exact k hR H locs sl hP hS hL

theorem V_ldiv {a b : Int} (C : Cx X cc own) (d : decode cc pc = .ok (.ldiv, 1))  (ha : inL a) (hb1 : inL b) (h0 : 0 ≤ a) (h1 : 0 < b) (k : V X (pc + 1) ls (vL (a / b) :: st) σ) : V X pc ls (vL b :: vL a :: st) σ := by
  obtain ⟨p, l, e, R, s, m, args, below, meth, c, G, nL, ck, sk, Q⟩ := X
  obtain ⟨hx, hb, hml, hown, hlk, hts, hPK, hap, hck, hsk⟩ := C
  intro hR H locs sl hP hS hL
  refine lv_ldiv hx hb d (oi_neL hb1 (by omega)) ?_
  rw [oi_divL ha hb1 h0 h1]
  exact k hR H locs sl hP hS hL

theorem V_lrem {a b : Int} (C : Cx X cc own) (d : decode cc pc = .ok (.lrem, 1))  (ha : inL a) (hb1 : inL b) (h0 : 0 ≤ a) (h1 : 0 < b) (k : V X (pc + 1) ls (vL (a % b) :: st) σ) : V X pc ls (vL b :: vL a :: st) σ := by
  obtain ⟨p, l, e, R, s, m, args, below, meth, c, G, nL, ck, sk, Q⟩ := X
  obtain ⟨hx, hb, hml, hown, hlk, hts, hPK, hap, hck, hsk⟩ := C
  intro hR H locs sl hP hS hL
  refine lv_lrem hx hb d (oi_neL hb1 (by omega)) ?_
  rw [oi_remL ha hb1 h0 h1]
  exact k hR H locs sl hP hS hL

theorem V_ishl {a t : Int} (C : Cx X cc own) (d : decode cc pc = .ok (.ishl, 1))  (ha0 : 0 ≤ a) (h0 : 0 ≤ t) (h1 : t < 31) (h2 : a * 2 ^ t.toNat < 2147483648) (k : V X (pc + 1) ls (vI (a * 2 ^ t.toNat) :: st) σ) : V X pc ls (vI t :: vI a :: st) σ := by
  obtain ⟨p, l, e, R, s, m, args, below, meth, c, G, nL, ck, sk, Q⟩ := X
  obtain ⟨hx, hb, hml, hown, hlk, hts, hPK, hap, hck, hsk⟩ := C
  intro hR H locs sl hP hS hL
  refine lv_ishl hx hb d ?_
  rw [oi_shl ha0 h0 h1 h2]
  exact k hR H locs sl hP hS hL

theorem V_ishr {a t : Int} (C : Cx X cc own) (d : decode cc pc = .ok (.ishr, 1))  (ha : inR a) (ha0 : 0 ≤ a) (h0 : 0 ≤ t) (h1 : t < 31) (k : V X (pc + 1) ls (vI (a / 2 ^ t.toNat) :: st) σ) : V X pc ls (vI t :: vI a :: st) σ := by
  obtain ⟨p, l, e, R, s, m, args, below, meth, c, G, nL, ck, sk, Q⟩ := X
  obtain ⟨hx, hb, hml, hown, hlk, hts, hPK, hap, hck, hsk⟩ := C
  intro hR H locs sl hP hS hL
  refine lv_ishr hx hb d ?_
  rw [oi_shr ha ha0 h0 h1]
  exact k hR H locs sl hP hS hL

theorem V_iand {a b : Int} (C : Cx X cc own) (d : decode cc pc = .ok (.iand, 1))  (ha : inR a) (hb1 : inR b) (ha0 : 0 ≤ a) (hb0 : 0 ≤ b) (k : V X (pc + 1) ls (vI ((a.toNat &&& b.toNat : Nat) : Int) :: st) σ) : V X pc ls (vI b :: vI a :: st) σ := by
  obtain ⟨p, l, e, R, s, m, args, below, meth, c, G, nL, ck, sk, Q⟩ := X
  obtain ⟨hx, hb, hml, hown, hlk, hts, hPK, hap, hck, hsk⟩ := C
  intro hR H locs sl hP hS hL
  refine lv_iand hx hb d ?_
  rw [oi_and ha hb1 ha0 hb0]
  exact k hR H locs sl hP hS hL

theorem V_ior {a b : Int} (C : Cx X cc own) (d : decode cc pc = .ok (.ior, 1))  (ha : inR a) (hb1 : inR b) (ha0 : 0 ≤ a) (hb0 : 0 ≤ b) (k : V X (pc + 1) ls (vI ((a.toNat ||| b.toNat : Nat) : Int) :: st) σ) : V X pc ls (vI b :: vI a :: st) σ := by
  obtain ⟨p, l, e, R, s, m, args, below, meth, c, G, nL, ck, sk, Q⟩ := X
  obtain ⟨hx, hb, hml, hown, hlk, hts, hPK, hap, hck, hsk⟩ := C
  intro hR H locs sl hP hS hL
  refine lv_ior hx hb d ?_
  rw [oi_or ha hb1 ha0 hb0]
  exact k hR H locs sl hP hS hL

theorem V_ixm1 {a : Int} (C : Cx X cc own) (d : decode cc pc = .ok (.ixor, 1))  (k : V X (pc + 1) ls (vI (-1 - a) :: st) σ) : V X pc ls (vI (-1) :: vI a :: st) σ := by
  obtain ⟨p, l, e, R, s, m, args, below, meth, c, G, nL, ck, sk, Q⟩ := X
  obtain ⟨hx, hb, hml, hown, hlk, hts, hPK, hap, hck, hsk⟩ := C
  intro hR H locs sl hP hS hL
  refine lv_ixor hx hb d ?_
  rw [oi_not]
  exact k hR H locs sl hP hS hL

theorem V_iandn {a b : Int} (C : Cx X cc own) (d : decode cc pc = .ok (.iand, 1))  (ha : inR a) (hb1 : inR b) (ha0 : 0 ≤ a) (hb0 : 0 ≤ b) (k : V X (pc + 1) ls (vI ((a.toNat - (a.toNat &&& b.toNat) : Nat) : Int) :: st) σ) : V X pc ls (vI (-1 - b) :: vI a :: st) σ := by
  obtain ⟨p, l, e, R, s, m, args, below, meth, c, G, nL, ck, sk, Q⟩ := X
  obtain ⟨hx, hb, hml, hown, hlk, hts, hPK, hap, hck, hsk⟩ := C
  intro hR H locs sl hP hS hL
  refine lv_iand hx hb d ?_
  rw [oi_andn ha hb1 ha0 hb0]
  exact k hR H locs sl hP hS hL

theorem V_i2l {a : Int} (C : Cx X cc own) (d : decode cc pc = .ok (.i2l, 1))  (ha : inR a) (k : V X (pc + 1) ls (vL a :: st) σ) : V X pc ls (vI a :: st) σ := by
  obtain ⟨p, l, e, R, s, m, args, below, meth, c, G, nL, ck, sk, Q⟩ := X
  obtain ⟨hx, hb, hml, hown, hlk, hts, hPK, hap, hck, hsk⟩ := C
  intro hR H locs sl hP hS hL
  exact lv_i2l hx hb d (oi_i2l ha) (k hR H locs sl hP hS hL)

theorem V_l2i {a : Int} (C : Cx X cc own) (d : decode cc pc = .ok (.l2i, 1))  (k : V X (pc + 1) ls (vI a :: st) σ) : V X pc ls (vL a :: st) σ := by
  obtain ⟨p, l, e, R, s, m, args, below, meth, c, G, nL, ck, sk, Q⟩ := X
  obtain ⟨hx, hb, hml, hown, hlk, hts, hPK, hap, hck, hsk⟩ := C
  intro hR H locs sl hP hS hL
  exact lv_l2i hx hb d (oi_l2i a) (k hR H locs sl hP hS hL)

theorem V_i2c {a : Int} (C : Cx X cc own) (d : decode cc pc = .ok (.i2c, 1))  (h0 : 0 ≤ a) (h1 : a < 65536) (k : V X (pc + 1) ls (vI a :: st) σ) : V X pc ls (vI a :: st) σ := by
  obtain ⟨p, l, e, R, s, m, args, below, meth, c, G, nL, ck, sk, Q⟩ := X
  obtain ⟨hx, hb, hml, hown, hlk, hts, hPK, hap, hck, hsk⟩ := C
  intro hR H locs sl hP hS hL
  exact lv_i2c hx hb d (oi_i2c h0 h1) (k hR H locs sl hP hS hL)

theorem V_lcmp {a b : Int} (C : Cx X cc own) (d : decode cc pc = .ok (.lcmp, 1))  (ha : inL a) (hb1 : inL b) (k : V X (pc + 1) ls (vI (if b < a then 1 else if a = b then 0 else -1) :: st) σ) : V X pc ls (vL b :: vL a :: st) σ := by
  obtain ⟨p, l, e, R, s, m, args, below, meth, c, G, nL, ck, sk, Q⟩ := X
  obtain ⟨hx, hb, hml, hown, hlk, hts, hPK, hap, hck, hsk⟩ := C
  intro hR H locs sl hP hS hL
  refine W.lcmp hx hb d ?_
  rw [oi_lcmp ha hb1]
  exact k hR H locs sl hP hS hL

theorem V_dupI {z : Int} (C : Cx X cc own) (d : decode cc pc = .ok (.dup, 1))  (k : V X (pc + 1) ls (vI z :: vI z :: st) σ) : V X pc ls (vI z :: st) σ := by
  obtain ⟨p, l, e, R, s, m, args, below, meth, c, G, nL, ck, sk, Q⟩ := X
  obtain ⟨hx, hb, hml, hown, hlk, hts, hPK, hap, hck, hsk⟩ := C
  intro hR H locs sl hP hS hL
  exact lv_dup hx hb d rfl (k hR H locs sl hP hS hL)

theorem V_dupR {z : Nat} (C : Cx X cc own) (d : decode cc pc = .ok (.dup, 1))  (k : V X (pc + 1) ls (vR z :: vR z :: st) σ) : V X pc ls (vR z :: st) σ := by
  obtain ⟨p, l, e, R, s, m, args, below, meth, c, G, nL, ck, sk, Q⟩ := X
  obtain ⟨hx, hb, hml, hown, hlk, hts, hPK, hap, hck, hsk⟩ := C
  intro hR H locs sl hP hS hL
  exact lv_dup hx hb d rfl (k hR H locs sl hP hS hL)

theorem V_popI {z : Int} (C : Cx X cc own) (d : decode cc pc = .ok (.pop, 1))  (k : V X (pc + 1) ls st σ) : V X pc ls (vI z :: st) σ := by
  obtain ⟨p, l, e, R, s, m, args, below, meth, c, G, nL, ck, sk, Q⟩ := X
  obtain ⟨hx, hb, hml, hown, hlk, hts, hPK, hap, hck, hsk⟩ := C
  intro hR H locs sl hP hS hL
  exact lv_pop hx hb d rfl (k hR H locs sl hP hS hL)

theorem V_dup2IR {z : Int} {o : Nat} (C : Cx X cc own) (d : decode cc pc = .ok (.dup2, 1))   (k : V X (pc + 1) ls (vI z :: vR o :: vI z :: vR o :: st) σ) : V X pc ls (vI z :: vR o :: st) σ := by
  obtain ⟨p, l, e, R, s, m, args, below, meth, c, G, nL, ck, sk, Q⟩ := X
  obtain ⟨hx, hb, hml, hown, hlk, hts, hPK, hap, hck, hsk⟩ := C
  intro hR H locs sl hP hS hL
  exact lv_dup2_11 hx hb d rfl rfl (k hR H locs sl hP hS hL)

theorem V_ifeq (C : Cx X cc own) {off : Int} (d : decode cc pc = .ok (.ifCond .eq off, 3)) (tgt : Nat) (ht : (pc : Int) + off = (tgt : Int)) {a : Int} (ha : inR a) (kt : (a = 0) → V X tgt ls st σ) (kf : ¬ (a = 0) → V X (pc + 3) ls st σ) : V X pc ls (vI a :: st) σ := by
  obtain ⟨p, l, e, R, s, m, args, below, meth, c, G, nL, ck, sk, Q⟩ := X
  obtain ⟨hx, hb, hml, hown, hlk, hts, hPK, hap, hck, hsk⟩ := C
  intro hR H locs sl hP hS hL
  exact lv_if_eq hx hb d ht (fun h => kt ((oi_eq ha R0).mp h) hR H locs sl hP hS hL) (fun h => kf (fun q => h ((oi_eq ha R0).mpr q)) hR H locs sl hP hS hL)

theorem V_ifne (C : Cx X cc own) {off : Int} (d : decode cc pc = .ok (.ifCond .ne off, 3)) (tgt : Nat) (ht : (pc : Int) + off = (tgt : Int)) {a : Int} (ha : inR a) (kt : ¬ (a = 0) → V X tgt ls st σ) (kf : (a = 0) → V X (pc + 3) ls st σ) : V X pc ls (vI a :: st) σ := by
  obtain ⟨p, l, e, R, s, m, args, below, meth, c, G, nL, ck, sk, Q⟩ := X
  obtain ⟨hx, hb, hml, hown, hlk, hts, hPK, hap, hck, hsk⟩ := C
  intro hR H locs sl hP hS hL
  exact lv_if_ne hx hb d ht (fun h => kt (fun q => h ((oi_eq ha R0).mpr q)) hR H locs sl hP hS hL) (fun h => kf ((oi_eq ha R0).mp h) hR H locs sl hP hS hL)

theorem V_iflt (C : Cx X cc own) {off : Int} (d : decode cc pc = .ok (.ifCond .lt off, 3)) (tgt : Nat) (ht : (pc : Int) + off = (tgt : Int)) {a : Int} (ha : inR a) (kt : (a < 0) → V X tgt ls st σ) (kf : ¬ (a < 0) → V X (pc + 3) ls st σ) : V X pc ls (vI a :: st) σ := by
  obtain ⟨p, l, e, R, s, m, args, below, meth, c, G, nL, ck, sk, Q⟩ := X
  obtain ⟨hx, hb, hml, hown, hlk, hts, hPK, hap, hck, hsk⟩ := C
  intro hR H locs sl hP hS hL
  exact lv_if_lt hx hb d ht (fun h => kt ((oi_lt ha R0).mp h) hR H locs sl hP hS hL) (fun h => kf (fun q => h ((oi_lt ha R0).mpr q)) hR H locs sl hP hS hL)

theorem V_ifge (C : Cx X cc own) {off : Int} (d : decode cc pc = .ok (.ifCond .ge off, 3)) (tgt : Nat) (ht : (pc : Int) + off = (tgt : Int)) {a : Int} (ha : inR a) (kt : (0 ≤ a) → V X tgt ls st σ) (kf : ¬ (0 ≤ a) → V X (pc + 3) ls st σ) : V X pc ls (vI a :: st) σ := by
  obtain ⟨p, l, e, R, s, m, args, below, meth, c, G, nL, ck, sk, Q⟩ := X
  obtain ⟨hx, hb, hml, hown, hlk, hts, hPK, hap, hck, hsk⟩ := C
  intro hR H locs sl hP hS hL
  exact lv_if_ge hx hb d ht (fun h => kt ((oi_le R0 ha).mp h) hR H locs sl hP hS hL) (fun h => kf (fun q => h ((oi_le R0 ha).mpr q)) hR H locs sl hP hS hL)

theorem V_ifgt (C : Cx X cc own) {off : Int} (d : decode cc pc = .ok (.ifCond .gt off, 3)) (tgt : Nat) (ht : (pc : Int) + off = (tgt : Int)) {a : Int} (ha : inR a) (kt : (0 < a) → V X tgt ls st σ) (kf : ¬ (0 < a) → V X (pc + 3) ls st σ) : V X pc ls (vI a :: st) σ := by
  obtain ⟨p, l, e, R, s, m, args, below, meth, c, G, nL, ck, sk, Q⟩ := X
  obtain ⟨hx, hb, hml, hown, hlk, hts, hPK, hap, hck, hsk⟩ := C
  intro hR H locs sl hP hS hL
  exact lv_if_gt hx hb d ht (fun h => kt ((oi_lt R0 ha).mp h) hR H locs sl hP hS hL) (fun h => kf (fun q => h ((oi_lt R0 ha).mpr q)) hR H locs sl hP hS hL)

theorem V_ifle (C : Cx X cc own) {off : Int} (d : decode cc pc = .ok (.ifCond .le off, 3)) (tgt : Nat) (ht : (pc : Int) + off = (tgt : Int)) {a : Int} (ha : inR a) (kt : (a ≤ 0) → V X tgt ls st σ) (kf : ¬ (a ≤ 0) → V X (pc + 3) ls st σ) : V X pc ls (vI a :: st) σ := by
  obtain ⟨p, l, e, R, s, m, args, below, meth, c, G, nL, ck, sk, Q⟩ := X
  obtain ⟨hx, hb, hml, hown, hlk, hts, hPK, hap, hck, hsk⟩ := C
  intro hR H locs sl hP hS hL
  exact lv_if_le hx hb d ht (fun h => kt ((oi_le ha R0).mp h) hR H locs sl hP hS hL) (fun h => kf (fun q => h ((oi_le ha R0).mpr q)) hR H locs sl hP hS hL)

theorem V_icmpeq (C : Cx X cc own) {off : Int} (d : decode cc pc = .ok (.if_icmp .eq off, 3)) (tgt : Nat) (ht : (pc : Int) + off = (tgt : Int)) {a b : Int} (ha : inR a) (hb1 : inR b) (kt : (a = b) → V X tgt ls st σ) (kf : ¬ (a = b) → V X (pc + 3) ls st σ) : V X pc ls (vI b :: vI a :: st) σ := by
  obtain ⟨p, l, e, R, s, m, args, below, meth, c, G, nL, ck, sk, Q⟩ := X
  obtain ⟨hx, hb, hml, hown, hlk, hts, hPK, hap, hck, hsk⟩ := C
  intro hR H locs sl hP hS hL
  exact lv_icmp_eq hx hb d ht (fun h => kt ((oi_eq ha hb1).mp h) hR H locs sl hP hS hL) (fun h => kf (fun q => h ((oi_eq ha hb1).mpr q)) hR H locs sl hP hS hL)

theorem V_icmpne (C : Cx X cc own) {off : Int} (d : decode cc pc = .ok (.if_icmp .ne off, 3)) (tgt : Nat) (ht : (pc : Int) + off = (tgt : Int)) {a b : Int} (ha : inR a) (hb1 : inR b) (kt : ¬ (a = b) → V X tgt ls st σ) (kf : (a = b) → V X (pc + 3) ls st σ) : V X pc ls (vI b :: vI a :: st) σ := by
  obtain ⟨p, l, e, R, s, m, args, below, meth, c, G, nL, ck, sk, Q⟩ := X
  obtain ⟨hx, hb, hml, hown, hlk, hts, hPK, hap, hck, hsk⟩ := C
  intro hR H locs sl hP hS hL
  exact lv_icmp_ne hx hb d ht (fun h => kt (fun q => h ((oi_eq ha hb1).mpr q)) hR H locs sl hP hS hL) (fun h => kf ((oi_eq ha hb1).mp h) hR H locs sl hP hS hL)

theorem V_icmplt (C : Cx X cc own) {off : Int} (d : decode cc pc = .ok (.if_icmp .lt off, 3)) (tgt : Nat) (ht : (pc : Int) + off = (tgt : Int)) {a b : Int} (ha : inR a) (hb1 : inR b) (kt : (a < b) → V X tgt ls st σ) (kf : ¬ (a < b) → V X (pc + 3) ls st σ) : V X pc ls (vI b :: vI a :: st) σ := by
  obtain ⟨p, l, e, R, s, m, args, below, meth, c, G, nL, ck, sk, Q⟩ := X
  obtain ⟨hx, hb, hml, hown, hlk, hts, hPK, hap, hck, hsk⟩ := C
  intro hR H locs sl hP hS hL
  exact lv_icmp_lt hx hb d ht (fun h => kt ((oi_lt ha hb1).mp h) hR H locs sl hP hS hL) (fun h => kf (fun q => h ((oi_lt ha hb1).mpr q)) hR H locs sl hP hS hL)

theorem V_icmpge (C : Cx X cc own) {off : Int} (d : decode cc pc = .ok (.if_icmp .ge off, 3)) (tgt : Nat) (ht : (pc : Int) + off = (tgt : Int)) {a b : Int} (ha : inR a) (hb1 : inR b) (kt : (b ≤ a) → V X tgt ls st σ) (kf : ¬ (b ≤ a) → V X (pc + 3) ls st σ) : V X pc ls (vI b :: vI a :: st) σ := by
  obtain ⟨p, l, e, R, s, m, args, below, meth, c, G, nL, ck, sk, Q⟩ := X
  obtain ⟨hx, hb, hml, hown, hlk, hts, hPK, hap, hck, hsk⟩ := C
  intro hR H locs sl hP hS hL
  exact lv_icmp_ge hx hb d ht (fun h => kt ((oi_le hb1 ha).mp h) hR H locs sl hP hS hL) (fun h => kf (fun q => h ((oi_le hb1 ha).mpr q)) hR H locs sl hP hS hL)

theorem V_icmpgt (C : Cx X cc own) {off : Int} (d : decode cc pc = .ok (.if_icmp .gt off, 3)) (tgt : Nat) (ht : (pc : Int) + off = (tgt : Int)) {a b : Int} (ha : inR a) (hb1 : inR b) (kt : (b < a) → V X tgt ls st σ) (kf : ¬ (b < a) → V X (pc + 3) ls st σ) : V X pc ls (vI b :: vI a :: st) σ := by
  obtain ⟨p, l, e, R, s, m, args, below, meth, c, G, nL, ck, sk, Q⟩ := X
  obtain ⟨hx, hb, hml, hown, hlk, hts, hPK, hap, hck, hsk⟩ := C
  intro hR H locs sl hP hS hL
  exact lv_icmp_gt hx hb d ht (fun h => kt ((oi_lt hb1 ha).mp h) hR H locs sl hP hS hL) (fun h => kf (fun q => h ((oi_lt hb1 ha).mpr q)) hR H locs sl hP hS hL)

theorem V_icmple (C : Cx X cc own) {off : Int} (d : decode cc pc = .ok (.if_icmp .le off, 3)) (tgt : Nat) (ht : (pc : Int) + off = (tgt : Int)) {a b : Int} (ha : inR a) (hb1 : inR b) (kt : (a ≤ b) → V X tgt ls st σ) (kf : ¬ (a ≤ b) → V X (pc + 3) ls st σ) : V X pc ls (vI b :: vI a :: st) σ := by
  obtain ⟨p, l, e, R, s, m, args, below, meth, c, G, nL, ck, sk, Q⟩ := X
  obtain ⟨hx, hb, hml, hown, hlk, hts, hPK, hap, hck, hsk⟩ := C
  intro hR H locs sl hP hS hL
  exact lv_icmp_le hx hb d ht (fun h => kt ((oi_le ha hb1).mp h) hR H locs sl hP hS hL) (fun h => kf (fun q => h ((oi_le ha hb1).mpr q)) hR H locs sl hP hS hL)

theorem V_goto (C : Cx X cc own) {off : Int} (d : decode cc pc = .ok (.goto off, 3)) (tgt : Nat) (ht : (pc : Int) + off = (tgt : Int)) (k : V X tgt ls st σ) : V X pc ls st σ := by
  obtain ⟨p, l, e, R, s, m, args, below, meth, c, G, nL, ck, sk, Q⟩ := X
  obtain ⟨hx, hb, hml, hown, hlk, hts, hPK, hap, hck, hsk⟩ := C
  intro hR H locs sl hP hS hL
  exact lv_goto hx hb d ht (k hR H locs sl hP hS hL)

theorem V_ifnonnull (C : Cx X cc own) {off : Int} {o : Nat} (d : decode cc pc = .ok (.ifnonnull off, 3)) (tgt : Nat) (ht : (pc : Int) + off = (tgt : Int)) (k : V X tgt ls st σ) : V X pc ls (vR o :: st) σ := by
  obtain ⟨p, l, e, R, s, m, args, below, meth, c, G, nL, ck, sk, Q⟩ := X
  obtain ⟨hx, hb, hml, hown, hlk, hts, hPK, hap, hck, hsk⟩ := C
  intro hR H locs sl hP hS hL
  exact lv_ifnonnull hx hb d ht (k hR H locs sl hP hS hL)

theorem V_switch (C : Cx X cc own) {dflt lo hi : Int} {offs : Array Int} {len : Nat} {a : Int} (d : decode cc pc = .ok (.tableswitch dflt lo hi offs, len)) (ha : inR a)
    (ko : a < lo ∨ hi < a → ∀ tgt : Nat, (pc : Int) + dflt = (tgt : Int) → V X tgt ls st σ) (dt : ∃ tgt : Nat, (pc : Int) + dflt = (tgt : Int))
    (ki : ¬ a < lo → ¬ hi < a → ∃ (off : Int) (tgt : Nat), offs[(a - lo).toNat]? = some off ∧ (pc : Int) + off = (tgt : Int) ∧ V X tgt ls st σ) : V X pc ls (vI a :: st) σ := by
  obtain ⟨p, l, e, R, s, m, args, below, meth, c, G, nL, ck, sk, Q⟩ := X
  obtain ⟨hx, hb, hml, hown, hlk, hts, hPK, hap, hck, hsk⟩ := C
  intro hR H locs sl hP hS hL
  by_cases h : a < lo ∨ hi < a
  · obtain ⟨tgt, ht⟩ := dt
    exact lv_tableOut hx hb d (by rw [oi_toInt ha]; exact h) ht (ko h tgt ht hR H locs sl hP hS hL)
  · obtain ⟨off, tgt, h1, h2, h3⟩ := ki (fun q => h (Or.inl q)) (fun q => h (Or.inr q))
    exact lv_tableIn hx hb d (by rw [oi_toInt ha]; exact fun q => h (Or.inl q)) (by rw [oi_toInt ha]; exact fun q => h (Or.inr q)) (by rw [oi_toInt ha]; exact h1) h2 (h3 hR H locs sl hP hS hL)

theorem V_lookup (C : Cx X cc own) {dflt : Int} {ps : Array (Int × Int)} {len : Nat} {a : Int} (d : decode cc pc = .ok (.lookupswitch dflt ps, len)) (hp : (ps.toList.zip (ps.toList.drop 1)).all (fun (a, next) => a.1 < next.1) = true) (ha : inR a)
    (k : ∃ (off : Int) (tgt : Nat), Op.lookupswitch.offset ps.toList dflt a = off ∧ (pc : Int) + off = (tgt : Int) ∧ V X tgt ls st σ) : V X pc ls (vI a :: st) σ := by
  obtain ⟨p, l, e, R, s, m, args, below, meth, c, G, nL, ck, sk, Q⟩ := X
  obtain ⟨hx, hb, hml, hown, hlk, hts, hPK, hap, hck, hsk⟩ := C
  intro hR H locs sl hP hS hL
  obtain ⟨off, tgt, h1, h2, h3⟩ := k
  exact lv_lookup hx hb d hp (by rw [oi_toInt ha]; exact h1) h2 (h3 hR H locs sl hP hS hL)

theorem ent_obj (G : GE) (σ : Wd) {o ci : Nat} (hk : kd o = ci) (hc : ci < 1000) : ent G σ o = .inr (ci, fsl G σ o 0 (flds ci)) := by
  unfold ent; rw [hk, if_pos hc]
theorem ent_int (G : GE) (σ : Wd) {o n : Nat} (hk : kd o = 1000 + n) (hn : n < 1000) : ent G σ o = .inl (gI G, n, .inl (fun j => Int32.ofInt (σ o (j : Int)))) := by
  unfold ent; rw [hk, if_neg (by omega), if_pos (by omega), show 1000 + n - 1000 = n by omega]
theorem ent_chr (G : GE) (σ : Wd) {o n : Nat} (hk : kd o = 2000 + n) (hn : n < 1000) : ent G σ o = .inl (gC G, n, .inl (fun j => Int32.ofInt (σ o (j : Int)))) := by
  unfold ent; rw [hk, if_neg (by omega), if_neg (by omega), if_pos (by omega), show 2000 + n - 2000 = n by omega]
theorem ent_ring (G : GE) (σ : Wd) {o : Nat} (hk : kd o = 3000) : ent G σ o = .inl (gS G, 8, .inr (.inr (.inr (.inr (fun j => some (gA G (o + 1 + 5 * j))))))) := by
  unfold ent; rw [hk, if_neg (by omega), if_neg (by omega), if_neg (by omega)]
theorem V_getv (C : Cx X cc own) {index ci j dd o : Nat} (d : decode cc pc = .ok (.getfield index, 3)) (fl : FL own index ci j) (hk : kd o = ci) (hc : ci < 1000) (hf : (flds ci)[j]? = some dd) {v : AV} (hv : ∀ G, fvl G σ o j dd = cv G v) (k : V X (pc + 3) ls (v :: st) σ) : V X pc ls (vR o :: st) σ := by
  obtain ⟨p, l, e, R, s, m, args, below, meth, c, G, nL, ck, sk, Q⟩ := X
  obtain ⟨hx, hb, hml, hown, hlk, hts, hPK, hap, hck, hsk⟩ := C
  intro hR H locs sl hP hS hL
  obtain ⟨Cn, Tn, N, ty, h1, h2, h3, h4, h5, h6⟩ := fl
  have hko : o < NO := kd_lt hk (by omega)
  have he : (wsO G σ)[o]? = some (gA G o, .inr (ci, fsl G σ o 0 (flds ci))) := by rw [wsO_at G σ hko, ent_obj G σ hk hc]
  have hfs : (fsl G σ o 0 (flds ci))[j]? = some (cv G v) := by rw [fsl_at G σ o (flds ci) 0 j dd hf, Nat.zero_add, hv G]
  rcases h6 with h6 | ⟨host, h6⟩
  · exact va_get hx hb hts h2 hown hPK.1 hP o he h1 j h5 (hts _ h6) (fun _ q => q) hfs d (k hR H locs sl hP hS hL)
  · exact va_getN hx hb hts h2 hown hPK.1 hP o he h1 j h5 (va_Nw.use (by rfl) (hPK.2 _ h6)) (fun _ q => q) hfs d (k hR H locs sl hP hS hL)
theorem V_geti (C : Cx X cc own) {index ci j o : Nat} {ji : Int} (d : decode cc pc = .ok (.getfield index, 3)) (fl : FL own index ci j) (hk : kd o = ci) (hc : ci < 1000) (hf : (flds ci)[j]? = some 0) (hj : (j : Int) = ji) (k : V X (pc + 3) ls (vI (σ o ji) :: st) σ) : V X pc ls (vR o :: st) σ :=
  V_getv C d fl hk hc hf (v := vI (σ o ji)) (fun G => by unfold fvl; rw [if_pos rfl, hj]; rfl) k
theorem V_getr (C : Cx X cc own) {index ci j o dd o2 : Nat} (d : decode cc pc = .ok (.getfield index, 3)) (fl : FL own index ci j) (hk : kd o = ci) (hc : ci < 1000) (hf : (flds ci)[j]? = some dd) (hd : dd ≠ 0 ∧ dd ≠ 9999) (ho : o + dd = o2) (k : V X (pc + 3) ls (vR o2 :: st) σ) : V X pc ls (vR o :: st) σ :=
  V_getv C d fl hk hc hf (v := vR o2) (fun G => by unfold fvl; rw [if_neg hd.1, if_neg hd.2, ho]; rfl) k
theorem V_getm (C : Cx X cc own) {index ci j o o2 : Nat} (d : decode cc pc = .ok (.getfield index, 3)) (fl : FL own index ci j) (hk : kd o = ci) (hc : ci < 1000) (hf : (flds ci)[j]? = some 9999) (ho : (σ o (j : Int)).toNat = o2) (k : V X (pc + 3) ls (vR o2 :: st) σ) : V X pc ls (vR o :: st) σ :=
  V_getv C d fl hk hc hf (v := vR o2) (fun G => by unfold fvl; rw [if_neg (by decide), if_pos rfl, ho]; rfl) k
theorem V_putv (C : Cx X cc own) {index ci j dd o : Nat} {x : Int} {t0 : FieldType} (d : decode cc pc = .ok (.putfield index, 3)) (fl : FL own index ci j) (fw : FW ci j t0) (hk : kd o = ci) (hc : ci < 1000) (hf : (flds ci)[j]? = some dd) (hx0 : inR x) {v : AV} (hv : ∀ G, fvl G (up σ o (j : Int) x) o j dd = cv G v) (hn : ∀ G, narrow t0 (cv G v) = cv G v ∧ fits t0 (cv G v) = true) (k : V X (pc + 3) ls st (up σ o (j : Int) x)) : V X pc ls (v :: vR o :: st) σ := by
  obtain ⟨p, l, e, R, s, m, args, below, meth, c, G, nL, ck, sk, Q⟩ := X
  obtain ⟨hx, hb, hml, hown, hlk, hts, hPK, hap, hck, hsk⟩ := C
  intro hR H locs sl hP hS hL
  obtain ⟨Cn, Tn, N, ty, h1, h2, h3, h4, h5, h6⟩ := fl
  obtain ⟨f1, f2⟩ := fw _ _ _ h1
  have hko : o < NO := kd_lt hk (by omega)
  have he : (wsO G σ)[o]? = some (gA G o, .inr (ci, fsl G σ o 0 (flds ci))) := by rw [wsO_at G σ hko, ent_obj G σ hk hc]
  have hlt : j < (fsl G σ o 0 (flds ci)).length := by rw [fsl_len]; exact (List.getElem?_eq_some_iff.mp hf).1
  have hset : (wsO G σ).set o (gA G o, .inr (ci, (fsl G σ o 0 (flds ci)).set j (cv G v))) = wsO G (up σ o (j : Int) x) := by
    refine wsO_set G σ _ hko ?_ (fun q hq => ent_up_ne G σ o _ x q hq)
    rw [ent_obj G _ hk hc]
    have := fsl_up G σ o x (flds ci) 0 j dd hf
    rw [Nat.zero_add] at this
    rw [this, hv G]
  rcases h6 with h6 | ⟨host, h6⟩
  · refine va_put hx hb hts h2 ty h3 h4 hown hPK.1 hP (apart_D hap σ) hS o he h1 j h5 (hts _ h6) (fun _ q => q) f1 f2 (hn G).1 (hn G).2 hlt d (fun H1 locs1 hP1 hD1 hS1 => ?_)
    rw [hset] at hP1
    exact k (up_R hR hx0) H1 locs1 sl hP1 hS1 hL
  · refine va_putN hx hb hts h2 ty h3 h4 hown hPK.1 hP (apart_D hap σ) hS o he h1 j h5 (va_Nw.use (by rfl) (hPK.2 _ h6)) (fun _ q => q) f1 f2 (hn G).1 (hn G).2 hlt d (fun H1 locs1 hP1 hD1 hS1 => ?_)
    rw [hset] at hP1
    exact k (up_R hR hx0) H1 locs1 sl hP1 hS1 hL
theorem up_at (σ : Wd) (o : Nat) (i x : Int) : up σ o i x o i = x := by unfold up; rw [if_pos ⟨rfl, rfl⟩]
theorem V_puti (C : Cx X cc own) {index ci j o : Nat} {ji x : Int} (d : decode cc pc = .ok (.putfield index, 3)) (fl : FL own index ci j) (fw : FW ci j .int) (hk : kd o = ci) (hc : ci < 1000) (hf : (flds ci)[j]? = some 0) (hj : (j : Int) = ji) (hx0 : inR x) (k : V X (pc + 3) ls st (up σ o ji x)) : V X pc ls (vI x :: vR o :: st) σ := by
  subst hj
  exact V_putv C d fl fw hk hc hf hx0 (v := vI x) (fun G => by unfold fvl; rw [if_pos rfl, up_at]; rfl) (fun G => ⟨rfl, rfl⟩) k
theorem V_putm (C : Cx X cc own) {index ci j o o2 : Nat} {n : String} (d : decode cc pc = .ok (.putfield index, 3)) (fl : FL own index ci j) (fw : FW ci j (.object n)) (hk : kd o = ci) (hc : ci < 1000) (hf : (flds ci)[j]? = some 9999) (ho : o2 < 2147483648) (k : V X (pc + 3) ls st (up σ o (j : Int) (o2 : Int))) : V X pc ls (vR o2 :: vR o :: st) σ :=
  V_putv C d fl fw hk hc hf (x := (o2 : Int)) ⟨by omega, by omega⟩ (v := vR o2) (fun G => by unfold fvl; rw [if_neg (by decide), if_pos rfl, up_at, Int.toNat_natCast]; rfl) (fun G => ⟨rfl, rfl⟩) k

theorem V_iald (C : Cx X cc own) (d : decode cc pc = .ok (.iaload, 1)) {o n : Nat} {i : Int} (hk : kd o = 1000 + n) (hn : n < 1000) (h0 : 0 ≤ i) (h1 : i < n) (k : V X (pc + 1) ls (vI (σ o i) :: st) σ) : V X pc ls (vI i :: vR o :: st) σ := by
  obtain ⟨p, l, e, R, s, m, args, below, meth, c, G, nL, ck, sk, Q⟩ := X
  obtain ⟨hx, hb, hml, hown, hlk, hts, hPK, hap, hck, hsk⟩ := C
  intro hR H locs sl hP hS hL
  have hko : o < NO := kd_lt hk (by omega)
  have he : (wsO G σ)[o]? = some (gA G o, .inl (gI G, n, .inl (fun j => Int32.ofInt (σ o (j : Int))))) := by rw [wsO_at G σ hko, ent_int G σ hk hn]
  refine va_iald hx hb hPK.1 hP o 0 he rfl (oi_in h0 h1 (by omega)) d ?_
  rw [oi_nat h0 ⟨by omega, by omega⟩, Int.toNat_of_nonneg h0]
  exact k hR H locs sl hP hS hL
theorem V_cald (C : Cx X cc own) (d : decode cc pc = .ok (.caload, 1)) {o n : Nat} {i : Int} (hk : kd o = 2000 + n) (hn : n < 1000) (h0 : 0 ≤ i) (h1 : i < n) (k : V X (pc + 1) ls (vI (σ o i) :: st) σ) : V X pc ls (vI i :: vR o :: st) σ := by
  obtain ⟨p, l, e, R, s, m, args, below, meth, c, G, nL, ck, sk, Q⟩ := X
  obtain ⟨hx, hb, hml, hown, hlk, hts, hPK, hap, hck, hsk⟩ := C
  intro hR H locs sl hP hS hL
  have hko : o < NO := kd_lt hk (by omega)
  have he : (wsO G σ)[o]? = some (gA G o, .inl (gC G, n, .inl (fun j => Int32.ofInt (σ o (j : Int))))) := by rw [wsO_at G σ hko, ent_chr G σ hk hn]
  refine va_cald hx hb hPK.1 hP o 1 he rfl (oi_in h0 h1 (by omega)) d ?_
  rw [oi_nat h0 ⟨by omega, by omega⟩, Int.toNat_of_nonneg h0]
  exact k hR H locs sl hP hS hL
theorem arr_up (σ : Wd) (o : Nat) {i : Int} (x : Int) (h0 : 0 ≤ i) : (fun j : Nat => Int32.ofInt (up σ o i x o (j : Int))) = upd (fun j : Nat => Int32.ofInt (σ o (j : Int))) i.toNat (Int32.ofInt x) := by
  funext j
  unfold up upd
  by_cases hj : (j : Int) = i
  · rw [if_pos ⟨rfl, hj⟩, if_pos (by omega)]
  · rw [if_neg (fun q => hj q.2), if_neg (by omega)]
theorem V_iast (C : Cx X cc own) (d : decode cc pc = .ok (.iastore, 1)) {o n : Nat} {i x : Int} (hk : kd o = 1000 + n) (hn : n < 1000) (h0 : 0 ≤ i) (h1 : i < n) (hx0 : inR x) (k : V X (pc + 1) ls st (up σ o i x)) : V X pc ls (vI x :: vI i :: vR o :: st) σ := by
  obtain ⟨p, l, e, R, s, m, args, below, meth, c, G, nL, ck, sk, Q⟩ := X
  obtain ⟨hx, hb, hml, hown, hlk, hts, hPK, hap, hck, hsk⟩ := C
  intro hR H locs sl hP hS hL
  have hko : o < NO := kd_lt hk (by omega)
  have he : (wsO G σ)[o]? = some (gA G o, .inl (gI G, n, .inl (fun j => Int32.ofInt (σ o (j : Int))))) := by rw [wsO_at G σ hko, ent_int G σ hk hn]
  refine va_iast hx hb hPK.1 hP (apart_D hap σ) hS o 0 he rfl (oi_in h0 h1 (by omega)) d (fun H1 locs1 hP1 hD1 hS1 => ?_)
  rw [oi_nat h0 ⟨by omega, by omega⟩, ← arr_up σ o x h0, wsO_set G σ (up σ o i x) hko (ent_int G _ hk hn) (fun q hq => ent_up_ne G σ o _ x q hq)] at hP1
  exact k (up_R hR hx0) H1 locs1 sl hP1 hS1 hL
theorem V_cast (C : Cx X cc own) (d : decode cc pc = .ok (.castore, 1)) {o n : Nat} {i x : Int} (hk : kd o = 2000 + n) (hn : n < 1000) (h0 : 0 ≤ i) (h1 : i < n) (hx0 : 0 ≤ x) (hx1 : x < 65536) (k : V X (pc + 1) ls st (up σ o i x)) : V X pc ls (vI x :: vI i :: vR o :: st) σ := by
  obtain ⟨p, l, e, R, s, m, args, below, meth, c, G, nL, ck, sk, Q⟩ := X
  obtain ⟨hx, hb, hml, hown, hlk, hts, hPK, hap, hck, hsk⟩ := C
  intro hR H locs sl hP hS hL
  have hko : o < NO := kd_lt hk (by omega)
  have he : (wsO G σ)[o]? = some (gA G o, .inl (gC G, n, .inl (fun j => Int32.ofInt (σ o (j : Int))))) := by rw [wsO_at G σ hko, ent_chr G σ hk hn]
  refine va_cast hx hb hPK.1 hP (apart_D hap σ) hS o 1 he rfl (oi_in h0 h1 (by omega)) d (fun H1 locs1 hP1 hD1 hS1 => ?_)
  rw [oi_nar hx0 hx1, oi_nat h0 ⟨by omega, by omega⟩, ← arr_up σ o x h0, wsO_set G σ (up σ o i x) hko (ent_chr G _ hk hn) (fun q hq => ent_up_ne G σ o _ x q hq)] at hP1
  exact k (up_R hR ⟨by omega, by omega⟩) H1 locs1 sl hP1 hS1 hL
theorem V_aald (C : Cx X cc own) (d : decode cc pc = .ok (.aaload, 1)) {o o2 : Nat} {i : Int} (hk : kd o = 3000) (h0 : 0 ≤ i) (h1 : i < 8) (ho : o + 1 + 5 * i.toNat = o2) (k : V X (pc + 1) ls (vR o2 :: st) σ) : V X pc ls (vI i :: vR o :: st) σ := by
  obtain ⟨p, l, e, R, s, m, args, below, meth, c, G, nL, ck, sk, Q⟩ := X
  obtain ⟨hx, hb, hml, hown, hlk, hts, hPK, hap, hck, hsk⟩ := C
  intro hR H locs sl hP hS hL
  have hko : o < NO := kd_lt hk (by omega)
  have he : (wsO G σ)[o]? = some (gA G o, .inl (gS G, 8, .inr (.inr (.inr (.inr (fun j => some (gA G (o + 1 + 5 * j)))))))) := by rw [wsO_at G σ hko, ent_ring G σ hk]
  refine va_aldq hx hb hPK.1 hP o 2 he rfl (oi_in h0 h1 (by omega)) d ?_
  rw [oi_nat h0 ⟨by omega, by omega⟩, ho]
  exact k hR H locs sl hP hS hL
theorem V_alen (C : Cx X cc own) (d : decode cc pc = .ok (.arraylength, 1)) {o n : Nat} {ni : Int} (hk : kd o = 1000 + n ∨ kd o = 2000 + n ∨ (kd o = 3000 ∧ n = 8)) (hn : n < 1000) (hi : (n : Int) = ni) (k : V X (pc + 1) ls (vI ni :: st) σ) : V X pc ls (vR o :: st) σ := by
  obtain ⟨p, l, e, R, s, m, args, below, meth, c, G, nL, ck, sk, Q⟩ := X
  obtain ⟨hx, hb, hml, hown, hlk, hts, hPK, hap, hck, hsk⟩ := C
  intro hR H locs sl hP hS hL
  subst hi
  have e : Int32.ofNat n = Int32.ofInt (n : Int) := (Int32.ofInt_eq_ofNat (n := n)).symm
  rcases hk with hk | hk | ⟨hk, rfl⟩
  · have he : (wsO G σ)[o]? = some (gA G o, .inl (gI G, n, .inl (fun j => Int32.ofInt (σ o (j : Int))))) := by rw [wsO_at G σ (kd_lt hk (by omega)), ent_int G σ hk hn]
    exact va_alen hx hb hPK.1 hP o 0 he rfl e d (k hR H locs sl hP hS hL)
  · have he : (wsO G σ)[o]? = some (gA G o, .inl (gC G, n, .inl (fun j => Int32.ofInt (σ o (j : Int))))) := by rw [wsO_at G σ (kd_lt hk (by omega)), ent_chr G σ hk hn]
    exact va_alen hx hb hPK.1 hP o 1 he rfl e d (k hR H locs sl hP hS hL)
  · have he : (wsO G σ)[o]? = some (gA G o, .inl (gS G, 8, .inr (.inr (.inr (.inr (fun j => some (gA G (o + 1 + 5 * j)))))))) := by rw [wsO_at G σ (kd_lt hk (by omega)), ent_ring G σ hk]
    exact va_alen hx hb hPK.1 hP o 2 he rfl e d (k hR H locs sl hP hS hL)

theorem V_iret (C : Cx X cc own) {fin : Option AV → Wd → Prop} {z : Int} (E : Ex X (some .int) fin) (d : decode cc pc = .ok (.ireturn, 1)) (h : fin (some (vI z)) σ) : V X pc ls [vI z] σ := by
  obtain ⟨p, l, e, R, s, m, args, below, meth, c, G, nL, ck, sk, Q⟩ := X
  obtain ⟨hx, hb, hml, hown, hlk, hts, hPK, hap, hck, hsk⟩ := C
  obtain ⟨hr, hQ⟩ := E
  subst hQ
  intro hR H locs sl hP hS hL
  exact W.iret (v := Int32.ofInt z) hx hb hr (fun t ht hW => ⟨⟨some (vI z), σ, rfl, h, hR, by rw [ht]; exact hP⟩, hS.F ht⟩) hS.2.2 d hlk

theorem V_zret (C : Cx X cc own) {fin : Option AV → Wd → Prop} {z : Int} (hz : z = 0 ∨ z = 1) (E : Ex X (some .boolean) fin) (d : decode cc pc = .ok (.ireturn, 1)) (h : fin (some (vI z)) σ) : V X pc ls [vI z] σ := by
  obtain ⟨p, l, e, R, s, m, args, below, meth, c, G, nL, ck, sk, Q⟩ := X
  obtain ⟨hx, hb, hml, hown, hlk, hts, hPK, hap, hck, hsk⟩ := C
  obtain ⟨hr, hQ⟩ := E
  subst hQ
  intro hR H locs sl hP hS hL
  exact W.zret (v := Int32.ofInt z) hx hb hr (by rcases hz with rfl | rfl <;> rfl) (fun t ht hW => ⟨⟨some (vI z), σ, rfl, h, hR, by rw [ht]; exact hP⟩, hS.F ht⟩) hS.2.2 d hlk

theorem V_cret (C : Cx X cc own) {fin : Option AV → Wd → Prop} {z : Int} (h0 : 0 ≤ z) (h1 : z < 65536) (E : Ex X (some .char) fin) (d : decode cc pc = .ok (.ireturn, 1)) (h : fin (some (vI z)) σ) : V X pc ls [vI z] σ := by
  obtain ⟨p, l, e, R, s, m, args, below, meth, c, G, nL, ck, sk, Q⟩ := X
  obtain ⟨hx, hb, hml, hown, hlk, hts, hPK, hap, hck, hsk⟩ := C
  obtain ⟨hr, hQ⟩ := E
  subst hQ
  intro hR H locs sl hP hS hL
  exact W.zret (v := Int32.ofInt z) hx hb hr (oi_narV h0 h1) (fun t ht hW => ⟨⟨some (vI z), σ, rfl, h, hR, by rw [ht]; exact hP⟩, hS.F ht⟩) hS.2.2 d hlk

theorem V_lret (C : Cx X cc own) {fin : Option AV → Wd → Prop} {z : Int} (E : Ex X (some .long) fin) (d : decode cc pc = .ok (.lreturn, 1)) (h : fin (some (vL z)) σ) : V X pc ls [vL z] σ := by
  obtain ⟨p, l, e, R, s, m, args, below, meth, c, G, nL, ck, sk, Q⟩ := X
  obtain ⟨hx, hb, hml, hown, hlk, hts, hPK, hap, hck, hsk⟩ := C
  obtain ⟨hr, hQ⟩ := E
  subst hQ
  intro hR H locs sl hP hS hL
  exact W.lret (v := Int64.ofInt z) hx hb hr (fun t ht hW => ⟨⟨some (vL z), σ, rfl, h, hR, by rw [ht]; exact hP⟩, hS.F ht⟩) hS.2.2 d hlk

theorem V_aret (C : Cx X cc own) {fin : Option AV → Wd → Prop} {o : Nat} {n : String} (E : Ex X (some (.object n)) fin) (d : decode cc pc = .ok (.areturn, 1)) (h : fin (some (vR o)) σ) : V X pc ls [vR o] σ := by
  obtain ⟨p, l, e, R, s, m, args, below, meth, c, G, nL, ck, sk, Q⟩ := X
  obtain ⟨hx, hb, hml, hown, hlk, hts, hPK, hap, hck, hsk⟩ := C
  obtain ⟨hr, hQ⟩ := E
  subst hQ
  intro hR H locs sl hP hS hL
  exact W.aret (v := .ref (gA G o)) hx hb hr (Or.inl ⟨_, rfl⟩) (Or.inr ⟨_, rfl⟩) (fun t ht hW => ⟨⟨some (vR o), σ, rfl, h, hR, by rw [ht]; exact hP⟩, hS.F ht⟩) hS.2.2 d hlk

theorem V_vret (C : Cx X cc own) {fin : Option AV → Wd → Prop}  (E : Ex X none fin) (d : decode cc pc = .ok (.return_, 1)) (h : fin none σ) : V X pc ls [] σ := by
  obtain ⟨p, l, e, R, s, m, args, below, meth, c, G, nL, ck, sk, Q⟩ := X
  obtain ⟨hx, hb, hml, hown, hlk, hts, hPK, hap, hck, hsk⟩ := C
  obtain ⟨hr, hQ⟩ := E
  subst hQ
  intro hR H locs sl hP hS hL
  exact W.vret hx hb hr (fun t ht hW => ⟨⟨none, σ, rfl, h, hR, by rw [ht]; exact hP⟩, hS.F ht⟩) hS.2.2 d hlk

end VR
/-! calls, and a contract out of a walk -/
theorem PK.moved {G : GE} {u U : State} (hW : u.WarmedH U.vm) (h : PK G u) : PK G U := by
  refine ⟨va_K.moved hW.alike h.1, fun wd hw => ?_⟩
  have hn : isNest wd = true := (List.mem_filter.mp hw).2
  have h0 := h.2 wd hw
  cases wd <;> first | exact va_Nw.warmF hW h0 | exact va_Nw.warmM hW h0 | cases hn
theorem PK.calling {G : GE} {U : State} (g : JFrame) (mk : MethodId) (a : Array Value) (h : PK G U) : PK G (U.calling g mk a) := by
  refine ⟨va_K.moved (u := U) (U := U.calling g mk a) (Vm.Alike.refl U.vm) h.1, fun wd hw => ?_⟩
  have hn : isNest wd = true := (List.mem_filter.mp hw).2
  have ho : wd.onTables = true := by cases wd <;> first | rfl | cases hn
  exact va_Nw.same (u := U) (U := U.calling g mk a) ho rfl (h.2 wd hw)
theorem gw_pay {s : State} {args : Array Value} (hts : ∀ wd ∈ gw, wd.before args s = true) {y : MethodName} {b : ByteArray} {nL : Nat} {ret : Option FieldType} (hc : Cond.code y b nL ret ∈ gw) : ∀ w ∈ (Cond.code y b nL ret :: gw), ∀ (a' : Array Value) (U : State), s.WarmedH U.vm → w.before a' U = true := by
  intro w hw a' U hW
  have hm : w ∈ gw := by
    rcases List.mem_cons.mp hw with h | h
    · rw [h]; exact hc
    · exact h
  exact word_at hW (gw_good hm) (hts w hm)
abbrev PcO (G : GE) (avs : List AV) (σ : Wd) : Array Value → State → Prop := va_Pc (avs.map (cv G)) (fun U => va_P (gD G) CL (wsO G σ) U.heap ∧ PK G U)
theorem PcO_blind (G : GE) (avs : List AV) (σ : Wd) : FrameBlind (PcO G avs σ) := by
  intro a U g mk h
  exact ⟨h.1, h.2.1, PK.calling g mk a h.2.2⟩
theorem V_after {p : Program} {l : Launch} {e : Env} {R : Room} {s : State} {m : MethodId} {args : Array Value} {below : List Frame} {meth : Method} {c : Code} {G : GE} {nL ck sk : Nat} {Q : State → Prop} {pc : Nat} {ls : List (Option AV)} {sl : Array Slot} {rest : List AV} {st0 : List Value} {fin : Option AV → Wd → Prop} {H : Heap} {locs : List Loc} {av : Array Value}
    (hr : va_Run p l e R s m args below meth c H locs ck sk 0 0 (F0 m pc sl st0) (rest.map (cv G)) (QcO G fin av) (AG G)) (hS : va_S (AG G) s.heap H locs) (hL : Lh G sl nL ls)
    (k : ∀ r σ', fin r σ' → V (p, l, e, R, s, m, args, below, meth, c, G, nL, ck, sk, Q) (pc + 3) ls (r.toList ++ rest) σ') : W p l e R s m args below meth c H locs ck sk Q (F0 m pc sl st0) := by
  intro T hT X
  obtain ⟨v, st₀, t, T', L, h0, X', hL', e1, e2, ⟨⟨r, σ', hv, hfin, hR', hP'⟩, hz, hkp⟩, stp⟩ := hr T hT X
  have hv : v = r.map (cv G) := by injection hv
  have hS' : va_S (AG G) s.heap T'.heap (locs ++ L) := by
    refine ⟨Nat.le_trans hS.1 (by rw [e1, ← h0]; exact hz), fun q h1 h2 => ?_, fun q hq => ?_⟩
    · rw [e1, hkp q (by rw [h0]; exact Nat.lt_of_lt_of_le h1 hS.1) h2, h0]; exact hS.2.1 q h1 h2
    · rcases List.mem_append.mp hq with h | h
      · exact hS.2.2 q h
      · exact hL' q h
  have hst : (r.toList ++ rest).map (cv G) = v.toList ++ rest.map (cv G) := by
    rw [hv]; cases r <;> simp
  have K := k r σ' hfin hR' T'.heap (locs ++ L) sl (by rw [e1]; exact hP') hS' hL
  rw [hst] at K
  obtain ⟨t2, a1, b1⟩ := K T' rfl X'
  exact ⟨t2, stp t2 a1, b1⟩
section VC
variable {X : KX} {cc : ByteArray} {own : String} {pc : Nat} {ls : List (Option AV)} {st : List AV} {σ : Wd}
theorem lv_room1 {n : Nat} {m : MethodId} {pc : Nat} {sl : Array Slot} {s2 : List Value} (h : n ≤ 8) : 2 * (F0 m pc sl s2).monitorRoom + n ≤ 8 := by
  have e : (F0 m pc sl s2).monitorRoom = 0 := rfl
  omega
theorem rm_sum {rest : List AV} {G : GE} {m : MethodId} {pc : Nat} {sl : Array Slot} {s2 : List Value} (h : (rest.map avc).sum ≤ 8) : 2 * (F0 m pc sl s2).monitorRoom + ((rest.map (cv G)).map fun v => v.category).sum ≤ 8 := by
  rw [cv_cats]; exact lv_room1 h
theorem V_callVg (C : Cx X cc own) {index nL2 n rF rL o ci N : Nat} {T : u_T} {y : MethodName} {b : ByteArray} {ret : Option FieldType} {as rest : List AV} {fin : Option AV → Wd → Prop} (d : decode cc pc = .ok (.invokevirtual index, 3)) (lk : LK own index y) (cm : CMs y b nL2 ret n) (vm : VM y) (hM : Ct (xL X) (xG X) y b nL2 ret rF rL (vR o :: as) σ fin)
    (hk : kd o = ci) (hcl : CL[ci]? = some (y.cls, T, N)) (hn : as.length = n) (hst : st = as.reverse ++ vR o :: rest) (hroom : (rest.map avc).sum ≤ 8) (hRm : Rm X (rF + 1) (8 + (nL2 + 11) + rL)) (k : ∀ r σ', fin r σ' → V X (pc + 3) ls (r.toList ++ rest) σ') : V X pc ls st σ := by
  subst hst
  obtain ⟨p, l, e, R, s, m, args, below, meth, c, G, nL, ck, sk, Q⟩ := X
  obtain ⟨hx, hb, hml, hown, hlk, hts, hPK, hap, hck, hsk⟩ := C
  intro hR H locs sl hP hS hL
  have hM := hM hap hR
  obtain ⟨c1, c2, c3, c4⟩ := cm
  obtain ⟨v1, v2⟩ := vm
  have hci : ci < 10 := (List.getElem?_eq_some_iff.mp hcl).1
  have hko : o < NO := kd_lt hk (by omega)
  have he : (wsO G σ)[o]? = some (gA G o, .inr (ci, fsl G σ o 0 (flds ci))) := by rw [wsO_at G σ hko, ent_obj G σ hk (by omega)]
  have hrecv := va_recv hPK.1 hP hcl he
  have hpay := gw_pay (nL := nL2) (ret := ret) hts c1
  have hlen : ∀ sig, parseMethodDescriptor y.desc = some sig → n = sig.parameters.length := by
    intro sig h
    have h2 := c3.2.2
    rw [h] at h2
    exact (Option.some.inj h2).symm
  have hp : PreV s H y.cls (gA G o) (PcO G (vR o :: as) σ) (as.map (cv G)) := ⟨PcO_blind _ _ _, hrecv, fun U hU hW => ⟨rfl, by rw [hU]; exact hP, hPK.moved hW⟩⟩
  have hstk : (F0 m pc sl ((as.reverse ++ vR o :: rest).map (cv G))).stack = (as.map (cv G)).reverse ++ .ref (gA G o) :: rest.map (cv G) := by
    show List.map _ _ = _
    rw [List.map_append, List.map_reverse]; rfl
  rcases lk with lk | ⟨host, lk⟩
  · exact V_after (va_runV (b := gA G o) (As := as.map (cv G)) (rest := rest.map (cv G)) ⟨hx, hb, hml, hown, hts⟩ hM ⟨⟨rfl, rfl, hRm.1, hRm.2, hpay, List.mem_cons_self, hts _ c1, hts _ c2, ⟨c3.1, c3.2.1⟩, hlen, hts _ lk⟩, hts _ v1, hts _ v2⟩ hp rfl (by rw [List.length_map]; exact hn) hL.1 hstk (rm_sum hroom) d ⟨hck, hsk⟩) hS hL k
  · exact V_after (va_runVN (b := gA G o) (As := as.map (cv G)) (rest := rest.map (cv G)) ⟨hx, hb, hml, hown, hts⟩ hM ⟨⟨⟨rfl, rfl, hRm.1, hRm.2, hpay, List.mem_cons_self⟩, hts _ c1, hts _ c2, ⟨c3.1, c3.2.1⟩, hlen, va_Nw.use (by rfl) (hPK.2 _ lk)⟩, hts _ v1, hts _ v2⟩ hp rfl (by rw [List.length_map]; exact hn) hL.1 hstk (rm_sum hroom) d ⟨hck, hsk⟩) hS hL k
theorem V_callSg (C : Cx X cc own) {index nL2 n rF rL : Nat} {y : MethodName} {b : ByteArray} {ret : Option FieldType} {as rest : List AV} {fin : Option AV → Wd → Prop} (d : decode cc pc = .ok (.invokestatic index, 3)) (lk : LK own index y) (cm : CMs y b nL2 ret n) (sm : SM y) (hM : Ct (xL X) (xG X) y b nL2 ret rF rL as σ fin)
    (hn : as.length = n) (hst : st = as.reverse ++ rest) (hroom : (rest.map avc).sum ≤ 8) (hRm : Rm X (rF + 1) (8 + (nL2 + 11) + rL)) (k : ∀ r σ', fin r σ' → V X (pc + 3) ls (r.toList ++ rest) σ') : V X pc ls st σ := by
  subst hst
  obtain ⟨p, l, e, R, s, m, args, below, meth, c, G, nL, ck, sk, Q⟩ := X
  obtain ⟨hx, hb, hml, hown, hlk, hts, hPK, hap, hck, hsk⟩ := C
  intro hR H locs sl hP hS hL
  have hM := hM hap hR
  obtain ⟨c1, c2, c3, c4⟩ := cm
  have hpay := gw_pay (nL := nL2) (ret := ret) hts c1
  have hlen : ∀ sig, parseMethodDescriptor y.desc = some sig → n = sig.parameters.length := by
    intro sig h
    have h2 := c3.2.2
    rw [h] at h2
    exact (Option.some.inj h2).symm
  have hp : PreS s H (PcO G as σ) (as.map (cv G)) := ⟨PcO_blind _ _ _, fun U hU hW => ⟨rfl, by rw [hU]; exact hP, hPK.moved hW⟩⟩
  have hstk : (F0 m pc sl ((as.reverse ++ rest).map (cv G))).stack = (as.map (cv G)).reverse ++ rest.map (cv G) := by
    show List.map _ _ = _
    rw [List.map_append, List.map_reverse]
  rcases lk with lk | ⟨host, lk⟩
  · exact V_after (va_runS (As := as.map (cv G)) (rest := rest.map (cv G)) ⟨hx, hb, hml, hown, hts⟩ hM ⟨⟨rfl, rfl, hRm.1, hRm.2, hpay, List.mem_cons_self, hts _ c1, hts _ c2, ⟨c3.1, c3.2.1⟩, hlen, hts _ lk⟩, hts _ sm⟩ hp rfl (by rw [List.length_map]; exact hn) hL.1 hstk (rm_sum hroom) d ⟨hck, hsk⟩) hS hL k
  · exact V_after (va_runSN (As := as.map (cv G)) (rest := rest.map (cv G)) ⟨hx, hb, hml, hown, hts⟩ hM ⟨⟨⟨rfl, rfl, hRm.1, hRm.2, hpay, List.mem_cons_self⟩, hts _ c1, hts _ c2, ⟨c3.1, c3.2.1⟩, hlen, va_Nw.use (by rfl) (hPK.2 _ lk)⟩, hts _ sm, trivial⟩ hp rfl (by rw [List.length_map]; exact hn) hL.1 hstk (rm_sum hroom) d ⟨hck, hsk⟩) hS hL k
/-- the answer and the world behind are these -/
abbrev Dt (r : Option AV) (σ : Wd) : Option AV → Wd → Prop := fun r' σ' => r' = r ∧ σ' = σ
theorem V_callV (C : Cx X cc own) {index nL2 n rF rL o ci N : Nat} {T : u_T} {y : MethodName} {b : ByteArray} {ret : Option FieldType} {as rest : List AV} {v : AV} {σ1 : Wd} (d : decode cc pc = .ok (.invokevirtual index, 3)) (lk : LK own index y) (cm : CMs y b nL2 ret n) (vm : VM y) (hM : Ct (xL X) (xG X) y b nL2 ret rF rL (vR o :: as) σ (Dt (some v) σ1))
    (hk : kd o = ci) (hcl : CL[ci]? = some (y.cls, T, N)) (hn : as.length = n) (hst : st = as.reverse ++ vR o :: rest) (hroom : (rest.map avc).sum ≤ 8) (hRm : Rm X (rF + 1) (8 + (nL2 + 11) + rL)) (k : V X (pc + 3) ls (v :: rest) σ1) : V X pc ls st σ :=
  V_callVg C d lk cm vm hM hk hcl hn hst hroom hRm (fun r σ' h => by obtain ⟨rfl, rfl⟩ := h; exact k)
theorem V_callV0 (C : Cx X cc own) {index nL2 n rF rL o ci N : Nat} {T : u_T} {y : MethodName} {b : ByteArray} {ret : Option FieldType} {as rest : List AV} {σ1 : Wd} (d : decode cc pc = .ok (.invokevirtual index, 3)) (lk : LK own index y) (cm : CMs y b nL2 ret n) (vm : VM y) (hM : Ct (xL X) (xG X) y b nL2 ret rF rL (vR o :: as) σ (Dt none σ1))
    (hk : kd o = ci) (hcl : CL[ci]? = some (y.cls, T, N)) (hn : as.length = n) (hst : st = as.reverse ++ vR o :: rest) (hroom : (rest.map avc).sum ≤ 8) (hRm : Rm X (rF + 1) (8 + (nL2 + 11) + rL)) (k : V X (pc + 3) ls rest σ1) : V X pc ls st σ :=
  V_callVg C d lk cm vm hM hk hcl hn hst hroom hRm (fun r σ' h => by obtain ⟨rfl, rfl⟩ := h; exact k)
theorem V_callS (C : Cx X cc own) {index nL2 n rF rL : Nat} {y : MethodName} {b : ByteArray} {ret : Option FieldType} {as rest : List AV} {v : AV} {σ1 : Wd} (d : decode cc pc = .ok (.invokestatic index, 3)) (lk : LK own index y) (cm : CMs y b nL2 ret n) (sm : SM y) (hM : Ct (xL X) (xG X) y b nL2 ret rF rL as σ (Dt (some v) σ1))
    (hn : as.length = n) (hst : st = as.reverse ++ rest) (hroom : (rest.map avc).sum ≤ 8) (hRm : Rm X (rF + 1) (8 + (nL2 + 11) + rL)) (k : V X (pc + 3) ls (v :: rest) σ1) : V X pc ls st σ :=
  V_callSg C d lk cm sm hM hn hst hroom hRm (fun r σ' h => by obtain ⟨rfl, rfl⟩ := h; exact k)
theorem V_callS0 (C : Cx X cc own) {index nL2 n rF rL : Nat} {y : MethodName} {b : ByteArray} {ret : Option FieldType} {as rest : List AV} {σ1 : Wd} (d : decode cc pc = .ok (.invokestatic index, 3)) (lk : LK own index y) (cm : CMs y b nL2 ret n) (sm : SM y) (hM : Ct (xL X) (xG X) y b nL2 ret rF rL as σ (Dt none σ1))
    (hn : as.length = n) (hst : st = as.reverse ++ rest) (hroom : (rest.map avc).sum ≤ 8) (hRm : Rm X (rF + 1) (8 + (nL2 + 11) + rL)) (k : V X (pc + 3) ls rest σ1) : V X pc ls st σ :=
  V_callSg C d lk cm sm hM hn hst hroom hRm (fun r σ' h => by obtain ⟨rfl, rfl⟩ := h; exact k)
end VC
def entL : List AV → List (Option AV)
  | [] => []
  | a :: r => if avc a = 2 then some a :: none :: entL r else some a :: entL r
def ents (nL : Nat) (avs : List AV) : List (Option AV) := entL avs ++ List.replicate (nL - (avs.map avc).sum) none
theorem entL_mem (G : GE) : ∀ (avs : List AV) (i0 i : Nat) (a : AV), (entL avs)[i]? = some (some a) → (i0 + i, cv G a) ∈ lv_args i0 (avs.map (cv G))
  | [], _, _, _, h => by simp [entL] at h
  | b :: r, i0, i, a, h => by
    by_cases hb : avc b = 2
    · have e : lv_args i0 ((b :: r).map (cv G)) = (i0, cv G b) :: lv_args (i0 + 2) (r.map (cv G)) := by
        show (i0, cv G b) :: lv_args (if (cv G b).category = 2 then i0 + 2 else i0 + 1) _ = _
        rw [cv_cat, if_pos hb]
      rw [e]
      rw [entL, if_pos hb] at h
      rcases i with _ | _ | i
      · simp at h; subst h; exact List.mem_cons_self
      · simp at h
      · have h1 : (entL r)[i]? = some (some a) := by simpa using h
        have h2 := entL_mem G r (i0 + 2) i a h1
        rw [show i0 + 2 + i = i0 + (i + 1 + 1) by omega] at h2
        exact List.mem_cons_of_mem _ h2
    · have e : lv_args i0 ((b :: r).map (cv G)) = (i0, cv G b) :: lv_args (i0 + 1) (r.map (cv G)) := by
        show (i0, cv G b) :: lv_args (if (cv G b).category = 2 then i0 + 2 else i0 + 1) _ = _
        rw [cv_cat, if_neg hb]
      rw [e]
      rw [entL, if_neg hb] at h
      rcases i with _ | i
      · simp at h; subst h; exact List.mem_cons_self
      · have h1 : (entL r)[i]? = some (some a) := by simpa using h
        have h2 := entL_mem G r (i0 + 1) i a h1
        rw [show i0 + 1 + i = i0 + (i + 1) by omega] at h2
        exact List.mem_cons_of_mem _ h2
theorem lg_len (G : GE) (avs : List AV) : (lg_sl (avs.map (cv G))).length = (avs.map avc).sum := by
  induction avs with
  | nil => rfl
  | cons a r ih =>
    have e : lg_sl ((a :: r).map (cv G)) = (if (cv G a).category = 2 then [Slot.val (cv G a), Slot.second] else [Slot.val (cv G a)]) ++ lg_sl (r.map (cv G)) := by
      simp [lg_sl, List.flatMap_cons]
    rw [e, List.length_append, ih, cv_cat, List.map_cons, List.sum_cons]
    rcases a with z | z | k | b <;> simp [avc]
theorem ents_get {nL : Nat} {avs : List AV} {i : Nat} {a : AV} (h : (ents nL avs)[i]? = some (some a)) : (entL avs)[i]? = some (some a) := by
  unfold ents at h
  by_cases hi : i < (entL avs).length
  · rwa [List.getElem?_append_left hi] at h
  · rw [List.getElem?_append_right (by omega), List.getElem?_replicate] at h
    split at h <;> cases h
theorem Ct.of {l : Launch} {G : GE} {y : MethodName} {b : ByteArray} {nL n : Nat} {ret : Option FieldType} {rF rL : Nat} {avs : List AV} {σ : Wd} {fin : Option AV → Wd → Prop} (cm : CMs y b nL ret n) (hn : (avs.map avc).sum ≤ nL)
    (h : ∀ X : KX, xL X = l → xG X = G → xN X = nL → Rm X rF rL → Cx X b y.cls → Ex X ret fin → V X 0 (ents nL avs) [] σ) : Ct l G y b nL ret rF rL avs σ fin := by
  intro hap hR
  refine Met.ofW (cc := b) (maxL := nL) (ret := ret) cm.2.2.2 rfl ?_
  intro p e s m args below meth c s₁ B hml hv
  obtain ⟨rfl, hP, hPK⟩ := hv
  have hts0 := atoms_spec (ws := Cond.code y b nL ret :: gw) B.pre
  have K := h (p, l, e, { frames := rF, cells := 0, slots := 0, locals := rL }, s, m, (avs.map (cv G)).toArray, below, meth, c, G, nL, 0, 0, MQ below (QcO G fin) (avs.map (cv G)).toArray s 0 0 (AG G)) rfl rfl rfl ⟨Nat.le_refl _, Nat.le_refl _⟩
    ⟨B.exec, B.bytes, hml, findClass_of_methodNamed B.named, B.notSynchronized, fun wd hw => hts0 wd (List.mem_cons_of_mem _ hw), hPK, hap, Nat.le_refl _, Nat.le_refl _⟩ ⟨B.returns, rfl⟩
  rw [lg_entry_eq]
  refine K hR s.heap [] _ hP va_S.rf ?_
  have hl := lv_entry (avs.map (cv G)) (n := nL) (by rw [lg_len]; exact hn)
  refine ⟨hl.1, hl.2.1, fun i a hi => ?_⟩
  have := entL_mem G avs 0 i a (ents_get hi)
  rw [Nat.zero_add] at this
  exact hl.2.2 _ this
