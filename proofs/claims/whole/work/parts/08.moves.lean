/-- the answer is this, and of the world behind this holds -/
abbrev Rt (r : Option AV) (Q : Wd → Prop) : Option AV → Wd → Prop := fun r' σ' => r' = r ∧ Q σ'
section VC2
variable {X : KX} {cc : ByteArray} {own : String} {pc : Nat} {ls : List (Option AV)} {st : List AV} {σ : Wd}
theorem V_callVr (C : Cx X cc own) {index nL2 n rF rL o ci N : Nat} {T : u_T} {y : MethodName} {b : ByteArray} {ret : Option FieldType} {as rest : List AV} {v : AV} {Q : Wd → Prop} (d : decode cc pc = .ok (.invokevirtual index, 3)) (lk : LK own index y) (cm : CMs y b nL2 ret n) (vm : VM y) (hM : Ct (xL X) (xG X) y b nL2 ret rF rL (vR o :: as) σ (Rt (some v) Q))
    (hk : kd o = ci) (hcl : CL[ci]? = some (y.cls, T, N)) (hn : as.length = n) (hst : st = as.reverse ++ vR o :: rest) (hroom : (rest.map avc).sum ≤ 8) (hRm : Rm X (rF + 1) (8 + (nL2 + 11) + rL)) (k : ∀ σ1, Q σ1 → V X (pc + 3) ls (v :: rest) σ1) : V X pc ls st σ :=
  V_callVg C d lk cm vm hM hk hcl hn hst hroom hRm (fun r σ' h => by obtain ⟨rfl, h⟩ := h; exact k _ h)
theorem V_callV0r (C : Cx X cc own) {index nL2 n rF rL o ci N : Nat} {T : u_T} {y : MethodName} {b : ByteArray} {ret : Option FieldType} {as rest : List AV} {Q : Wd → Prop} (d : decode cc pc = .ok (.invokevirtual index, 3)) (lk : LK own index y) (cm : CMs y b nL2 ret n) (vm : VM y) (hM : Ct (xL X) (xG X) y b nL2 ret rF rL (vR o :: as) σ (Rt none Q))
    (hk : kd o = ci) (hcl : CL[ci]? = some (y.cls, T, N)) (hn : as.length = n) (hst : st = as.reverse ++ vR o :: rest) (hroom : (rest.map avc).sum ≤ 8) (hRm : Rm X (rF + 1) (8 + (nL2 + 11) + rL)) (k : ∀ σ1, Q σ1 → V X (pc + 3) ls rest σ1) : V X pc ls st σ :=
  V_callVg C d lk cm vm hM hk hcl hn hst hroom hRm (fun r σ' h => by obtain ⟨rfl, h⟩ := h; exact k _ h)
theorem V_callSr (C : Cx X cc own) {index nL2 n rF rL : Nat} {y : MethodName} {b : ByteArray} {ret : Option FieldType} {as rest : List AV} {v : AV} {Q : Wd → Prop} (d : decode cc pc = .ok (.invokestatic index, 3)) (lk : LK own index y) (cm : CMs y b nL2 ret n) (sm : SM y) (hM : Ct (xL X) (xG X) y b nL2 ret rF rL as σ (Rt (some v) Q))
    (hn : as.length = n) (hst : st = as.reverse ++ rest) (hroom : (rest.map avc).sum ≤ 8) (hRm : Rm X (rF + 1) (8 + (nL2 + 11) + rL)) (k : ∀ σ1, Q σ1 → V X (pc + 3) ls (v :: rest) σ1) : V X pc ls st σ :=
  V_callSg C d lk cm sm hM hn hst hroom hRm (fun r σ' h => by obtain ⟨rfl, h⟩ := h; exact k _ h)
theorem V_callS0r (C : Cx X cc own) {index nL2 n rF rL : Nat} {y : MethodName} {b : ByteArray} {ret : Option FieldType} {as rest : List AV} {Q : Wd → Prop} (d : decode cc pc = .ok (.invokestatic index, 3)) (lk : LK own index y) (cm : CMs y b nL2 ret n) (sm : SM y) (hM : Ct (xL X) (xG X) y b nL2 ret rF rL as σ (Rt none Q))
    (hn : as.length = n) (hst : st = as.reverse ++ rest) (hroom : (rest.map avc).sum ≤ 8) (hRm : Rm X (rF + 1) (8 + (nL2 + 11) + rL)) (k : ∀ σ1, Q σ1 → V X (pc + 3) ls rest σ1) : V X pc ls st σ :=
  V_callSg C d lk cm sm hM hn hst hroom hRm (fun r σ' h => by obtain ⟨rfl, h⟩ := h; exact k _ h)
end VC2
/-- nothing but the rows from s on, n of them, is written -/
def Fr (s n : Nat) (σ σ' : Wd) : Prop := ∀ k, (k < s ∨ s + n ≤ k) → σ' k = σ k
theorem up_row (σ : Wd) {a k : Nat} (i x : Int) (h : k ≠ a) : up σ a i x k = σ k := by
  funext b; unfold up; rw [if_neg (fun q => h q.1)]
theorem Fr.rf (s n : Nat) (σ : Wd) : Fr s n σ σ := fun _ _ => rfl
theorem Fr.tr {s n : Nat} {σ τ ρ : Wd} (h : Fr s n σ τ) (h2 : Fr s n τ ρ) : Fr s n σ ρ := fun k hk => (h2 k hk).trans (h k hk)
theorem Fr.up {s n a : Nat} {σ τ : Wd} (i x : Int) (h : Fr s n σ τ) (h1 : s ≤ a) (h2 : a < s + n) : Fr s n σ (up τ a i x) := fun k hk => by rw [up_row _ _ _ (by omega)]; exact h k hk
theorem Fr.wide {s n s2 n2 : Nat} {σ τ : Wd} (h : Fr s n σ τ) (h1 : s2 ≤ s) (h2 : s + n ≤ s2 + n2) : Fr s2 n2 σ τ := fun k hk => h k (by omega)
def fu (f : Int → Int) (i v : Int) : Int → Int := fun a => if a = i then v else f a
theorem PlR.fr {σ σ' : Wd} {p : Nat} {π : PL} (h : PlR σ p π) (hf : ∀ k, p ≤ k → k < p + 7 → σ' k = σ k) : PlR σ' p π := by
  obtain ⟨h0, h1, h2, h3, h4, h5, h6⟩ := h
  refine ⟨h0, ?_, ?_, ?_, ?_, fun t a b => ?_, fun r a b => ?_⟩
  · rw [hf p (by omega) (by omega)]; exact h1
  · rw [hf p (by omega) (by omega)]; exact h2
  · rw [hf p (by omega) (by omega)]; exact h3
  · rw [hf p (by omega) (by omega)]; exact h4
  · rw [hf (p + 2) (by omega) (by omega), hf (p + 3) (by omega) (by omega), hf (p + 5) (by omega) (by omega)]; exact h5 t a b
  · rw [hf (p + 6) (by omega) (by omega)]; exact h6 r a b
theorem StR.fr {σ σ' : Wd} {s : Nat} {π : PL} {x : ST} (h : StR σ s π x) (hf : ∀ k, s ≤ k → k < s + 5 → σ' k = σ k) : StR σ' s π x := by
  obtain ⟨h0, h1, h2, h3, h4⟩ := h
  refine ⟨h0, ?_, ?_, fun q a b => ?_, fun t a b => ?_⟩
  · rw [hf s (by omega) (by omega)]; exact h1
  · rw [hf s (by omega) (by omega)]; exact h2
  · rw [hf (s + 1) (by omega) (by omega), hf (s + 2) (by omega) (by omega)]; exact h3 q a b
  · rw [hf (s + 3) (by omega) (by omega), hf (s + 4) (by omega) (by omega)]; exact h4 t a b
/-- plans lie ahead of the stands -/
theorem kd_PS {p s : Nat} (hp : kd p = 5) (hs : kd s = 7) : p + 7 ≤ s := by
  have key : ∀ a b : Fin NO, kd a.val = 5 → kd b.val = 7 → a.val + 7 ≤ b.val := by decide +kernel
  exact key ⟨p, kd_lt hp (by decide)⟩ ⟨s, kd_lt hs (by decide)⟩ hp hs
theorem PlR.st {σ σ' : Wd} {p s : Nat} {π : PL} (h : PlR σ p π) (hs : kd s = 7) (hf : Fr s 5 σ σ') : PlR σ' p π :=
  h.fr (fun k h1 h2 => hf k (Or.inl (by have := kd_PS h.1 hs; omega)))
theorem StR.cg {σ : Wd} {s : Nat} {π : PL} {x y : ST} (h : StR σ s π x) (h1 : sD x = sD y) (h2 : sM x = sM y) (h3 : ∀ q : Int, 0 ≤ q → q < pP π → sG x q = sG y q ∧ sR x q = sR y q) (h4 : ∀ t : Int, 0 ≤ t → t < pN π → sN x t = sN y t ∧ sP x t = sP y t) : StR σ s π y := by
  obtain ⟨g0, g1, g2, g3, g4⟩ := h
  refine ⟨g0, g1.trans h1, g2.trans h2, fun q a b => ?_, fun t a b => ?_⟩
  · rw [← (h3 q a b).1, ← (h3 q a b).2]; exact g3 q a b
  · rw [← (h4 t a b).1, ← (h4 t a b).2]; exact g4 t a b

theorem StR.upD {σ : Wd} {s : Nat} {π : PL} {x : ST} (h : StR σ s π x) (v : Int) : StR (up σ s 0 v) s π (v, (sM x, (sG x, (sR x, (sN x, sP x))))) := by
  obtain ⟨h0, h1, h2, h3, h4⟩ := h
  refine ⟨h0, ?_, ?_, fun q a b => ?_, fun t a b => ?_⟩
  · show up σ s 0 v s 0 = _
    unfold up; split
    · first | rfl | omega
    · first | exact h1 | (exfalso; omega)
  · show up σ s 0 v s 1 = _
    unfold up; split
    · first | rfl | omega
    · first | exact h2 | (exfalso; omega)
  · obtain ⟨g1, g2⟩ := h3 q a b
    constructor
    · show up σ s 0 v (s + 1) q = sG x q
      unfold up; first | (rw [if_neg (by omega)]; exact g1) | (simp only [true_and]; rw [g1])
    · show up σ s 0 v (s + 2) q = sR x q
      unfold up; first | (rw [if_neg (by omega)]; exact g2) | (simp only [true_and]; rw [g2])
  · obtain ⟨g1, g2⟩ := h4 t a b
    constructor
    · show up σ s 0 v (s + 3) t = sN x t
      unfold up; first | (rw [if_neg (by omega)]; exact g1) | (simp only [true_and]; rw [g1])
    · show up σ s 0 v (s + 4) t = sP x t
      unfold up; first | (rw [if_neg (by omega)]; exact g2) | (simp only [true_and]; rw [g2])
theorem StR.upM {σ : Wd} {s : Nat} {π : PL} {x : ST} (h : StR σ s π x) (v : Int) : StR (up σ s 1 v) s π (sD x, (v, (sG x, (sR x, (sN x, sP x))))) := by
  obtain ⟨h0, h1, h2, h3, h4⟩ := h
  refine ⟨h0, ?_, ?_, fun q a b => ?_, fun t a b => ?_⟩
  · show up σ s 1 v s 0 = _
    unfold up; split
    · first | rfl | omega
    · first | exact h1 | (exfalso; omega)
  · show up σ s 1 v s 1 = _
    unfold up; split
    · first | rfl | omega
    · first | exact h2 | (exfalso; omega)
  · obtain ⟨g1, g2⟩ := h3 q a b
    constructor
    · show up σ s 1 v (s + 1) q = sG x q
      unfold up; first | (rw [if_neg (by omega)]; exact g1) | (simp only [true_and]; rw [g1])
    · show up σ s 1 v (s + 2) q = sR x q
      unfold up; first | (rw [if_neg (by omega)]; exact g2) | (simp only [true_and]; rw [g2])
  · obtain ⟨g1, g2⟩ := h4 t a b
    constructor
    · show up σ s 1 v (s + 3) t = sN x t
      unfold up; first | (rw [if_neg (by omega)]; exact g1) | (simp only [true_and]; rw [g1])
    · show up σ s 1 v (s + 4) t = sP x t
      unfold up; first | (rw [if_neg (by omega)]; exact g2) | (simp only [true_and]; rw [g2])
theorem StR.upG {σ : Wd} {s : Nat} {π : PL} {x : ST} (h : StR σ s π x) (i v : Int) : StR (up σ (s + 1) i v) s π (sD x, (sM x, (fu (sG x) i v, (sR x, (sN x, sP x))))) := by
  obtain ⟨h0, h1, h2, h3, h4⟩ := h
  refine ⟨h0, ?_, ?_, fun q a b => ?_, fun t a b => ?_⟩
  · show up σ (s + 1) i v s 0 = _
    unfold up; split
    · first | rfl | omega
    · first | exact h1 | (exfalso; omega)
  · show up σ (s + 1) i v s 1 = _
    unfold up; split
    · first | rfl | omega
    · first | exact h2 | (exfalso; omega)
  · obtain ⟨g1, g2⟩ := h3 q a b
    constructor
    · show up σ (s + 1) i v (s + 1) q = fu (sG x) i v q
      unfold up fu; first | (rw [if_neg (by omega)]; exact g1) | (simp only [true_and]; rw [g1])
    · show up σ (s + 1) i v (s + 2) q = sR x q
      unfold up; first | (rw [if_neg (by omega)]; exact g2) | (simp only [true_and]; rw [g2])
  · obtain ⟨g1, g2⟩ := h4 t a b
    constructor
    · show up σ (s + 1) i v (s + 3) t = sN x t
      unfold up; first | (rw [if_neg (by omega)]; exact g1) | (simp only [true_and]; rw [g1])
    · show up σ (s + 1) i v (s + 4) t = sP x t
      unfold up; first | (rw [if_neg (by omega)]; exact g2) | (simp only [true_and]; rw [g2])
theorem StR.upR {σ : Wd} {s : Nat} {π : PL} {x : ST} (h : StR σ s π x) (i v : Int) : StR (up σ (s + 2) i v) s π (sD x, (sM x, (sG x, (fu (sR x) i v, (sN x, sP x))))) := by
  obtain ⟨h0, h1, h2, h3, h4⟩ := h
  refine ⟨h0, ?_, ?_, fun q a b => ?_, fun t a b => ?_⟩
  · show up σ (s + 2) i v s 0 = _
    unfold up; split
    · first | rfl | omega
    · first | exact h1 | (exfalso; omega)
  · show up σ (s + 2) i v s 1 = _
    unfold up; split
    · first | rfl | omega
    · first | exact h2 | (exfalso; omega)
  · obtain ⟨g1, g2⟩ := h3 q a b
    constructor
    · show up σ (s + 2) i v (s + 1) q = sG x q
      unfold up; first | (rw [if_neg (by omega)]; exact g1) | (simp only [true_and]; rw [g1])
    · show up σ (s + 2) i v (s + 2) q = fu (sR x) i v q
      unfold up fu; first | (rw [if_neg (by omega)]; exact g2) | (simp only [true_and]; rw [g2])
  · obtain ⟨g1, g2⟩ := h4 t a b
    constructor
    · show up σ (s + 2) i v (s + 3) t = sN x t
      unfold up; first | (rw [if_neg (by omega)]; exact g1) | (simp only [true_and]; rw [g1])
    · show up σ (s + 2) i v (s + 4) t = sP x t
      unfold up; first | (rw [if_neg (by omega)]; exact g2) | (simp only [true_and]; rw [g2])
theorem StR.upN {σ : Wd} {s : Nat} {π : PL} {x : ST} (h : StR σ s π x) (i v : Int) : StR (up σ (s + 3) i v) s π (sD x, (sM x, (sG x, (sR x, (fu (sN x) i v, sP x))))) := by
  obtain ⟨h0, h1, h2, h3, h4⟩ := h
  refine ⟨h0, ?_, ?_, fun q a b => ?_, fun t a b => ?_⟩
  · show up σ (s + 3) i v s 0 = _
    unfold up; split
    · first | rfl | omega
    · first | exact h1 | (exfalso; omega)
  · show up σ (s + 3) i v s 1 = _
    unfold up; split
    · first | rfl | omega
    · first | exact h2 | (exfalso; omega)
  · obtain ⟨g1, g2⟩ := h3 q a b
    constructor
    · show up σ (s + 3) i v (s + 1) q = sG x q
      unfold up; first | (rw [if_neg (by omega)]; exact g1) | (simp only [true_and]; rw [g1])
    · show up σ (s + 3) i v (s + 2) q = sR x q
      unfold up; first | (rw [if_neg (by omega)]; exact g2) | (simp only [true_and]; rw [g2])
  · obtain ⟨g1, g2⟩ := h4 t a b
    constructor
    · show up σ (s + 3) i v (s + 3) t = fu (sN x) i v t
      unfold up fu; first | (rw [if_neg (by omega)]; exact g1) | (simp only [true_and]; rw [g1])
    · show up σ (s + 3) i v (s + 4) t = sP x t
      unfold up; first | (rw [if_neg (by omega)]; exact g2) | (simp only [true_and]; rw [g2])
theorem StR.upP {σ : Wd} {s : Nat} {π : PL} {x : ST} (h : StR σ s π x) (i v : Int) : StR (up σ (s + 4) i v) s π (sD x, (sM x, (sG x, (sR x, (sN x, fu (sP x) i v))))) := by
  obtain ⟨h0, h1, h2, h3, h4⟩ := h
  refine ⟨h0, ?_, ?_, fun q a b => ?_, fun t a b => ?_⟩
  · show up σ (s + 4) i v s 0 = _
    unfold up; split
    · first | rfl | omega
    · first | exact h1 | (exfalso; omega)
  · show up σ (s + 4) i v s 1 = _
    unfold up; split
    · first | rfl | omega
    · first | exact h2 | (exfalso; omega)
  · obtain ⟨g1, g2⟩ := h3 q a b
    constructor
    · show up σ (s + 4) i v (s + 1) q = sG x q
      unfold up; first | (rw [if_neg (by omega)]; exact g1) | (simp only [true_and]; rw [g1])
    · show up σ (s + 4) i v (s + 2) q = sR x q
      unfold up; first | (rw [if_neg (by omega)]; exact g2) | (simp only [true_and]; rw [g2])
  · obtain ⟨g1, g2⟩ := h4 t a b
    constructor
    · show up σ (s + 4) i v (s + 3) t = sN x t
      unfold up; first | (rw [if_neg (by omega)]; exact g1) | (simp only [true_and]; rw [g1])
    · show up σ (s + 4) i v (s + 4) t = fu (sP x) i v t
      unfold up fu; first | (rw [if_neg (by omega)]; exact g2) | (simp only [true_and]; rw [g2])
def sellX (π : PL) (x : ST) (t : Int) : ST := (sD x, (sM x - prc π x t, (fu (sG x) (pO π t) (sG x (pO π t) + prc π x t), (sR x, (sN x, fu (sP x) t 1)))))
def buyX (π : PL) (x : ST) (t : Int) : ST := (sD x, (sM x + prc π x t, (fu (sG x) (pO π t) (sG x (pO π t) - prc π x t), (sR x, (sN x, fu (sP x) t 0)))))
def nxN (π : PL) (x : ST) (t : Int) : Int := if sP x t = 1 then nx (pK π t) (sN x t) (sD x) else sN x t
def nxP (π : PL) (x : ST) (t : Int) : Int := if sP x t = 1 then (if nx (pK π t) (sN x t) (sD x) = 0 then 2 else 1) else sP x t
def nxR (π : PL) (x : ST) (q : Int) (n : Nat) : Int := sR x q + sm (fun t => if nxP π x t ≠ 0 ∧ pO π t = q then pU π t else 0) n
def dayX (π : PL) (x : ST) : ST := (sD x + 1, (sM x, (sG x, (fun q => nxR π x q (pN π), (nxN π x, nxP π x)))))
/-- a day, as far as the thing i -/
def dayI (π : PL) (x : ST) (i : Nat) : ST := (sD x, (sM x, (sG x, (fun q => nxR π x q i, (fun t => if t < i then nxN π x t else sN x t, fun t => if t < i then nxP π x t else sP x t)))))

def i_S_payPerson : List (Nat × (Instr × Nat)) := [(0, (.aload_n 0, 1)), (1, (.dup, 1)), (2, (.getfield 33, 3)), (5, (.iload_n 2, 1)), (6, (.isub, 1)), (7, (.putfield 33, 3)), (10, (.aload_n 0, 1)), (11, (.getfield 9, 3)), (14, (.iload_n 1, 1)), (15, (.aload_n 0, 1)), (16, (.getfield 9, 3)), (19, (.iload_n 1, 1)), (20, (.invokestatic 44, 3)), (23, (.iload_n 2, 1)), (24, (.iadd, 1)), (25, (.invokestatic 40, 3)), (28, (.return_, 1))]
theorem k_S_payPerson : i_S_payPerson.all (fun q => decide (decode b_S_payPerson q.1 = .ok q.2)) = true := by decide +kernel

set_option maxHeartbeats 1000000 in
set_option maxRecDepth 20000 in
theorem c_S_payPerson (l : Launch) (G : GE) (σ : Wd) (s : Nat) (q v : Int) (hs : kd s = 7) (hq0 : 0 ≤ q) (hq1 : q < 5) (hv : inR v) (h1 : inR (σ s 1 - v)) (h2 : inR (σ (s + 1) q + v)) : Ct l G y_S_payPerson b_S_payPerson 3 (none) 1 22 [vR s, vI q, vI v] σ (Dt none (up (up σ s 1 (σ s 1 - v)) (s + 1) q (σ (s + 1) q + v))) := by
  refine Ct.of cm_S_payPerson (Nat.le_of_ble_eq_true rfl) ?_
  intro X hXl hXG hXN hRm C E
  subst hXl; subst hXG
  have ⟨hv_1, hv_2⟩ := hv
  have ⟨h1_1, h1_2⟩ := h1
  show V X 0 [some (vR s), some (vI q), some (vI v)] [] σ
  refine V_R (fun hR => ?_)
  obtain ⟨hs_1, hs_2, hs_3, hs_4⟩ := kd_S hs
  refine V_aload_n (pc := 0) C (dk k_S_payPerson 0 rfl) rfl ?_
  refine V_dupR (pc := 1) C (dk k_S_payPerson 1 rfl) ?_
  refine V_geti (pc := 2) (ji := 1) C (dk k_S_payPerson 2 rfl) fl_S_33 hs (by decide) rfl rfl ?_
  refine V_iload_n (pc := 5) C (dk k_S_payPerson 3 rfl) rfl ?_
  refine V_isub (pc := 6) C (dk k_S_payPerson 4 rfl) ?_
  refine V_puti (pc := 7) (ji := 1) C (dk k_S_payPerson 5 rfl) fl_S_33 fw_7_1 hs (by decide) rfl rfl h1 ?_
  refine V_R (fun hR => ?_)
  refine V_aload_n (pc := 10) C (dk k_S_payPerson 6 rfl) rfl ?_
  refine V_getr (pc := 11) (o2 := s + 1) C (dk k_S_payPerson 7 rfl) fl_S_9 hs (by decide) rfl (by decide) rfl ?_
  refine V_iload_n (pc := 14) C (dk k_S_payPerson 8 rfl) rfl ?_
  refine V_aload_n (pc := 15) C (dk k_S_payPerson 9 rfl) rfl ?_
  refine V_getr (pc := 16) (o2 := s + 1) C (dk k_S_payPerson 10 rfl) fl_S_9 hs (by decide) rfl (by decide) rfl ?_
  refine V_iload_n (pc := 19) C (dk k_S_payPerson 11 rfl) rfl ?_
  have e1 : up σ s 1 (σ s 1 - v) (s + 1) q = σ (s + 1) q := up_ne1 _ _ _ _ (by omega)
  refine V_callS (pc := 20) C (dk k_S_payPerson 12 rfl) lk_S_44 cm_F_at sm_F_at (c_at _ _ _ (s + 1) 5 q hs_1 (by decide) hq0 (by omega)) rfl rfl (Nat.le_of_ble_eq_true rfl) (Rm.mono hRm (by decide) (by decide)) ?_
  refine V_iload_n (pc := 23) C (dk k_S_payPerson 13 rfl) rfl ?_
  refine V_iadd (pc := 24) C (dk k_S_payPerson 14 rfl) ?_
  refine V_callS0 (pc := 25) C (dk k_S_payPerson 15 rfl) lk_S_40 cm_F_put sm_F_put (c_put _ _ _ (s + 1) 5 q _ hs_1 (by decide) hq0 (by omega) (by rw [e1]; exact h2)) rfl rfl (Nat.le_of_ble_eq_true rfl) (Rm.mono hRm (by decide) (by decide)) ?_
  refine V_R (fun hR => ?_)
  refine V_vret (pc := 28) C E (dk k_S_payPerson 16 rfl) ?_
  exact ⟨rfl, by rw [e1]⟩

def i_S_moveToCellar : List (Nat × (Instr × Nat)) := [(0, (.aload_n 0, 1)), (1, (.aload_n 1, 1)), (2, (.getfield 63, 3)), (5, (.iload_n 2, 1)), (6, (.invokestatic 44, 3)), (9, (.aload_n 0, 1)), (10, (.aload_n 1, 1)), (11, (.iload_n 2, 1)), (12, (.invokevirtual 59, 3)), (15, (.invokevirtual 66, 3)), (18, (.aload_n 0, 1)), (19, (.getfield 21, 3)), (22, (.iload_n 2, 1)), (23, (.iconst 1, 1)), (24, (.invokestatic 40, 3)), (27, (.return_, 1))]
theorem k_S_moveToCellar : i_S_moveToCellar.all (fun q => decide (decode b_S_moveToCellar q.1 = .ok q.2)) = true := by decide +kernel

set_option maxHeartbeats 1000000 in
set_option maxRecDepth 20000 in
theorem c_S_moveToCellar (l : Launch) (G : GE) (σ : Wd) (s p : Nat) (π : PL) (x : ST) (j t : Int) (hπ : PlR σ p π) (ok : PLok π) (hx : StR σ s π x) (xk : STok π x j) (hj : j ≤ 200) (ht0 : 0 ≤ t) (ht1 : t < pN π) (hpr : prc π x t ≤ sM x) : Ct l G y_S_moveToCellar b_S_moveToCellar 3 (none) 3 64 [vR s, vR p, vI t] σ (Rt none (fun σ' => StR σ' s π (sellX π x t) ∧ Fr s 5 σ σ')) := by
  refine Ct.of cm_S_moveToCellar (Nat.le_of_ble_eq_true rfl) ?_
  intro X hXl hXG hXN hRm C E
  subst hXl; subst hXG
  show V X 0 [some (vR s), some (vR p), some (vI t)] [] σ
  refine V_R (fun hR => ?_)
  have hπ0 := hπ
  have hx0 := hx
  obtain ⟨hp, e0, e2, e7, e10, eT, eX⟩ := hπ
  obtain ⟨hp_1, hp_2, hp_3, hp_4, hp_5, hp_6⟩ := kd_P hp
  have ⟨k1, k2, k3, k4, k5, k6, kT, kX⟩ := ok
  obtain ⟨hs, f0, f1, fQ, fT⟩ := hx
  obtain ⟨hs_1, hs_2, hs_3, hs_4⟩ := kd_S hs
  have ⟨x1, x2, x3, x4, xQ, xT⟩ := xk
  obtain ⟨fN, fP⟩ := fT t ht0 ht1
  obtain ⟨tO, tK, tU⟩ := eT t ht0 ht1
  obtain ⟨kO0, kO1, kK0, kK1, kU0, kU1⟩ := kT t ht0 ht1
  obtain ⟨xN0, xN1, xP0, xP1, xPN⟩ := xT t ht0 ht1
  have ⟨hpr0, hpr1⟩ := prc_b ok xk ht0 ht1
  obtain ⟨fG, fR⟩ := fQ _ kO0 kO1
  obtain ⟨xG0, xG1, xR0, xR1⟩ := xQ _ kO0 kO1
  refine V_aload_n (pc := 0) C (dk k_S_moveToCellar 0 rfl) rfl ?_
  refine V_aload_n (pc := 1) C (dk k_S_moveToCellar 1 rfl) rfl ?_
  refine V_getr (pc := 2) (o2 := p + 2) C (dk k_S_moveToCellar 2 rfl) fl_S_63 hp (by decide) rfl (by decide) rfl ?_
  refine V_iload_n (pc := 5) C (dk k_S_moveToCellar 3 rfl) rfl ?_
  refine V_callS (pc := 6) C (dk k_S_moveToCellar 4 rfl) lk_S_44 cm_F_at sm_F_at (c_at _ _ _ (p + 2) 8 t hp_2 (by decide) ht0 (by omega)) rfl rfl (Nat.le_of_ble_eq_true rfl) (Rm.mono hRm (by decide) (by decide)) ?_
  rw [tO]
  refine V_aload_n (pc := 9) C (dk k_S_moveToCellar 5 rfl) rfl ?_
  refine V_aload_n (pc := 10) C (dk k_S_moveToCellar 6 rfl) rfl ?_
  refine V_iload_n (pc := 11) C (dk k_S_moveToCellar 7 rfl) rfl ?_
  refine V_callV (pc := 12) C (dk k_S_moveToCellar 8 rfl) lk_S_59 cm_S_price vm_S_price (c_S_price _ _ _ s p π x j t hπ0 ok hx0 xk hj ht0 ht1) hs rfl rfl rfl (Nat.le_of_ble_eq_true rfl) (Rm.mono hRm (by decide) (by decide)) ?_
  refine V_callV0 (pc := 15) C (dk k_S_moveToCellar 9 rfl) lk_S_66 cm_S_payPerson vm_S_payPerson (c_S_payPerson _ _ _ s (pO π t) (prc π x t) hs kO0 (by omega) ⟨by omega, by omega⟩ ⟨by omega, by omega⟩ ⟨by omega, by omega⟩) hs rfl rfl rfl (Nat.le_of_ble_eq_true rfl) (Rm.mono hRm (by decide) (by decide)) ?_
  refine V_R (fun hR => ?_)
  refine V_aload_n (pc := 18) C (dk k_S_moveToCellar 10 rfl) rfl ?_
  refine V_getr (pc := 19) (o2 := s + 4) C (dk k_S_moveToCellar 11 rfl) fl_S_21 hs (by decide) rfl (by decide) rfl ?_
  refine V_iload_n (pc := 22) C (dk k_S_moveToCellar 12 rfl) rfl ?_
  refine V_iconst (pc := 23) C (dk k_S_moveToCellar 13 rfl) rfl ?_
  refine V_callS0 (pc := 24) C (dk k_S_moveToCellar 14 rfl) lk_S_40 cm_F_put sm_F_put (c_put _ _ _ (s + 4) 8 t 1 hs_4 (by decide) ht0 (by omega) ⟨by decide, by decide⟩) rfl rfl (Nat.le_of_ble_eq_true rfl) (Rm.mono hRm (by decide) (by decide)) ?_
  refine V_R (fun hR => ?_)
  refine V_vret (pc := 27) C E (dk k_S_moveToCellar 15 rfl) ?_
  refine ⟨rfl, ?_, (((Fr.rf s 5 σ).up _ _ (by omega) (by omega)).up _ _ (by omega) (by omega)).up _ _ (by omega) (by omega)⟩
  have e := ((hx0.upM (σ s 1 - (prc π x t))).upG (pO π t) (σ (s + 1) (pO π t) + (prc π x t))).upP t 1
  rw [f1, fG] at e ⊢
  first | exact e | (simp only [Int.sub_neg, ← Int.sub_eq_add_neg] at e ⊢; exact e)

def i_S_moveToPerson : List (Nat × (Instr × Nat)) := [(0, (.aload_n 0, 1)), (1, (.aload_n 1, 1)), (2, (.getfield 63, 3)), (5, (.iload_n 2, 1)), (6, (.invokestatic 44, 3)), (9, (.aload_n 0, 1)), (10, (.aload_n 1, 1)), (11, (.iload_n 2, 1)), (12, (.invokevirtual 59, 3)), (15, (.ineg, 1)), (16, (.invokevirtual 66, 3)), (19, (.aload_n 0, 1)), (20, (.getfield 21, 3)), (23, (.iload_n 2, 1)), (24, (.iconst 0, 1)), (25, (.invokestatic 40, 3)), (28, (.return_, 1))]
theorem k_S_moveToPerson : i_S_moveToPerson.all (fun q => decide (decode b_S_moveToPerson q.1 = .ok q.2)) = true := by decide +kernel

set_option maxHeartbeats 1000000 in
set_option maxRecDepth 20000 in
theorem c_S_moveToPerson (l : Launch) (G : GE) (σ : Wd) (s p : Nat) (π : PL) (x : ST) (j t : Int) (hπ : PlR σ p π) (ok : PLok π) (hx : StR σ s π x) (xk : STok π x j) (hj : j ≤ 200) (ht0 : 0 ≤ t) (ht1 : t < pN π) (hpr : prc π x t ≤ sG x (pO π t)) : Ct l G y_S_moveToPerson b_S_moveToPerson 3 (none) 3 64 [vR s, vR p, vI t] σ (Rt none (fun σ' => StR σ' s π (buyX π x t) ∧ Fr s 5 σ σ')) := by
  refine Ct.of cm_S_moveToPerson (Nat.le_of_ble_eq_true rfl) ?_
  intro X hXl hXG hXN hRm C E
  subst hXl; subst hXG
  show V X 0 [some (vR s), some (vR p), some (vI t)] [] σ
  refine V_R (fun hR => ?_)
  have hπ0 := hπ
  have hx0 := hx
  obtain ⟨hp, e0, e2, e7, e10, eT, eX⟩ := hπ
  obtain ⟨hp_1, hp_2, hp_3, hp_4, hp_5, hp_6⟩ := kd_P hp
  have ⟨k1, k2, k3, k4, k5, k6, kT, kX⟩ := ok
  obtain ⟨hs, f0, f1, fQ, fT⟩ := hx
  obtain ⟨hs_1, hs_2, hs_3, hs_4⟩ := kd_S hs
  have ⟨x1, x2, x3, x4, xQ, xT⟩ := xk
  obtain ⟨fN, fP⟩ := fT t ht0 ht1
  obtain ⟨tO, tK, tU⟩ := eT t ht0 ht1
  obtain ⟨kO0, kO1, kK0, kK1, kU0, kU1⟩ := kT t ht0 ht1
  obtain ⟨xN0, xN1, xP0, xP1, xPN⟩ := xT t ht0 ht1
  have ⟨hpr0, hpr1⟩ := prc_b ok xk ht0 ht1
  obtain ⟨fG, fR⟩ := fQ _ kO0 kO1
  obtain ⟨xG0, xG1, xR0, xR1⟩ := xQ _ kO0 kO1
  refine V_aload_n (pc := 0) C (dk k_S_moveToPerson 0 rfl) rfl ?_
  refine V_aload_n (pc := 1) C (dk k_S_moveToPerson 1 rfl) rfl ?_
  refine V_getr (pc := 2) (o2 := p + 2) C (dk k_S_moveToPerson 2 rfl) fl_S_63 hp (by decide) rfl (by decide) rfl ?_
  refine V_iload_n (pc := 5) C (dk k_S_moveToPerson 3 rfl) rfl ?_
  refine V_callS (pc := 6) C (dk k_S_moveToPerson 4 rfl) lk_S_44 cm_F_at sm_F_at (c_at _ _ _ (p + 2) 8 t hp_2 (by decide) ht0 (by omega)) rfl rfl (Nat.le_of_ble_eq_true rfl) (Rm.mono hRm (by decide) (by decide)) ?_
  rw [tO]
  refine V_aload_n (pc := 9) C (dk k_S_moveToPerson 5 rfl) rfl ?_
  refine V_aload_n (pc := 10) C (dk k_S_moveToPerson 6 rfl) rfl ?_
  refine V_iload_n (pc := 11) C (dk k_S_moveToPerson 7 rfl) rfl ?_
  refine V_callV (pc := 12) C (dk k_S_moveToPerson 8 rfl) lk_S_59 cm_S_price vm_S_price (c_S_price _ _ _ s p π x j t hπ0 ok hx0 xk hj ht0 ht1) hs rfl rfl rfl (Nat.le_of_ble_eq_true rfl) (Rm.mono hRm (by decide) (by decide)) ?_
  refine V_ineg (pc := 15) C (dk k_S_moveToPerson 9 rfl) ?_
  refine V_callV0 (pc := 16) C (dk k_S_moveToPerson 10 rfl) lk_S_66 cm_S_payPerson vm_S_payPerson (c_S_payPerson _ _ _ s (pO π t) (-prc π x t) hs kO0 (by omega) ⟨by omega, by omega⟩ ⟨by omega, by omega⟩ ⟨by omega, by omega⟩) hs rfl rfl rfl (Nat.le_of_ble_eq_true rfl) (Rm.mono hRm (by decide) (by decide)) ?_
  refine V_R (fun hR => ?_)
  refine V_aload_n (pc := 19) C (dk k_S_moveToPerson 11 rfl) rfl ?_
  refine V_getr (pc := 20) (o2 := s + 4) C (dk k_S_moveToPerson 12 rfl) fl_S_21 hs (by decide) rfl (by decide) rfl ?_
  refine V_iload_n (pc := 23) C (dk k_S_moveToPerson 13 rfl) rfl ?_
  refine V_iconst (pc := 24) C (dk k_S_moveToPerson 14 rfl) rfl ?_
  refine V_callS0 (pc := 25) C (dk k_S_moveToPerson 15 rfl) lk_S_40 cm_F_put sm_F_put (c_put _ _ _ (s + 4) 8 t 0 hs_4 (by decide) ht0 (by omega) ⟨by decide, by decide⟩) rfl rfl (Nat.le_of_ble_eq_true rfl) (Rm.mono hRm (by decide) (by decide)) ?_
  refine V_R (fun hR => ?_)
  refine V_vret (pc := 28) C E (dk k_S_moveToPerson 16 rfl) ?_
  refine ⟨rfl, ?_, (((Fr.rf s 5 σ).up _ _ (by omega) (by omega)).up _ _ (by omega) (by omega)).up _ _ (by omega) (by omega)⟩
  have e := ((hx0.upM (σ s 1 - (-prc π x t))).upG (pO π t) (σ (s + 1) (pO π t) + (-prc π x t))).upP t 0
  rw [f1, fG] at e ⊢
  first | exact e | (simp only [Int.sub_neg, ← Int.sub_eq_add_neg] at e ⊢; exact e)

def i_S_goOn : List (Nat × (Instr × Nat)) := [(0, (.aload_n 1, 1)), (1, (.getfield 80, 3)), (4, (.iload_n 2, 1)), (5, (.invokestatic 44, 3)), (8, (.aload_n 0, 1)), (9, (.getfield 18, 3)), (12, (.iload_n 2, 1)), (13, (.invokestatic 44, 3)), (16, (.aload_n 0, 1)), (17, (.getfield 24, 3)), (20, (.invokestatic 83, 3)), (23, (.istore_n 3, 1)), (24, (.aload_n 0, 1)), (25, (.getfield 18, 3)), (28, (.iload_n 2, 1)), (29, (.iload_n 3, 1)), (30, (.invokestatic 40, 3)), (33, (.iload_n 3, 1)), (34, (.ifCond .ne 12, 3)), (37, (.aload_n 0, 1)), (38, (.getfield 21, 3)), (41, (.iload_n 2, 1)), (42, (.iconst 2, 1)), (43, (.invokestatic 40, 3)), (46, (.return_, 1))]
theorem k_S_goOn : i_S_goOn.all (fun q => decide (decode b_S_goOn q.1 = .ok q.2)) = true := by decide +kernel

set_option maxHeartbeats 1000000 in
set_option maxRecDepth 20000 in
theorem c_S_goOn (l : Launch) (G : GE) (σ : Wd) (s p : Nat) (π : PL) (x : ST) (t : Int) (hπ : PlR σ p π) (ok : PLok π) (hx : StR σ s π x) (hd0 : 0 ≤ sD x) (ht0 : 0 ≤ t) (ht1 : t < pN π) (hn1 : sN x t ≤ 99) : Ct l G y_S_goOn b_S_goOn 4 (none) 2 48 [vR s, vR p, vI t] σ (Rt none (fun σ' => StR σ' s π (sD x, (sM x, (sG x, (sR x, (fu (sN x) t (nx (pK π t) (sN x t) (sD x)), if nx (pK π t) (sN x t) (sD x) = 0 then fu (sP x) t 2 else sP x))))) ∧ Fr s 5 σ σ')) := by
  refine Ct.of cm_S_goOn (Nat.le_of_ble_eq_true rfl) ?_
  intro X hXl hXG hXN hRm C E
  subst hXl; subst hXG
  show V X 0 [some (vR s), some (vR p), some (vI t), none] [] σ
  refine V_R (fun hR => ?_)
  have hπ0 := hπ
  have hx0 := hx
  obtain ⟨hp, e0, e2, e7, e10, eT, eX⟩ := hπ
  obtain ⟨hp_1, hp_2, hp_3, hp_4, hp_5, hp_6⟩ := kd_P hp
  have ⟨k1, k2, k3, k4, k5, k6, kT, kX⟩ := ok
  obtain ⟨hs, f0, f1, fQ, fT⟩ := hx
  obtain ⟨hs_1, hs_2, hs_3, hs_4⟩ := kd_S hs
  obtain ⟨fN, fP⟩ := fT t ht0 ht1
  obtain ⟨tO, tK, tU⟩ := eT t ht0 ht1
  obtain ⟨kO0, kO1, kK0, kK1, kU0, kU1⟩ := kT t ht0 ht1
  have hnx : inR (nx (pK π t) (sN x t) (sD x)) := by unfold nx; constructor <;> (repeat' split) <;> omega
  refine V_aload_n (pc := 0) C (dk k_S_goOn 0 rfl) rfl ?_
  refine V_getr (pc := 1) (o2 := p + 3) C (dk k_S_goOn 1 rfl) fl_S_80 hp (by decide) rfl (by decide) rfl ?_
  refine V_iload_n (pc := 4) C (dk k_S_goOn 2 rfl) rfl ?_
  refine V_callS (pc := 5) C (dk k_S_goOn 3 rfl) lk_S_44 cm_F_at sm_F_at (c_at _ _ _ (p + 3) 8 t hp_3 (by decide) ht0 (by omega)) rfl rfl (Nat.le_of_ble_eq_true rfl) (Rm.mono hRm (by decide) (by decide)) ?_
  refine V_aload_n (pc := 8) C (dk k_S_goOn 4 rfl) rfl ?_
  refine V_getr (pc := 9) (o2 := s + 3) C (dk k_S_goOn 5 rfl) fl_S_18 hs (by decide) rfl (by decide) rfl ?_
  refine V_iload_n (pc := 12) C (dk k_S_goOn 6 rfl) rfl ?_
  refine V_callS (pc := 13) C (dk k_S_goOn 7 rfl) lk_S_44 cm_F_at sm_F_at (c_at _ _ _ (s + 3) 8 t hs_3 (by decide) ht0 (by omega)) rfl rfl (Nat.le_of_ble_eq_true rfl) (Rm.mono hRm (by decide) (by decide)) ?_
  refine V_aload_n (pc := 16) C (dk k_S_goOn 8 rfl) rfl ?_
  refine V_geti (pc := 17) (ji := 0) C (dk k_S_goOn 9 rfl) fl_S_24 hs (by decide) rfl rfl ?_
  rw [tK, fN, f0]
  refine V_callS (pc := 20) C (dk k_S_goOn 10 rfl) lk_S_83 cm_F_nearNextDay sm_F_nearNextDay (c_F_nearNextDay _ _ _ (pK π t) (sN x t) (sD x) ⟨by omega, by omega⟩ (by rw [← fN]; exact hR _ _) (by rw [← f0]; exact hR _ _) (by omega) hd0) rfl rfl (Nat.le_of_ble_eq_true rfl) (Rm.mono hRm (by decide) (by decide)) ?_
  refine V_istore_n (pc := 23) C (dk k_S_goOn 11 rfl) (by rw [hXN]; decide) ?_
  dsimp only [lst, lstL, lz, kill, Fin.val, Nat.reduceAdd]
  refine V_aload_n (pc := 24) C (dk k_S_goOn 12 rfl) rfl ?_
  refine V_getr (pc := 25) (o2 := s + 3) C (dk k_S_goOn 13 rfl) fl_S_18 hs (by decide) rfl (by decide) rfl ?_
  refine V_iload_n (pc := 28) C (dk k_S_goOn 14 rfl) rfl ?_
  refine V_iload_n (pc := 29) C (dk k_S_goOn 15 rfl) rfl ?_
  refine V_callS0 (pc := 30) C (dk k_S_goOn 16 rfl) lk_S_40 cm_F_put sm_F_put (c_put _ _ _ (s + 3) 8 t _ hs_3 (by decide) ht0 (by omega) hnx) rfl rfl (Nat.le_of_ble_eq_true rfl) (Rm.mono hRm (by decide) (by decide)) ?_
  refine V_R (fun hR => ?_)
  refine V_iload_n (pc := 33) C (dk k_S_goOn 17 rfl) rfl ?_
  refine V_ifne (pc := 34) C (dk k_S_goOn 18 rfl) 46 rfl hnx (fun h1 => ?_) (fun h1 => ?_)
  · skip
    refine V_vret (pc := 46) C E (dk k_S_goOn 24 rfl) ?_
    first | (rw [if_pos (by assumption)]; exact ⟨rfl, (hx0.upN t _).upP t 2, ((Fr.rf s 5 σ).up _ _ (by omega) (by omega)).up _ _ (by omega) (by omega)⟩) | (rw [if_neg (by assumption)]; exact ⟨rfl, hx0.upN t _, (Fr.rf s 5 σ).up _ _ (by omega) (by omega)⟩)
  · skip
    refine V_aload_n (pc := 37) C (dk k_S_goOn 19 rfl) rfl ?_
    refine V_getr (pc := 38) (o2 := s + 4) C (dk k_S_goOn 20 rfl) fl_S_21 hs (by decide) rfl (by decide) rfl ?_
    refine V_iload_n (pc := 41) C (dk k_S_goOn 21 rfl) rfl ?_
    refine V_iconst (pc := 42) C (dk k_S_goOn 22 rfl) rfl ?_
    refine V_callS0 (pc := 43) C (dk k_S_goOn 23 rfl) lk_S_40 cm_F_put sm_F_put (c_put _ _ _ (s + 4) 8 t 2 hs_4 (by decide) ht0 (by omega) ⟨by decide, by decide⟩) rfl rfl (Nat.le_of_ble_eq_true rfl) (Rm.mono hRm (by decide) (by decide)) ?_
    refine V_R (fun hR => ?_)
    refine V_vret (pc := 46) C E (dk k_S_goOn 24 rfl) ?_
    first | (rw [if_pos (by assumption)]; exact ⟨rfl, (hx0.upN t _).upP t 2, ((Fr.rf s 5 σ).up _ _ (by omega) (by omega)).up _ _ (by omega) (by omega)⟩) | (rw [if_neg (by assumption)]; exact ⟨rfl, hx0.upN t _, (Fr.rf s 5 σ).up _ _ (by omega) (by omega)⟩)
