def chr (tx : List Int) (i : Nat) : Int := tx.getD i 0
theorem chr_at {tx : List Int} {i : Nat} (h : i < tx.length) : tx[i]? = some (chr tx i) := by
  unfold chr; rw [List.getD_eq_getElem?_getD, List.getElem?_eq_getElem h]; rfl
theorem chr_out {tx : List Int} {i : Nat} (h : tx.length ≤ i) : chr tx i = 0 := by
  unfold chr; rw [List.getD_eq_getElem?_getD, List.getElem?_eq_none h]; rfl
theorem chr_b {σ : Wd} {tx : List Int} (h : TxR σ tx) (i : Nat) : 0 ≤ chr tx i ∧ chr tx i ≤ 126 := by
  by_cases hi : i < tx.length
  · have := (h.2.2 i _ (chr_at hi)).2
    omega
  · rw [chr_out (by omega)]; omega
theorem c_let (l : Launch) (G : GE) (σ : Wd) (tx : List Int) (i : Nat) (h : TxR σ tx) (hi : i < 2000) : Ct l G y_L_letter b_L_letter 2 (some (.char)) 0 0 [vR 1, vI (i : Int)] σ (Dt (some (vI (chr tx i))) σ) := by
  have ⟨t1, t2, t3⟩ := h
  have H := c_L_letter l G σ (i : Int) ⟨by omega, by omega⟩ (by omega) (by omega) (fun k a b => by
    have hk : k.toNat < tx.length := by omega
    have := t3 k.toNat _ (chr_at hk)
    rw [Int.toNat_of_nonneg a] at this
    omega)
  by_cases hl : i < tx.length
  · rw [if_pos ⟨by omega, by omega⟩, (t3 i _ (chr_at hl)).1] at H
    exact H
  · rw [if_neg (by omega)] at H
    rw [chr_out (by omega)]
    exact H
abbrev fig (c : Int) : Prop := 48 ≤ c ∧ c ≤ 57
/-- a number of one figure or two at a place, and the place behind it -/
def num (tx : List Int) (i : Nat) : Option (Int × Nat) :=
  if fig (chr tx i) then (if fig (chr tx (i + 1)) then some (10 * (chr tx i - 48) + chr tx (i + 1) - 48, i + 2) else some (chr tx i - 48, i + 1)) else none
def rdN (tx : List Int) : Nat → Nat → List Int → Option (List Int × Nat)
  | 0, _, _ => none
  | f + 1, i, acc => match num tx i with
    | none => none
    | some (v, i1) => if chr tx i1 = 59 then some (acc ++ [v], i1 + 1) else if chr tx i1 = 44 then rdN tx f (i1 + 1) (acc ++ [v]) else none
/-- what has been read so far: money; things; rates; the shop's money, L -/
abbrev DS : Type := List Int × (List (Int × (Int × (Int × Int))) × (List Int × (Int × Int)))
def dM (d : DS) : List Int := d.1
def dT (d : DS) : List (Int × (Int × (Int × Int))) := d.2.1
def dX (d : DS) : List Int := d.2.2.1
def dS (d : DS) : Int := d.2.2.2.1
def dL (d : DS) : Int := d.2.2.2.2
def tell (d : DS) (c : Int) (ns : List Int) : Option DS :=
  if c = 97 then (if ns.length = 1 ∧ (dM d).length < 5 then some (dM d ++ [ns.getD 0 0], d.2) else none)
  else if c = 117 then (if ns.length = 4 ∧ (dT d).length < 8 ∧ (0 ≤ ns.getD 0 0 ∧ ns.getD 0 0 ≤ (dM d).length - 1) ∧ (0 ≤ ns.getD 1 0 ∧ ns.getD 1 0 ≤ 3) ∧ (1 ≤ ns.getD 2 0 ∧ ns.getD 2 0 ≤ 20) ∧ (0 ≤ ns.getD 3 0 ∧ ns.getD 3 0 ≤ 20) then some (dM d, (dT d ++ [(ns.getD 0 0, (ns.getD 1 0, (ns.getD 2 0, ns.getD 3 0)))], d.2.2)) else none)
  else if c = 120 then (if ns.length = 1 ∧ (dX d).length < 12 ∧ ns.getD 0 0 ≤ 9 then some (dM d, (dT d, (dX d ++ [ns.getD 0 0], d.2.2.2))) else none)
  else if c = 115 then (if ns.length = 2 ∧ ns.getD 1 0 ≤ 20 then some (dM d, (dT d, (dX d, (ns.getD 0 0, ns.getD 1 0)))) else none)
  else none
def rdI (tx : List Int) : Nat → Nat → DS → Int × DS
  | 0, _, d => (-4, d)
  | f + 1, i, d => if i < tx.length then (match rdN tx 4 (i + 1) [] with
      | none => ((i : Int), d)
      | some (ns, i1) => match tell d (chr tx i) ns with
        | none => ((i : Int), d)
        | some d' => rdI tx f i1 d') else (-4, d)
def d0 : DS := ([], ([], ([], (60, 4))))
def o_read (tx : List Int) : Int × DS := rdI tx 200 0 d0
/-- a plan that is being read into -/
def DR (σ : Wd) (p : Nat) (d : DS) : Prop := kd p = 5 ∧ (σ p 0 = (dM d).length ∧ (dM d).length ≤ 5) ∧ (σ p 2 = (dT d).length ∧ (dT d).length ≤ 8) ∧ (σ p 7 = (dX d).length ∧ (dX d).length ≤ 12) ∧ (σ p 9 = dS d ∧ σ p 10 = dL d) ∧ (∀ (k : Nat) (v : Int), (dM d)[k]? = some v → σ (p + 1) k = v) ∧ (∀ (k : Nat) (q : Int × (Int × (Int × Int))), (dT d)[k]? = some q → σ (p + 2) k = q.1 ∧ σ (p + 3) k = q.2.1 ∧ σ (p + 4) k = q.2.2.1 ∧ σ (p + 5) k = q.2.2.2) ∧ (∀ (k : Nat) (v : Int), (dX d)[k]? = some v → σ (p + 6) k = v)
theorem rowApp {α : Type} {l : List α} {x z : α} {k : Nat} (h : (l ++ [x])[k]? = some z) : (k < l.length ∧ l[k]? = some z) ∨ (k = l.length ∧ z = x) := by
  by_cases hk : k < l.length
  · rw [List.getElem?_append_left hk] at h; exact Or.inl ⟨hk, h⟩
  · rw [List.getElem?_append_right (by omega)] at h
    have hz : k - l.length = 0 := by
      have := (List.getElem?_eq_some_iff.mp h).1
      simp at this; omega
    rw [hz] at h
    simp at h
    exact Or.inr ⟨by omega, h.symm⟩
theorem DR.addM {σ : Wd} {p : Nat} {d : DS} (h : DR σ p d) (hl : (dM d).length < 5) (v : Int) : DR (up (up σ (p + 1) (dM d).length v) p 0 ((dM d).length + 1)) p (dM d ++ [v], d.2) := by
  obtain ⟨h0, ⟨h1, h1b⟩, ⟨h2, h2b⟩, ⟨h3, h3b⟩, ⟨h4, h5⟩, h6, h7, h8⟩ := h
  refine ⟨h0, ⟨?_, ?_⟩, ⟨?_, h2b⟩, ⟨?_, h3b⟩, ⟨?_, ?_⟩, fun k z hk => ?_, fun k q hk => ?_, fun k z hk => ?_⟩
  · rw [up_at]; show _ = ((dM d ++ [v]).length : Int); rw [List.length_append]; rfl
  · show (dM d ++ [v]).length ≤ 5; rw [List.length_append, List.length_singleton]; omega
  · simp (disch := omega) only [up_ne1, up_ne2]; exact h2
  · simp (disch := omega) only [up_ne1, up_ne2]; exact h3
  · simp (disch := omega) only [up_ne1, up_ne2]; exact h4
  · simp (disch := omega) only [up_ne1, up_ne2]; exact h5
  · rcases rowApp hk with ⟨a, b⟩ | ⟨a, b⟩
    · simp (disch := omega) only [up_ne1, up_ne2]; exact h6 k z b
    · subst b; rw [a]; simp (disch := omega) only [up_ne1, up_at]
  · have := h7 k q hk
    simp (disch := omega) only [up_ne1]; exact this
  · simp (disch := omega) only [up_ne1]; exact h8 k z hk
theorem DR.addX {σ : Wd} {p : Nat} {d : DS} (h : DR σ p d) (hl : (dX d).length < 12) (v : Int) : DR (up (up σ (p + 6) (dX d).length v) p 7 ((dX d).length + 1)) p (dM d, (dT d, (dX d ++ [v], d.2.2.2))) := by
  obtain ⟨h0, ⟨h1, h1b⟩, ⟨h2, h2b⟩, ⟨h3, h3b⟩, ⟨h4, h5⟩, h6, h7, h8⟩ := h
  refine ⟨h0, ⟨?_, h1b⟩, ⟨?_, h2b⟩, ⟨?_, ?_⟩, ⟨?_, ?_⟩, fun k z hk => ?_, fun k q hk => ?_, fun k z hk => ?_⟩
  · simp (disch := omega) only [up_ne1, up_ne2]; exact h1
  · simp (disch := omega) only [up_ne1, up_ne2]; exact h2
  · rw [up_at]; show _ = ((dX d ++ [v]).length : Int); rw [List.length_append]; rfl
  · show (dX d ++ [v]).length ≤ 12; rw [List.length_append, List.length_singleton]; omega
  · simp (disch := omega) only [up_ne1, up_ne2]; exact h4
  · simp (disch := omega) only [up_ne1, up_ne2]; exact h5
  · simp (disch := omega) only [up_ne1]; exact h6 k z hk
  · have := h7 k q hk
    simp (disch := omega) only [up_ne1]; exact this
  · rcases rowApp hk with ⟨a, b⟩ | ⟨a, b⟩
    · simp (disch := omega) only [up_ne1, up_ne2]; exact h8 k z b
    · subst b; rw [a]; simp (disch := omega) only [up_ne1, up_at]
theorem DR.addT {σ : Wd} {p : Nat} {d : DS} (h : DR σ p d) (hl : (dT d).length < 8) (a b c e : Int) : DR (up (up (up (up (up σ (p + 2) (dT d).length a) (p + 3) (dT d).length b) (p + 4) (dT d).length c) (p + 5) (dT d).length e) p 2 ((dT d).length + 1)) p (dM d, (dT d ++ [(a, (b, (c, e)))], d.2.2)) := by
  obtain ⟨h0, ⟨h1, h1b⟩, ⟨h2, h2b⟩, ⟨h3, h3b⟩, ⟨h4, h5⟩, h6, h7, h8⟩ := h
  refine ⟨h0, ⟨?_, h1b⟩, ⟨?_, ?_⟩, ⟨?_, h3b⟩, ⟨?_, ?_⟩, fun k z hk => ?_, fun k q hk => ?_, fun k z hk => ?_⟩
  · simp (disch := omega) only [up_ne1, up_ne2]; exact h1
  · rw [up_at]; show _ = ((dT d ++ [(a, (b, (c, e)))]).length : Int); rw [List.length_append]; rfl
  · show (dT d ++ [(a, (b, (c, e)))]).length ≤ 8; rw [List.length_append, List.length_singleton]; omega
  · simp (disch := omega) only [up_ne1, up_ne2]; exact h3
  · simp (disch := omega) only [up_ne1, up_ne2]; exact h4
  · simp (disch := omega) only [up_ne1, up_ne2]; exact h5
  · simp (disch := omega) only [up_ne1]; exact h6 k z hk
  · rcases rowApp hk with ⟨i, j⟩ | ⟨i, j⟩
    · have := h7 k q j
      simp (disch := omega) only [up_ne1, up_ne2]; exact this
    · subst j; rw [i]; simp (disch := omega) only [up_ne1, up_at]; exact ⟨trivial, trivial, trivial, trivial⟩
  · simp (disch := omega) only [up_ne1]; exact h8 k z hk
theorem DR.shop {σ : Wd} {p : Nat} {d : DS} (h : DR σ p d) (a b : Int) : DR (up (up σ p 9 a) p 10 b) p (dM d, (dT d, (dX d, (a, b)))) := by
  obtain ⟨h0, ⟨h1, h1b⟩, ⟨h2, h2b⟩, ⟨h3, h3b⟩, ⟨h4, h5⟩, h6, h7, h8⟩ := h
  refine ⟨h0, ⟨?_, h1b⟩, ⟨?_, h2b⟩, ⟨?_, h3b⟩, ⟨?_, ?_⟩, fun k z hk => ?_, fun k q hk => ?_, fun k z hk => ?_⟩
  · simp (disch := omega) only [up_ne1, up_ne2]; exact h1
  · simp (disch := omega) only [up_ne1, up_ne2]; exact h2
  · simp (disch := omega) only [up_ne1, up_ne2]; exact h3
  · simp (disch := omega) only [up_ne2, up_at]; rfl
  · rw [up_at]; rfl
  · simp (disch := omega) only [up_ne1]; exact h6 k z hk
  · have := h7 k q hk
    simp (disch := omega) only [up_ne1]; exact this
  · simp (disch := omega) only [up_ne1]; exact h8 k z hk
theorem DR.fr {σ σ' : Wd} {p : Nat} {d : DS} (h : DR σ p d) (hf : ∀ k, p ≤ k → k < p + 7 → σ' k = σ k) : DR σ' p d := by
  obtain ⟨h0, h1, h2, h3, h4, h6, h7, h8⟩ := h
  have e := hf p (by omega) (by omega)
  refine ⟨h0, by rw [e]; exact h1, by rw [e]; exact h2, by rw [e]; exact h3, by rw [e]; exact h4, fun k z hk => ?_, fun k q hk => ?_, fun k z hk => ?_⟩
  · rw [hf (p + 1) (by omega) (by omega)]; exact h6 k z hk
  · rw [hf (p + 2) (by omega) (by omega), hf (p + 3) (by omega) (by omega), hf (p + 4) (by omega) (by omega), hf (p + 5) (by omega) (by omega)]; exact h7 k q hk
  · rw [hf (p + 6) (by omega) (by omega)]; exact h8 k z hk
/-- the numbers that have been read -/
def NsR (σ : Wd) (ns : List Int) : Prop := σ 3 1 = ns.length ∧ ns.length ≤ 4 ∧ ∀ (k : Nat) (v : Int), ns[k]? = some v → σ 4 k = v ∧ 0 ≤ v ∧ v ≤ 99
theorem NsR.at {σ : Wd} {ns : List Int} (h : NsR σ ns) {k : Nat} (hk : k < ns.length) : σ 4 k = ns.getD k 0 ∧ 0 ≤ ns.getD k 0 ∧ ns.getD k 0 ≤ 99 := by
  refine h.2.2 k _ ?_
  rw [List.getD_eq_getElem?_getD, List.getElem?_eq_getElem hk]; rfl

def i_P_clear : List (Nat × (Instr × Nat)) := [(0, (.aload_n 0, 1)), (1, (.iconst 0, 1)), (2, (.putfield 30, 3)), (5, (.aload_n 0, 1)), (6, (.iconst 0, 1)), (7, (.putfield 34, 3)), (10, (.aload_n 0, 1)), (11, (.iconst 0, 1)), (12, (.putfield 37, 3)), (15, (.aload_n 0, 1)), (16, (.bipush 60, 2)), (18, (.putfield 40, 3)), (21, (.aload_n 0, 1)), (22, (.iconst 4, 1)), (23, (.putfield 43, 3)), (26, (.return_, 1))]
theorem k_P_clear : i_P_clear.all (fun q => decide (decode b_P_clear q.1 = .ok q.2)) = true := by decide +kernel

set_option maxHeartbeats 1000000 in
set_option maxRecDepth 20000 in
theorem c_P_clear (l : Launch) (G : GE) (σ : Wd) (p : Nat) (hp : kd p = 5) : Ct l G y_P_clear b_P_clear 1 (none) 0 0 [vR p] σ (Rt none (fun σ' => DR σ' p d0 ∧ Fr p 7 σ σ')) := by
  refine Ct.of cm_P_clear (Nat.le_of_ble_eq_true rfl) ?_
  intro X hXl hXG hXN hRm C E
  subst hXl; subst hXG
  show V X 0 [some (vR p)] [] σ
  refine V_R (fun hR => ?_)
  refine V_aload_n (pc := 0) C (dk k_P_clear 0 rfl) rfl ?_
  refine V_iconst (pc := 1) C (dk k_P_clear 1 rfl) rfl ?_
  refine V_puti (pc := 2) (ji := 0) C (dk k_P_clear 2 rfl) fl_P_30 fw_5_0 hp (by decide) rfl rfl ⟨by decide, by decide⟩ ?_
  refine V_R (fun hR => ?_)
  refine V_aload_n (pc := 5) C (dk k_P_clear 3 rfl) rfl ?_
  refine V_iconst (pc := 6) C (dk k_P_clear 4 rfl) rfl ?_
  refine V_puti (pc := 7) (ji := 2) C (dk k_P_clear 5 rfl) fl_P_34 fw_5_2 hp (by decide) rfl rfl ⟨by decide, by decide⟩ ?_
  refine V_R (fun hR => ?_)
  refine V_aload_n (pc := 10) C (dk k_P_clear 6 rfl) rfl ?_
  refine V_iconst (pc := 11) C (dk k_P_clear 7 rfl) rfl ?_
  refine V_puti (pc := 12) (ji := 7) C (dk k_P_clear 8 rfl) fl_P_37 fw_5_7 hp (by decide) rfl rfl ⟨by decide, by decide⟩ ?_
  refine V_R (fun hR => ?_)
  refine V_aload_n (pc := 15) C (dk k_P_clear 9 rfl) rfl ?_
  refine V_bipush (pc := 16) (n' := 60) C (dk k_P_clear 10 rfl) rfl ?_
  refine V_puti (pc := 18) (ji := 9) C (dk k_P_clear 11 rfl) fl_P_40 fw_5_9 hp (by decide) rfl rfl ⟨by decide, by decide⟩ ?_
  refine V_R (fun hR => ?_)
  refine V_aload_n (pc := 21) C (dk k_P_clear 12 rfl) rfl ?_
  refine V_iconst (pc := 22) C (dk k_P_clear 13 rfl) rfl ?_
  refine V_puti (pc := 23) (ji := 10) C (dk k_P_clear 14 rfl) fl_P_43 fw_5_10 hp (by decide) rfl rfl ⟨by decide, by decide⟩ ?_
  refine V_R (fun hR => ?_)
  refine V_vret (pc := 26) C E (dk k_P_clear 15 rfl) ?_
  refine ⟨rfl, ⟨hp, ⟨?_, by decide⟩, ⟨?_, by decide⟩, ⟨?_, by decide⟩, ⟨?_, ?_⟩, fun k z h => by simp [dM, d0] at h, fun k q h => by simp [dT, d0] at h, fun k z h => by simp [dX, d0] at h⟩, ((((Fr.rf p 7 σ).up _ _ (by omega) (by omega)).up _ _ (by omega) (by omega)).up _ _ (by omega) (by omega)).up _ _ (by omega) (by omega) |>.up _ _ (by omega) (by omega)⟩
  all_goals (simp (disch := omega) only [up_ne2, up_at]; rfl)

def i_P_addPerson : List (Nat × (Instr × Nat)) := [(0, (.aload_n 0, 1)), (1, (.getfield 30, 3)), (4, (.iconst 5, 1)), (5, (.if_icmp .lt 5, 3)), (8, (.iconst 0, 1)), (9, (.ireturn, 1)), (10, (.aload_n 0, 1)), (11, (.getfield 9, 3)), (14, (.aload_n 0, 1)), (15, (.getfield 30, 3)), (18, (.iload_n 1, 1)), (19, (.invokestatic 50, 3)), (22, (.aload_n 0, 1)), (23, (.dup, 1)), (24, (.getfield 30, 3)), (27, (.iconst 1, 1)), (28, (.iadd, 1)), (29, (.putfield 30, 3)), (32, (.iconst 1, 1)), (33, (.ireturn, 1))]
theorem k_P_addPerson : i_P_addPerson.all (fun q => decide (decode b_P_addPerson q.1 = .ok q.2)) = true := by decide +kernel

set_option maxHeartbeats 1000000 in
set_option maxRecDepth 20000 in
theorem c_P_addPerson (l : Launch) (G : GE) (σ : Wd) (p : Nat) (d : DS) (v : Int) (hd : DR σ p d) (hv : inR v) : Ct l G y_P_addPerson b_P_addPerson 2 (some (.boolean)) 1 22 [vR p, vI v] σ (Rt (some (vI (if (dM d).length < 5 then 1 else 0))) (fun σ' => ((dM d).length < 5 → DR σ' p (dM d ++ [v], d.2)) ∧ Fr p 7 σ σ')) := by
  refine Ct.of cm_P_addPerson (Nat.le_of_ble_eq_true rfl) ?_
  intro X hXl hXG hXN hRm C E
  subst hXl; subst hXG
  have ⟨hv_1, hv_2⟩ := hv
  show V X 0 [some (vR p), some (vI v)] [] σ
  refine V_R (fun hR => ?_)
  obtain ⟨hp, ⟨a0, a1⟩, ⟨b0, b1⟩, ⟨c0, c1⟩, ⟨s0, s1⟩, r1, r2, r3⟩ := id hd
  obtain ⟨hp_1, hp_2, hp_3, hp_4, hp_5, hp_6⟩ := kd_P hp
  refine V_aload_n (pc := 0) C (dk k_P_addPerson 0 rfl) rfl ?_
  refine V_geti (pc := 1) (ji := 0) C (dk k_P_addPerson 1 rfl) fl_P_30 hp (by decide) rfl rfl ?_
  refine V_iconst (pc := 4) C (dk k_P_addPerson 2 rfl) rfl ?_
  refine V_icmplt (pc := 5) C (dk k_P_addPerson 3 rfl) 10 rfl (by first | exact hR _ _ | with_reducible assumption | exact ⟨by omega, by omega⟩) (by first | exact hR _ _ | with_reducible assumption | exact ⟨by omega, by omega⟩) (fun h1 => ?_) (fun h1 => ?_)
  · skip
    refine V_aload_n (pc := 10) C (dk k_P_addPerson 6 rfl) rfl ?_
    refine V_getr (pc := 11) (o2 := p + 1) C (dk k_P_addPerson 7 rfl) fl_P_9 hp (by decide) rfl (by decide) rfl ?_
    refine V_aload_n (pc := 14) C (dk k_P_addPerson 8 rfl) rfl ?_
    refine V_geti (pc := 15) (ji := 0) C (dk k_P_addPerson 9 rfl) fl_P_30 hp (by decide) rfl rfl ?_
    refine V_iload_n (pc := 18) C (dk k_P_addPerson 10 rfl) rfl ?_
    rw [a0]
    refine V_callS0 (pc := 19) C (dk k_P_addPerson 11 rfl) lk_P_50 cm_F_put sm_F_put (c_put _ _ _ (p + 1) 5 ((dM d).length : Int) v hp_1 (by decide) (by omega) (by omega) hv) rfl rfl (Nat.le_of_ble_eq_true rfl) (Rm.mono hRm (by decide) (by decide)) ?_
    refine V_R (fun hR => ?_)
    refine V_aload_n (pc := 22) C (dk k_P_addPerson 12 rfl) rfl ?_
    refine V_dupR (pc := 23) C (dk k_P_addPerson 13 rfl) ?_
    refine V_geti (pc := 24) (ji := 0) C (dk k_P_addPerson 14 rfl) fl_P_30 hp (by decide) rfl rfl ?_
    refine V_iconst (pc := 27) C (dk k_P_addPerson 15 rfl) rfl ?_
    have e1 : up σ (p + 1) ((dM d).length : Int) v p 0 = (dM d).length := by rw [up_ne1 _ _ _ _ (by omega)]; exact a0
    rw [e1]
    refine V_iadd (pc := 28) C (dk k_P_addPerson 16 rfl) ?_
    refine V_puti (pc := 29) (ji := 0) C (dk k_P_addPerson 17 rfl) fl_P_30 fw_5_0 hp (by decide) rfl rfl ⟨by omega, by omega⟩ ?_
    refine V_R (fun hR => ?_)
    refine V_iconst (pc := 32) C (dk k_P_addPerson 18 rfl) rfl ?_
    refine V_zret (pc := 33) C (by first | exact Or.inl rfl | exact Or.inr rfl | (split <;> first | exact Or.inl rfl | exact Or.inr rfl) | omega) E (dk k_P_addPerson 19 rfl) ?_
    rw [if_pos (by omega)]
    exact ⟨rfl, fun z => hd.addM z v, ((Fr.rf p 7 σ).up _ _ (by omega) (by omega)).up _ _ (by omega) (by omega)⟩
  · skip
    refine V_iconst (pc := 8) C (dk k_P_addPerson 4 rfl) rfl ?_
    refine V_zret (pc := 9) C (by first | exact Or.inl rfl | exact Or.inr rfl | (split <;> first | exact Or.inl rfl | exact Or.inr rfl) | omega) E (dk k_P_addPerson 5 rfl) ?_
    rw [if_neg (by omega)]
    exact ⟨rfl, fun z => by omega, Fr.rf _ _ _⟩

def i_P_addRate : List (Nat × (Instr × Nat)) := [(0, (.aload_n 0, 1)), (1, (.getfield 37, 3)), (4, (.bipush 12, 2)), (6, (.if_icmp .ge 9, 3)), (9, (.iload_n 1, 1)), (10, (.bipush 9, 2)), (12, (.if_icmp .le 5, 3)), (15, (.iconst 0, 1)), (16, (.ireturn, 1)), (17, (.aload_n 0, 1)), (18, (.getfield 27, 3)), (21, (.aload_n 0, 1)), (22, (.getfield 37, 3)), (25, (.iload_n 1, 1)), (26, (.invokestatic 50, 3)), (29, (.aload_n 0, 1)), (30, (.dup, 1)), (31, (.getfield 37, 3)), (34, (.iconst 1, 1)), (35, (.iadd, 1)), (36, (.putfield 37, 3)), (39, (.iconst 1, 1)), (40, (.ireturn, 1))]
theorem k_P_addRate : i_P_addRate.all (fun q => decide (decode b_P_addRate q.1 = .ok q.2)) = true := by decide +kernel

set_option maxHeartbeats 1000000 in
set_option maxRecDepth 20000 in
theorem c_P_addRate (l : Launch) (G : GE) (σ : Wd) (p : Nat) (d : DS) (v : Int) (hd : DR σ p d) (hv : inR v) : Ct l G y_P_addRate b_P_addRate 2 (some (.boolean)) 1 22 [vR p, vI v] σ (Rt (some (vI (if (dX d).length < 12 ∧ v ≤ 9 then 1 else 0))) (fun σ' => ((dX d).length < 12 ∧ v ≤ 9 → DR σ' p (dM d, (dT d, (dX d ++ [v], d.2.2.2)))) ∧ Fr p 7 σ σ')) := by
  refine Ct.of cm_P_addRate (Nat.le_of_ble_eq_true rfl) ?_
  intro X hXl hXG hXN hRm C E
  subst hXl; subst hXG
  have ⟨hv_1, hv_2⟩ := hv
  show V X 0 [some (vR p), some (vI v)] [] σ
  refine V_R (fun hR => ?_)
  obtain ⟨hp, ⟨a0, a1⟩, ⟨b0, b1⟩, ⟨c0, c1⟩, ⟨s0, s1⟩, r1, r2, r3⟩ := id hd
  obtain ⟨hp_1, hp_2, hp_3, hp_4, hp_5, hp_6⟩ := kd_P hp
  refine V_aload_n (pc := 0) C (dk k_P_addRate 0 rfl) rfl ?_
  refine V_geti (pc := 1) (ji := 7) C (dk k_P_addRate 1 rfl) fl_P_37 hp (by decide) rfl rfl ?_
  refine V_bipush (pc := 4) (n' := 12) C (dk k_P_addRate 2 rfl) rfl ?_
  refine V_icmpge (pc := 6) C (dk k_P_addRate 3 rfl) 15 rfl (by first | exact hR _ _ | with_reducible assumption | exact ⟨by omega, by omega⟩) (by first | exact hR _ _ | with_reducible assumption | exact ⟨by omega, by omega⟩) (fun h1 => ?_) (fun h1 => ?_)
  · skip
    refine V_iconst (pc := 15) C (dk k_P_addRate 7 rfl) rfl ?_
    refine V_zret (pc := 16) C (by first | exact Or.inl rfl | exact Or.inr rfl | (split <;> first | exact Or.inl rfl | exact Or.inr rfl) | omega) E (dk k_P_addRate 8 rfl) ?_
    rw [if_neg (by omega)]
    exact ⟨rfl, fun z => by omega, Fr.rf _ _ _⟩
  · skip
    refine V_iload_n (pc := 9) C (dk k_P_addRate 4 rfl) rfl ?_
    refine V_bipush (pc := 10) (n' := 9) C (dk k_P_addRate 5 rfl) rfl ?_
    refine V_icmple (pc := 12) C (dk k_P_addRate 6 rfl) 17 rfl (by first | exact hR _ _ | with_reducible assumption | exact ⟨by omega, by omega⟩) (by first | exact hR _ _ | with_reducible assumption | exact ⟨by omega, by omega⟩) (fun h2 => ?_) (fun h2 => ?_)
    · skip
      refine V_aload_n (pc := 17) C (dk k_P_addRate 9 rfl) rfl ?_
      refine V_getr (pc := 18) (o2 := p + 6) C (dk k_P_addRate 10 rfl) fl_P_27 hp (by decide) rfl (by decide) rfl ?_
      refine V_aload_n (pc := 21) C (dk k_P_addRate 11 rfl) rfl ?_
      refine V_geti (pc := 22) (ji := 7) C (dk k_P_addRate 12 rfl) fl_P_37 hp (by decide) rfl rfl ?_
      refine V_iload_n (pc := 25) C (dk k_P_addRate 13 rfl) rfl ?_
      rw [c0]
      refine V_callS0 (pc := 26) C (dk k_P_addRate 14 rfl) lk_P_50 cm_F_put sm_F_put (c_put _ _ _ (p + 6) 12 ((dX d).length : Int) v hp_6 (by decide) (by omega) (by omega) hv) rfl rfl (Nat.le_of_ble_eq_true rfl) (Rm.mono hRm (by decide) (by decide)) ?_
      refine V_R (fun hR => ?_)
      refine V_aload_n (pc := 29) C (dk k_P_addRate 15 rfl) rfl ?_
      refine V_dupR (pc := 30) C (dk k_P_addRate 16 rfl) ?_
      refine V_geti (pc := 31) (ji := 7) C (dk k_P_addRate 17 rfl) fl_P_37 hp (by decide) rfl rfl ?_
      refine V_iconst (pc := 34) C (dk k_P_addRate 18 rfl) rfl ?_
      have e1 : up σ (p + 6) ((dX d).length : Int) v p 7 = (dX d).length := by rw [up_ne1 _ _ _ _ (by omega)]; exact c0
      rw [e1]
      refine V_iadd (pc := 35) C (dk k_P_addRate 19 rfl) ?_
      refine V_puti (pc := 36) (ji := 7) C (dk k_P_addRate 20 rfl) fl_P_37 fw_5_7 hp (by decide) rfl rfl ⟨by omega, by omega⟩ ?_
      refine V_R (fun hR => ?_)
      refine V_iconst (pc := 39) C (dk k_P_addRate 21 rfl) rfl ?_
      refine V_zret (pc := 40) C (by first | exact Or.inl rfl | exact Or.inr rfl | (split <;> first | exact Or.inl rfl | exact Or.inr rfl) | omega) E (dk k_P_addRate 22 rfl) ?_
      rw [if_pos (by omega)]
      exact ⟨rfl, fun z => hd.addX z.1 v, ((Fr.rf p 7 σ).up _ _ (by omega) (by omega)).up _ _ (by omega) (by omega)⟩
    · skip
      refine V_iconst (pc := 15) C (dk k_P_addRate 7 rfl) rfl ?_
      refine V_zret (pc := 16) C (by first | exact Or.inl rfl | exact Or.inr rfl | (split <;> first | exact Or.inl rfl | exact Or.inr rfl) | omega) E (dk k_P_addRate 8 rfl) ?_
      rw [if_neg (by omega)]
      exact ⟨rfl, fun z => by omega, Fr.rf _ _ _⟩

def i_P_setShop : List (Nat × (Instr × Nat)) := [(0, (.iload_n 2, 1)), (1, (.bipush 20, 2)), (3, (.if_icmp .le 5, 3)), (6, (.iconst 0, 1)), (7, (.ireturn, 1)), (8, (.aload_n 0, 1)), (9, (.iload_n 1, 1)), (10, (.putfield 40, 3)), (13, (.aload_n 0, 1)), (14, (.iload_n 2, 1)), (15, (.putfield 43, 3)), (18, (.iconst 1, 1)), (19, (.ireturn, 1))]
theorem k_P_setShop : i_P_setShop.all (fun q => decide (decode b_P_setShop q.1 = .ok q.2)) = true := by decide +kernel

set_option maxHeartbeats 1000000 in
set_option maxRecDepth 20000 in
theorem c_P_setShop (l : Launch) (G : GE) (σ : Wd) (p : Nat) (d : DS) (a b : Int) (hd : DR σ p d) (ha : inR a) (hb : inR b) : Ct l G y_P_setShop b_P_setShop 3 (some (.boolean)) 0 0 [vR p, vI a, vI b] σ (Rt (some (vI (if b ≤ 20 then 1 else 0))) (fun σ' => (b ≤ 20 → DR σ' p (dM d, (dT d, (dX d, (a, b))))) ∧ Fr p 7 σ σ')) := by
  refine Ct.of cm_P_setShop (Nat.le_of_ble_eq_true rfl) ?_
  intro X hXl hXG hXN hRm C E
  subst hXl; subst hXG
  have ⟨ha_1, ha_2⟩ := ha
  have ⟨hb_1, hb_2⟩ := hb
  show V X 0 [some (vR p), some (vI a), some (vI b)] [] σ
  refine V_R (fun hR => ?_)
  obtain ⟨hp, ⟨a0, a1⟩, ⟨b0, b1⟩, ⟨c0, c1⟩, ⟨s0, s1⟩, r1, r2, r3⟩ := id hd
  obtain ⟨hp_1, hp_2, hp_3, hp_4, hp_5, hp_6⟩ := kd_P hp
  refine V_iload_n (pc := 0) C (dk k_P_setShop 0 rfl) rfl ?_
  refine V_bipush (pc := 1) (n' := 20) C (dk k_P_setShop 1 rfl) rfl ?_
  refine V_icmple (pc := 3) C (dk k_P_setShop 2 rfl) 8 rfl (by first | exact hR _ _ | with_reducible assumption | exact ⟨by omega, by omega⟩) (by first | exact hR _ _ | with_reducible assumption | exact ⟨by omega, by omega⟩) (fun h1 => ?_) (fun h1 => ?_)
  · skip
    refine V_aload_n (pc := 8) C (dk k_P_setShop 5 rfl) rfl ?_
    refine V_iload_n (pc := 9) C (dk k_P_setShop 6 rfl) rfl ?_
    refine V_puti (pc := 10) (ji := 9) C (dk k_P_setShop 7 rfl) fl_P_40 fw_5_9 hp (by decide) rfl rfl ha ?_
    refine V_R (fun hR => ?_)
    refine V_aload_n (pc := 13) C (dk k_P_setShop 8 rfl) rfl ?_
    refine V_iload_n (pc := 14) C (dk k_P_setShop 9 rfl) rfl ?_
    refine V_puti (pc := 15) (ji := 10) C (dk k_P_setShop 10 rfl) fl_P_43 fw_5_10 hp (by decide) rfl rfl hb ?_
    refine V_R (fun hR => ?_)
    refine V_iconst (pc := 18) C (dk k_P_setShop 11 rfl) rfl ?_
    refine V_zret (pc := 19) C (by first | exact Or.inl rfl | exact Or.inr rfl | (split <;> first | exact Or.inl rfl | exact Or.inr rfl) | omega) E (dk k_P_setShop 12 rfl) ?_
    rw [if_pos (by omega)]
    exact ⟨rfl, fun z => hd.shop a b, ((Fr.rf p 7 σ).up _ _ (by omega) (by omega)).up _ _ (by omega) (by omega)⟩
  · skip
    refine V_iconst (pc := 6) C (dk k_P_setShop 3 rfl) rfl ?_
    refine V_zret (pc := 7) C (by first | exact Or.inl rfl | exact Or.inr rfl | (split <;> first | exact Or.inl rfl | exact Or.inr rfl) | omega) E (dk k_P_setShop 4 rfl) ?_
    rw [if_neg (by omega)]
    exact ⟨rfl, fun z => by omega, Fr.rf _ _ _⟩

def i_P_addThing : List (Nat × (Instr × Nat)) := [(0, (.aload_n 0, 1)), (1, (.getfield 34, 3)), (4, (.bipush 8, 2)), (6, (.if_icmp .ge 51, 3)), (9, (.iload_n 1, 1)), (10, (.iconst 0, 1)), (11, (.aload_n 0, 1)), (12, (.getfield 30, 3)), (15, (.iconst 1, 1)), (16, (.isub, 1)), (17, (.invokestatic 54, 3)), (20, (.ifCond .eq 37, 3)), (23, (.iload_n 2, 1)), (24, (.iconst 0, 1)), (25, (.iconst 3, 1)), (26, (.invokestatic 54, 3)), (29, (.ifCond .eq 28, 3)), (32, (.iload_n 3, 1)), (33, (.iconst 1, 1)), (34, (.bipush 20, 2)), (36, (.invokestatic 54, 3)), (39, (.ifCond .eq 18, 3)), (42, (.iload 4, 2)), (44, (.iconst 0, 1)), (45, (.bipush 20, 2)), (47, (.invokestatic 54, 3)), (50, (.ifCond .eq 7, 3)), (53, (.iconst 1, 1)), (54, (.goto 4, 3)), (57, (.iconst 0, 1)), (58, (.istore 5, 2)), (60, (.iload 5, 2)), (62, (.ifCond .ne 5, 3)), (65, (.iconst 0, 1)), (66, (.ireturn, 1)), (67, (.aload_n 0, 1)), (68, (.getfield 15, 3)), (71, (.aload_n 0, 1)), (72, (.getfield 34, 3)), (75, (.iload_n 1, 1)), (76, (.invokestatic 50, 3)), (79, (.aload_n 0, 1)), (80, (.getfield 18, 3)), (83, (.aload_n 0, 1)), (84, (.getfield 34, 3)), (87, (.iload_n 2, 1)), (88, (.invokestatic 50, 3)), (91, (.aload_n 0, 1)), (92, (.getfield 21, 3)), (95, (.aload_n 0, 1)), (96, (.getfield 34, 3)), (99, (.iload_n 3, 1)), (100, (.invokestatic 50, 3)), (103, (.aload_n 0, 1)), (104, (.getfield 24, 3)), (107, (.aload_n 0, 1)), (108, (.getfield 34, 3)), (111, (.iload 4, 2)), (113, (.invokestatic 50, 3)), (116, (.aload_n 0, 1)), (117, (.dup, 1)), (118, (.getfield 34, 3)), (121, (.iconst 1, 1)), (122, (.iadd, 1)), (123, (.putfield 34, 3)), (126, (.iconst 1, 1)), (127, (.ireturn, 1))]
theorem k_P_addThing : i_P_addThing.all (fun q => decide (decode b_P_addThing q.1 = .ok q.2)) = true := by decide +kernel

set_option maxHeartbeats 1000000 in
set_option maxRecDepth 20000 in
theorem c_P_addThing (l : Launch) (G : GE) (σ : Wd) (p : Nat) (d : DS) (a b c e : Int) (hd : DR σ p d) (ha : inR a) (hb : inR b) (hc : inR c) (he : inR e) : Ct l G y_P_addThing b_P_addThing 6 (some (.boolean)) 1 22 [vR p, vI a, vI b, vI c, vI e] σ (Rt (some (vI (if (dT d).length < 8 ∧ (0 ≤ a ∧ a ≤ (dM d).length - 1) ∧ (0 ≤ b ∧ b ≤ 3) ∧ (1 ≤ c ∧ c ≤ 20) ∧ (0 ≤ e ∧ e ≤ 20) then 1 else 0))) (fun σ' => ((dT d).length < 8 ∧ (0 ≤ a ∧ a ≤ (dM d).length - 1) ∧ (0 ≤ b ∧ b ≤ 3) ∧ (1 ≤ c ∧ c ≤ 20) ∧ (0 ≤ e ∧ e ≤ 20) → DR σ' p (dM d, (dT d ++ [(a, (b, (c, e)))], d.2.2))) ∧ Fr p 7 σ σ')) := by
  refine Ct.of cm_P_addThing (Nat.le_of_ble_eq_true rfl) ?_
  intro X hXl hXG hXN hRm C E
  subst hXl; subst hXG
  have ⟨ha_1, ha_2⟩ := ha
  have ⟨hb_1, hb_2⟩ := hb
  have ⟨hc_1, hc_2⟩ := hc
  have ⟨he_1, he_2⟩ := he
  show V X 0 [some (vR p), some (vI a), some (vI b), some (vI c), some (vI e), none] [] σ
  refine V_R (fun hR => ?_)
  obtain ⟨hp, ⟨a0, a1⟩, ⟨b0, b1⟩, ⟨c0, c1⟩, ⟨s0, s1⟩, r1, r2, r3⟩ := id hd
  obtain ⟨hp_1, hp_2, hp_3, hp_4, hp_5, hp_6⟩ := kd_P hp
  refine V_aload_n (pc := 0) C (dk k_P_addThing 0 rfl) rfl ?_
  refine V_geti (pc := 1) (ji := 2) C (dk k_P_addThing 1 rfl) fl_P_34 hp (by decide) rfl rfl ?_
  refine V_bipush (pc := 4) (n' := 8) C (dk k_P_addThing 2 rfl) rfl ?_
  refine V_icmpge (pc := 6) C (dk k_P_addThing 3 rfl) 57 rfl (by first | exact hR _ _ | with_reducible assumption | exact ⟨by omega, by omega⟩) (by first | exact hR _ _ | with_reducible assumption | exact ⟨by omega, by omega⟩) (fun h1 => ?_) (fun h1 => ?_)
  · skip
    refine V_iconst (pc := 57) C (dk k_P_addThing 29 rfl) rfl ?_
    refine V_istore (pc := 58) C (dk k_P_addThing 30 rfl) (by rw [hXN]; decide) ?_
    dsimp only [lst, lstL, lz, kill, Fin.val, Nat.reduceAdd]
    refine V_iload (pc := 60) C (dk k_P_addThing 31 rfl) rfl ?_
    refine V_ifne (pc := 62) C (dk k_P_addThing 32 rfl) 67 rfl (by first | exact hR _ _ | with_reducible assumption | exact ⟨by omega, by omega⟩) (fun h2 => ?_) (fun h2 => ?_)
    · skip
      refine V_aload_n (pc := 67) C (dk k_P_addThing 35 rfl) rfl ?_
      refine V_getr (pc := 68) (o2 := p + 2) C (dk k_P_addThing 36 rfl) fl_P_15 hp (by decide) rfl (by decide) rfl ?_
      refine V_aload_n (pc := 71) C (dk k_P_addThing 37 rfl) rfl ?_
      refine V_geti (pc := 72) (ji := 2) C (dk k_P_addThing 38 rfl) fl_P_34 hp (by decide) rfl rfl ?_
      rw [b0]
      refine V_iload_n (pc := 75) C (dk k_P_addThing 39 rfl) rfl ?_
      refine V_callS0 (pc := 76) C (dk k_P_addThing 40 rfl) lk_P_50 cm_F_put sm_F_put (c_put _ _ _ (p + 2) 8 ((dT d).length : Int) a hp_2 (by decide) (by omega) (by omega) ha) rfl rfl (Nat.le_of_ble_eq_true rfl) (Rm.mono hRm (by decide) (by decide)) ?_
      refine V_R (fun hR => ?_)
      refine V_aload_n (pc := 79) C (dk k_P_addThing 41 rfl) rfl ?_
      refine V_getr (pc := 80) (o2 := p + 3) C (dk k_P_addThing 42 rfl) fl_P_18 hp (by decide) rfl (by decide) rfl ?_
      refine V_aload_n (pc := 83) C (dk k_P_addThing 43 rfl) rfl ?_
      refine V_geti (pc := 84) (ji := 2) C (dk k_P_addThing 44 rfl) fl_P_34 hp (by decide) rfl rfl ?_
      have e1 : up σ (p + 2) ((dT d).length : Int) a p 2 = ((dT d).length : Int) := (up_ne1 _ _ _ _ (by omega)).trans b0
      rw [e1]
      refine V_iload_n (pc := 87) C (dk k_P_addThing 45 rfl) rfl ?_
      refine V_callS0 (pc := 88) C (dk k_P_addThing 46 rfl) lk_P_50 cm_F_put sm_F_put (c_put _ _ _ (p + 3) 8 ((dT d).length : Int) b hp_3 (by decide) (by omega) (by omega) hb) rfl rfl (Nat.le_of_ble_eq_true rfl) (Rm.mono hRm (by decide) (by decide)) ?_
      refine V_R (fun hR => ?_)
      refine V_aload_n (pc := 91) C (dk k_P_addThing 47 rfl) rfl ?_
      refine V_getr (pc := 92) (o2 := p + 4) C (dk k_P_addThing 48 rfl) fl_P_21 hp (by decide) rfl (by decide) rfl ?_
      refine V_aload_n (pc := 95) C (dk k_P_addThing 49 rfl) rfl ?_
      refine V_geti (pc := 96) (ji := 2) C (dk k_P_addThing 50 rfl) fl_P_34 hp (by decide) rfl rfl ?_
      have e2 : up (up σ (p + 2) ((dT d).length : Int) a) (p + 3) ((dT d).length : Int) b p 2 = ((dT d).length : Int) := (up_ne1 _ _ _ _ (by omega)).trans e1
      rw [e2]
      refine V_iload_n (pc := 99) C (dk k_P_addThing 51 rfl) rfl ?_
      refine V_callS0 (pc := 100) C (dk k_P_addThing 52 rfl) lk_P_50 cm_F_put sm_F_put (c_put _ _ _ (p + 4) 8 ((dT d).length : Int) c hp_4 (by decide) (by omega) (by omega) hc) rfl rfl (Nat.le_of_ble_eq_true rfl) (Rm.mono hRm (by decide) (by decide)) ?_
      refine V_R (fun hR => ?_)
      refine V_aload_n (pc := 103) C (dk k_P_addThing 53 rfl) rfl ?_
      refine V_getr (pc := 104) (o2 := p + 5) C (dk k_P_addThing 54 rfl) fl_P_24 hp (by decide) rfl (by decide) rfl ?_
      refine V_aload_n (pc := 107) C (dk k_P_addThing 55 rfl) rfl ?_
      refine V_geti (pc := 108) (ji := 2) C (dk k_P_addThing 56 rfl) fl_P_34 hp (by decide) rfl rfl ?_
      have e3 : up (up (up σ (p + 2) ((dT d).length : Int) a) (p + 3) ((dT d).length : Int) b) (p + 4) ((dT d).length : Int) c p 2 = ((dT d).length : Int) := (up_ne1 _ _ _ _ (by omega)).trans e2
      rw [e3]
      refine V_iload (pc := 111) C (dk k_P_addThing 57 rfl) rfl ?_
      refine V_callS0 (pc := 113) C (dk k_P_addThing 58 rfl) lk_P_50 cm_F_put sm_F_put (c_put _ _ _ (p + 5) 8 ((dT d).length : Int) e hp_5 (by decide) (by omega) (by omega) he) rfl rfl (Nat.le_of_ble_eq_true rfl) (Rm.mono hRm (by decide) (by decide)) ?_
      refine V_R (fun hR => ?_)
      refine V_aload_n (pc := 116) C (dk k_P_addThing 59 rfl) rfl ?_
      refine V_dupR (pc := 117) C (dk k_P_addThing 60 rfl) ?_
      refine V_geti (pc := 118) (ji := 2) C (dk k_P_addThing 61 rfl) fl_P_34 hp (by decide) rfl rfl ?_
      have e4 : up (up (up (up σ (p + 2) ((dT d).length : Int) a) (p + 3) ((dT d).length : Int) b) (p + 4) ((dT d).length : Int) c) (p + 5) ((dT d).length : Int) e p 2 = ((dT d).length : Int) := (up_ne1 _ _ _ _ (by omega)).trans e3
      rw [e4]
      refine V_iconst (pc := 121) C (dk k_P_addThing 62 rfl) rfl ?_
      refine V_iadd (pc := 122) C (dk k_P_addThing 63 rfl) ?_
      refine V_puti (pc := 123) (ji := 2) C (dk k_P_addThing 64 rfl) fl_P_34 fw_5_2 hp (by decide) rfl rfl ⟨by omega, by omega⟩ ?_
      refine V_R (fun hR => ?_)
      refine V_iconst (pc := 126) C (dk k_P_addThing 65 rfl) rfl ?_
      refine V_zret (pc := 127) C (by first | exact Or.inl rfl | exact Or.inr rfl | (split <;> first | exact Or.inl rfl | exact Or.inr rfl) | omega) E (dk k_P_addThing 66 rfl) ?_
      first | (exfalso; omega) | (rw [if_pos (by omega)]; exact ⟨rfl, fun z => hd.addT (by omega) a b c e, ((((Fr.rf p 7 σ).up _ _ (by omega) (by omega)).up _ _ (by omega) (by omega)).up _ _ (by omega) (by omega)).up _ _ (by omega) (by omega) |>.up _ _ (by omega) (by omega)⟩)
    · skip
      refine V_iconst (pc := 65) C (dk k_P_addThing 33 rfl) rfl ?_
      refine V_zret (pc := 66) C (by first | exact Or.inl rfl | exact Or.inr rfl | (split <;> first | exact Or.inl rfl | exact Or.inr rfl) | omega) E (dk k_P_addThing 34 rfl) ?_
      first | (exfalso; omega) | (rw [if_neg (by omega)]; exact ⟨rfl, fun z => by omega, Fr.rf _ _ _⟩)
  · skip
    refine V_iload_n (pc := 9) C (dk k_P_addThing 4 rfl) rfl ?_
    refine V_iconst (pc := 10) C (dk k_P_addThing 5 rfl) rfl ?_
    refine V_aload_n (pc := 11) C (dk k_P_addThing 6 rfl) rfl ?_
    refine V_geti (pc := 12) (ji := 0) C (dk k_P_addThing 7 rfl) fl_P_30 hp (by decide) rfl rfl ?_
    refine V_iconst (pc := 15) C (dk k_P_addThing 8 rfl) rfl ?_
    refine V_isub (pc := 16) C (dk k_P_addThing 9 rfl) ?_
    refine V_callS (pc := 17) C (dk k_P_addThing 10 rfl) lk_P_54 cm_F_within sm_F_within (c_F_within _ _ _ a 0 (σ p 0 - 1) ha R0 ⟨by omega, by omega⟩) rfl rfl (Nat.le_of_ble_eq_true rfl) (Rm.mono hRm (by decide) (by decide)) ?_
    refine V_ifeqB (pc := 20) C (dk k_P_addThing 11 rfl) 57 rfl (fun h3 => ?_) (fun h3 => ?_)
    · skip
      refine V_iconst (pc := 57) C (dk k_P_addThing 29 rfl) rfl ?_
      refine V_istore (pc := 58) C (dk k_P_addThing 30 rfl) (by rw [hXN]; decide) ?_
      dsimp only [lst, lstL, lz, kill, Fin.val, Nat.reduceAdd]
      refine V_iload (pc := 60) C (dk k_P_addThing 31 rfl) rfl ?_
      refine V_ifne (pc := 62) C (dk k_P_addThing 32 rfl) 67 rfl (by first | exact hR _ _ | with_reducible assumption | exact ⟨by omega, by omega⟩) (fun h4 => ?_) (fun h4 => ?_)
      · skip
        refine V_aload_n (pc := 67) C (dk k_P_addThing 35 rfl) rfl ?_
        refine V_getr (pc := 68) (o2 := p + 2) C (dk k_P_addThing 36 rfl) fl_P_15 hp (by decide) rfl (by decide) rfl ?_
        refine V_aload_n (pc := 71) C (dk k_P_addThing 37 rfl) rfl ?_
        refine V_geti (pc := 72) (ji := 2) C (dk k_P_addThing 38 rfl) fl_P_34 hp (by decide) rfl rfl ?_
        rw [b0]
        refine V_iload_n (pc := 75) C (dk k_P_addThing 39 rfl) rfl ?_
        refine V_callS0 (pc := 76) C (dk k_P_addThing 40 rfl) lk_P_50 cm_F_put sm_F_put (c_put _ _ _ (p + 2) 8 ((dT d).length : Int) a hp_2 (by decide) (by omega) (by omega) ha) rfl rfl (Nat.le_of_ble_eq_true rfl) (Rm.mono hRm (by decide) (by decide)) ?_
        refine V_R (fun hR => ?_)
        refine V_aload_n (pc := 79) C (dk k_P_addThing 41 rfl) rfl ?_
        refine V_getr (pc := 80) (o2 := p + 3) C (dk k_P_addThing 42 rfl) fl_P_18 hp (by decide) rfl (by decide) rfl ?_
        refine V_aload_n (pc := 83) C (dk k_P_addThing 43 rfl) rfl ?_
        refine V_geti (pc := 84) (ji := 2) C (dk k_P_addThing 44 rfl) fl_P_34 hp (by decide) rfl rfl ?_
        have e1 : up σ (p + 2) ((dT d).length : Int) a p 2 = ((dT d).length : Int) := (up_ne1 _ _ _ _ (by omega)).trans b0
        rw [e1]
        refine V_iload_n (pc := 87) C (dk k_P_addThing 45 rfl) rfl ?_
        refine V_callS0 (pc := 88) C (dk k_P_addThing 46 rfl) lk_P_50 cm_F_put sm_F_put (c_put _ _ _ (p + 3) 8 ((dT d).length : Int) b hp_3 (by decide) (by omega) (by omega) hb) rfl rfl (Nat.le_of_ble_eq_true rfl) (Rm.mono hRm (by decide) (by decide)) ?_
        refine V_R (fun hR => ?_)
        refine V_aload_n (pc := 91) C (dk k_P_addThing 47 rfl) rfl ?_
        refine V_getr (pc := 92) (o2 := p + 4) C (dk k_P_addThing 48 rfl) fl_P_21 hp (by decide) rfl (by decide) rfl ?_
        refine V_aload_n (pc := 95) C (dk k_P_addThing 49 rfl) rfl ?_
        refine V_geti (pc := 96) (ji := 2) C (dk k_P_addThing 50 rfl) fl_P_34 hp (by decide) rfl rfl ?_
        have e2 : up (up σ (p + 2) ((dT d).length : Int) a) (p + 3) ((dT d).length : Int) b p 2 = ((dT d).length : Int) := (up_ne1 _ _ _ _ (by omega)).trans e1
        rw [e2]
        refine V_iload_n (pc := 99) C (dk k_P_addThing 51 rfl) rfl ?_
        refine V_callS0 (pc := 100) C (dk k_P_addThing 52 rfl) lk_P_50 cm_F_put sm_F_put (c_put _ _ _ (p + 4) 8 ((dT d).length : Int) c hp_4 (by decide) (by omega) (by omega) hc) rfl rfl (Nat.le_of_ble_eq_true rfl) (Rm.mono hRm (by decide) (by decide)) ?_
        refine V_R (fun hR => ?_)
        refine V_aload_n (pc := 103) C (dk k_P_addThing 53 rfl) rfl ?_
        refine V_getr (pc := 104) (o2 := p + 5) C (dk k_P_addThing 54 rfl) fl_P_24 hp (by decide) rfl (by decide) rfl ?_
        refine V_aload_n (pc := 107) C (dk k_P_addThing 55 rfl) rfl ?_
        refine V_geti (pc := 108) (ji := 2) C (dk k_P_addThing 56 rfl) fl_P_34 hp (by decide) rfl rfl ?_
        have e3 : up (up (up σ (p + 2) ((dT d).length : Int) a) (p + 3) ((dT d).length : Int) b) (p + 4) ((dT d).length : Int) c p 2 = ((dT d).length : Int) := (up_ne1 _ _ _ _ (by omega)).trans e2
        rw [e3]
        refine V_iload (pc := 111) C (dk k_P_addThing 57 rfl) rfl ?_
        refine V_callS0 (pc := 113) C (dk k_P_addThing 58 rfl) lk_P_50 cm_F_put sm_F_put (c_put _ _ _ (p + 5) 8 ((dT d).length : Int) e hp_5 (by decide) (by omega) (by omega) he) rfl rfl (Nat.le_of_ble_eq_true rfl) (Rm.mono hRm (by decide) (by decide)) ?_
        refine V_R (fun hR => ?_)
        refine V_aload_n (pc := 116) C (dk k_P_addThing 59 rfl) rfl ?_
        refine V_dupR (pc := 117) C (dk k_P_addThing 60 rfl) ?_
        refine V_geti (pc := 118) (ji := 2) C (dk k_P_addThing 61 rfl) fl_P_34 hp (by decide) rfl rfl ?_
        have e4 : up (up (up (up σ (p + 2) ((dT d).length : Int) a) (p + 3) ((dT d).length : Int) b) (p + 4) ((dT d).length : Int) c) (p + 5) ((dT d).length : Int) e p 2 = ((dT d).length : Int) := (up_ne1 _ _ _ _ (by omega)).trans e3
        rw [e4]
        refine V_iconst (pc := 121) C (dk k_P_addThing 62 rfl) rfl ?_
        refine V_iadd (pc := 122) C (dk k_P_addThing 63 rfl) ?_
        refine V_puti (pc := 123) (ji := 2) C (dk k_P_addThing 64 rfl) fl_P_34 fw_5_2 hp (by decide) rfl rfl ⟨by omega, by omega⟩ ?_
        refine V_R (fun hR => ?_)
        refine V_iconst (pc := 126) C (dk k_P_addThing 65 rfl) rfl ?_
        refine V_zret (pc := 127) C (by first | exact Or.inl rfl | exact Or.inr rfl | (split <;> first | exact Or.inl rfl | exact Or.inr rfl) | omega) E (dk k_P_addThing 66 rfl) ?_
        first | (exfalso; omega) | (rw [if_pos (by omega)]; exact ⟨rfl, fun z => hd.addT (by omega) a b c e, ((((Fr.rf p 7 σ).up _ _ (by omega) (by omega)).up _ _ (by omega) (by omega)).up _ _ (by omega) (by omega)).up _ _ (by omega) (by omega) |>.up _ _ (by omega) (by omega)⟩)
      · skip
        refine V_iconst (pc := 65) C (dk k_P_addThing 33 rfl) rfl ?_
        refine V_zret (pc := 66) C (by first | exact Or.inl rfl | exact Or.inr rfl | (split <;> first | exact Or.inl rfl | exact Or.inr rfl) | omega) E (dk k_P_addThing 34 rfl) ?_
        first | (exfalso; omega) | (rw [if_neg (by omega)]; exact ⟨rfl, fun z => by omega, Fr.rf _ _ _⟩)
    · skip
      refine V_iload_n (pc := 23) C (dk k_P_addThing 12 rfl) rfl ?_
      refine V_iconst (pc := 24) C (dk k_P_addThing 13 rfl) rfl ?_
      refine V_iconst (pc := 25) C (dk k_P_addThing 14 rfl) rfl ?_
      refine V_callS (pc := 26) C (dk k_P_addThing 15 rfl) lk_P_54 cm_F_within sm_F_within (c_F_within _ _ _ b 0 3 hb R0 ⟨by decide, by decide⟩) rfl rfl (Nat.le_of_ble_eq_true rfl) (Rm.mono hRm (by decide) (by decide)) ?_
      refine V_ifeqB (pc := 29) C (dk k_P_addThing 16 rfl) 57 rfl (fun h5 => ?_) (fun h5 => ?_)
      · skip
        refine V_iconst (pc := 57) C (dk k_P_addThing 29 rfl) rfl ?_
        refine V_istore (pc := 58) C (dk k_P_addThing 30 rfl) (by rw [hXN]; decide) ?_
        dsimp only [lst, lstL, lz, kill, Fin.val, Nat.reduceAdd]
        refine V_iload (pc := 60) C (dk k_P_addThing 31 rfl) rfl ?_
        refine V_ifne (pc := 62) C (dk k_P_addThing 32 rfl) 67 rfl (by first | exact hR _ _ | with_reducible assumption | exact ⟨by omega, by omega⟩) (fun h6 => ?_) (fun h6 => ?_)
        · skip
          refine V_aload_n (pc := 67) C (dk k_P_addThing 35 rfl) rfl ?_
          refine V_getr (pc := 68) (o2 := p + 2) C (dk k_P_addThing 36 rfl) fl_P_15 hp (by decide) rfl (by decide) rfl ?_
          refine V_aload_n (pc := 71) C (dk k_P_addThing 37 rfl) rfl ?_
          refine V_geti (pc := 72) (ji := 2) C (dk k_P_addThing 38 rfl) fl_P_34 hp (by decide) rfl rfl ?_
          rw [b0]
          refine V_iload_n (pc := 75) C (dk k_P_addThing 39 rfl) rfl ?_
          refine V_callS0 (pc := 76) C (dk k_P_addThing 40 rfl) lk_P_50 cm_F_put sm_F_put (c_put _ _ _ (p + 2) 8 ((dT d).length : Int) a hp_2 (by decide) (by omega) (by omega) ha) rfl rfl (Nat.le_of_ble_eq_true rfl) (Rm.mono hRm (by decide) (by decide)) ?_
          refine V_R (fun hR => ?_)
          refine V_aload_n (pc := 79) C (dk k_P_addThing 41 rfl) rfl ?_
          refine V_getr (pc := 80) (o2 := p + 3) C (dk k_P_addThing 42 rfl) fl_P_18 hp (by decide) rfl (by decide) rfl ?_
          refine V_aload_n (pc := 83) C (dk k_P_addThing 43 rfl) rfl ?_
          refine V_geti (pc := 84) (ji := 2) C (dk k_P_addThing 44 rfl) fl_P_34 hp (by decide) rfl rfl ?_
          have e1 : up σ (p + 2) ((dT d).length : Int) a p 2 = ((dT d).length : Int) := (up_ne1 _ _ _ _ (by omega)).trans b0
          rw [e1]
          refine V_iload_n (pc := 87) C (dk k_P_addThing 45 rfl) rfl ?_
          refine V_callS0 (pc := 88) C (dk k_P_addThing 46 rfl) lk_P_50 cm_F_put sm_F_put (c_put _ _ _ (p + 3) 8 ((dT d).length : Int) b hp_3 (by decide) (by omega) (by omega) hb) rfl rfl (Nat.le_of_ble_eq_true rfl) (Rm.mono hRm (by decide) (by decide)) ?_
          refine V_R (fun hR => ?_)
          refine V_aload_n (pc := 91) C (dk k_P_addThing 47 rfl) rfl ?_
          refine V_getr (pc := 92) (o2 := p + 4) C (dk k_P_addThing 48 rfl) fl_P_21 hp (by decide) rfl (by decide) rfl ?_
          refine V_aload_n (pc := 95) C (dk k_P_addThing 49 rfl) rfl ?_
          refine V_geti (pc := 96) (ji := 2) C (dk k_P_addThing 50 rfl) fl_P_34 hp (by decide) rfl rfl ?_
          have e2 : up (up σ (p + 2) ((dT d).length : Int) a) (p + 3) ((dT d).length : Int) b p 2 = ((dT d).length : Int) := (up_ne1 _ _ _ _ (by omega)).trans e1
          rw [e2]
          refine V_iload_n (pc := 99) C (dk k_P_addThing 51 rfl) rfl ?_
          refine V_callS0 (pc := 100) C (dk k_P_addThing 52 rfl) lk_P_50 cm_F_put sm_F_put (c_put _ _ _ (p + 4) 8 ((dT d).length : Int) c hp_4 (by decide) (by omega) (by omega) hc) rfl rfl (Nat.le_of_ble_eq_true rfl) (Rm.mono hRm (by decide) (by decide)) ?_
          refine V_R (fun hR => ?_)
          refine V_aload_n (pc := 103) C (dk k_P_addThing 53 rfl) rfl ?_
          refine V_getr (pc := 104) (o2 := p + 5) C (dk k_P_addThing 54 rfl) fl_P_24 hp (by decide) rfl (by decide) rfl ?_
          refine V_aload_n (pc := 107) C (dk k_P_addThing 55 rfl) rfl ?_
          refine V_geti (pc := 108) (ji := 2) C (dk k_P_addThing 56 rfl) fl_P_34 hp (by decide) rfl rfl ?_
          have e3 : up (up (up σ (p + 2) ((dT d).length : Int) a) (p + 3) ((dT d).length : Int) b) (p + 4) ((dT d).length : Int) c p 2 = ((dT d).length : Int) := (up_ne1 _ _ _ _ (by omega)).trans e2
          rw [e3]
          refine V_iload (pc := 111) C (dk k_P_addThing 57 rfl) rfl ?_
          refine V_callS0 (pc := 113) C (dk k_P_addThing 58 rfl) lk_P_50 cm_F_put sm_F_put (c_put _ _ _ (p + 5) 8 ((dT d).length : Int) e hp_5 (by decide) (by omega) (by omega) he) rfl rfl (Nat.le_of_ble_eq_true rfl) (Rm.mono hRm (by decide) (by decide)) ?_
          refine V_R (fun hR => ?_)
          refine V_aload_n (pc := 116) C (dk k_P_addThing 59 rfl) rfl ?_
          refine V_dupR (pc := 117) C (dk k_P_addThing 60 rfl) ?_
          refine V_geti (pc := 118) (ji := 2) C (dk k_P_addThing 61 rfl) fl_P_34 hp (by decide) rfl rfl ?_
          have e4 : up (up (up (up σ (p + 2) ((dT d).length : Int) a) (p + 3) ((dT d).length : Int) b) (p + 4) ((dT d).length : Int) c) (p + 5) ((dT d).length : Int) e p 2 = ((dT d).length : Int) := (up_ne1 _ _ _ _ (by omega)).trans e3
          rw [e4]
          refine V_iconst (pc := 121) C (dk k_P_addThing 62 rfl) rfl ?_
          refine V_iadd (pc := 122) C (dk k_P_addThing 63 rfl) ?_
          refine V_puti (pc := 123) (ji := 2) C (dk k_P_addThing 64 rfl) fl_P_34 fw_5_2 hp (by decide) rfl rfl ⟨by omega, by omega⟩ ?_
          refine V_R (fun hR => ?_)
          refine V_iconst (pc := 126) C (dk k_P_addThing 65 rfl) rfl ?_
          refine V_zret (pc := 127) C (by first | exact Or.inl rfl | exact Or.inr rfl | (split <;> first | exact Or.inl rfl | exact Or.inr rfl) | omega) E (dk k_P_addThing 66 rfl) ?_
          first | (exfalso; omega) | (rw [if_pos (by omega)]; exact ⟨rfl, fun z => hd.addT (by omega) a b c e, ((((Fr.rf p 7 σ).up _ _ (by omega) (by omega)).up _ _ (by omega) (by omega)).up _ _ (by omega) (by omega)).up _ _ (by omega) (by omega) |>.up _ _ (by omega) (by omega)⟩)
        · skip
          refine V_iconst (pc := 65) C (dk k_P_addThing 33 rfl) rfl ?_
          refine V_zret (pc := 66) C (by first | exact Or.inl rfl | exact Or.inr rfl | (split <;> first | exact Or.inl rfl | exact Or.inr rfl) | omega) E (dk k_P_addThing 34 rfl) ?_
          first | (exfalso; omega) | (rw [if_neg (by omega)]; exact ⟨rfl, fun z => by omega, Fr.rf _ _ _⟩)
      · skip
        refine V_iload_n (pc := 32) C (dk k_P_addThing 17 rfl) rfl ?_
        refine V_iconst (pc := 33) C (dk k_P_addThing 18 rfl) rfl ?_
        refine V_bipush (pc := 34) (n' := 20) C (dk k_P_addThing 19 rfl) rfl ?_
        refine V_callS (pc := 36) C (dk k_P_addThing 20 rfl) lk_P_54 cm_F_within sm_F_within (c_F_within _ _ _ c 1 20 hc ⟨by decide, by decide⟩ ⟨by decide, by decide⟩) rfl rfl (Nat.le_of_ble_eq_true rfl) (Rm.mono hRm (by decide) (by decide)) ?_
        refine V_ifeqB (pc := 39) C (dk k_P_addThing 21 rfl) 57 rfl (fun h7 => ?_) (fun h7 => ?_)
        · skip
          refine V_iconst (pc := 57) C (dk k_P_addThing 29 rfl) rfl ?_
          refine V_istore (pc := 58) C (dk k_P_addThing 30 rfl) (by rw [hXN]; decide) ?_
          dsimp only [lst, lstL, lz, kill, Fin.val, Nat.reduceAdd]
          refine V_iload (pc := 60) C (dk k_P_addThing 31 rfl) rfl ?_
          refine V_ifne (pc := 62) C (dk k_P_addThing 32 rfl) 67 rfl (by first | exact hR _ _ | with_reducible assumption | exact ⟨by omega, by omega⟩) (fun h8 => ?_) (fun h8 => ?_)
          · skip
            refine V_aload_n (pc := 67) C (dk k_P_addThing 35 rfl) rfl ?_
            refine V_getr (pc := 68) (o2 := p + 2) C (dk k_P_addThing 36 rfl) fl_P_15 hp (by decide) rfl (by decide) rfl ?_
            refine V_aload_n (pc := 71) C (dk k_P_addThing 37 rfl) rfl ?_
            refine V_geti (pc := 72) (ji := 2) C (dk k_P_addThing 38 rfl) fl_P_34 hp (by decide) rfl rfl ?_
            rw [b0]
            refine V_iload_n (pc := 75) C (dk k_P_addThing 39 rfl) rfl ?_
            refine V_callS0 (pc := 76) C (dk k_P_addThing 40 rfl) lk_P_50 cm_F_put sm_F_put (c_put _ _ _ (p + 2) 8 ((dT d).length : Int) a hp_2 (by decide) (by omega) (by omega) ha) rfl rfl (Nat.le_of_ble_eq_true rfl) (Rm.mono hRm (by decide) (by decide)) ?_
            refine V_R (fun hR => ?_)
            refine V_aload_n (pc := 79) C (dk k_P_addThing 41 rfl) rfl ?_
            refine V_getr (pc := 80) (o2 := p + 3) C (dk k_P_addThing 42 rfl) fl_P_18 hp (by decide) rfl (by decide) rfl ?_
            refine V_aload_n (pc := 83) C (dk k_P_addThing 43 rfl) rfl ?_
            refine V_geti (pc := 84) (ji := 2) C (dk k_P_addThing 44 rfl) fl_P_34 hp (by decide) rfl rfl ?_
            have e1 : up σ (p + 2) ((dT d).length : Int) a p 2 = ((dT d).length : Int) := (up_ne1 _ _ _ _ (by omega)).trans b0
            rw [e1]
            refine V_iload_n (pc := 87) C (dk k_P_addThing 45 rfl) rfl ?_
            refine V_callS0 (pc := 88) C (dk k_P_addThing 46 rfl) lk_P_50 cm_F_put sm_F_put (c_put _ _ _ (p + 3) 8 ((dT d).length : Int) b hp_3 (by decide) (by omega) (by omega) hb) rfl rfl (Nat.le_of_ble_eq_true rfl) (Rm.mono hRm (by decide) (by decide)) ?_
            refine V_R (fun hR => ?_)
            refine V_aload_n (pc := 91) C (dk k_P_addThing 47 rfl) rfl ?_
            refine V_getr (pc := 92) (o2 := p + 4) C (dk k_P_addThing 48 rfl) fl_P_21 hp (by decide) rfl (by decide) rfl ?_
            refine V_aload_n (pc := 95) C (dk k_P_addThing 49 rfl) rfl ?_
            refine V_geti (pc := 96) (ji := 2) C (dk k_P_addThing 50 rfl) fl_P_34 hp (by decide) rfl rfl ?_
            have e2 : up (up σ (p + 2) ((dT d).length : Int) a) (p + 3) ((dT d).length : Int) b p 2 = ((dT d).length : Int) := (up_ne1 _ _ _ _ (by omega)).trans e1
            rw [e2]
            refine V_iload_n (pc := 99) C (dk k_P_addThing 51 rfl) rfl ?_
            refine V_callS0 (pc := 100) C (dk k_P_addThing 52 rfl) lk_P_50 cm_F_put sm_F_put (c_put _ _ _ (p + 4) 8 ((dT d).length : Int) c hp_4 (by decide) (by omega) (by omega) hc) rfl rfl (Nat.le_of_ble_eq_true rfl) (Rm.mono hRm (by decide) (by decide)) ?_
            refine V_R (fun hR => ?_)
            refine V_aload_n (pc := 103) C (dk k_P_addThing 53 rfl) rfl ?_
            refine V_getr (pc := 104) (o2 := p + 5) C (dk k_P_addThing 54 rfl) fl_P_24 hp (by decide) rfl (by decide) rfl ?_
            refine V_aload_n (pc := 107) C (dk k_P_addThing 55 rfl) rfl ?_
            refine V_geti (pc := 108) (ji := 2) C (dk k_P_addThing 56 rfl) fl_P_34 hp (by decide) rfl rfl ?_
            have e3 : up (up (up σ (p + 2) ((dT d).length : Int) a) (p + 3) ((dT d).length : Int) b) (p + 4) ((dT d).length : Int) c p 2 = ((dT d).length : Int) := (up_ne1 _ _ _ _ (by omega)).trans e2
            rw [e3]
            refine V_iload (pc := 111) C (dk k_P_addThing 57 rfl) rfl ?_
            refine V_callS0 (pc := 113) C (dk k_P_addThing 58 rfl) lk_P_50 cm_F_put sm_F_put (c_put _ _ _ (p + 5) 8 ((dT d).length : Int) e hp_5 (by decide) (by omega) (by omega) he) rfl rfl (Nat.le_of_ble_eq_true rfl) (Rm.mono hRm (by decide) (by decide)) ?_
            refine V_R (fun hR => ?_)
            refine V_aload_n (pc := 116) C (dk k_P_addThing 59 rfl) rfl ?_
            refine V_dupR (pc := 117) C (dk k_P_addThing 60 rfl) ?_
            refine V_geti (pc := 118) (ji := 2) C (dk k_P_addThing 61 rfl) fl_P_34 hp (by decide) rfl rfl ?_
            have e4 : up (up (up (up σ (p + 2) ((dT d).length : Int) a) (p + 3) ((dT d).length : Int) b) (p + 4) ((dT d).length : Int) c) (p + 5) ((dT d).length : Int) e p 2 = ((dT d).length : Int) := (up_ne1 _ _ _ _ (by omega)).trans e3
            rw [e4]
            refine V_iconst (pc := 121) C (dk k_P_addThing 62 rfl) rfl ?_
            refine V_iadd (pc := 122) C (dk k_P_addThing 63 rfl) ?_
            refine V_puti (pc := 123) (ji := 2) C (dk k_P_addThing 64 rfl) fl_P_34 fw_5_2 hp (by decide) rfl rfl ⟨by omega, by omega⟩ ?_
            refine V_R (fun hR => ?_)
            refine V_iconst (pc := 126) C (dk k_P_addThing 65 rfl) rfl ?_
            refine V_zret (pc := 127) C (by first | exact Or.inl rfl | exact Or.inr rfl | (split <;> first | exact Or.inl rfl | exact Or.inr rfl) | omega) E (dk k_P_addThing 66 rfl) ?_
            first | (exfalso; omega) | (rw [if_pos (by omega)]; exact ⟨rfl, fun z => hd.addT (by omega) a b c e, ((((Fr.rf p 7 σ).up _ _ (by omega) (by omega)).up _ _ (by omega) (by omega)).up _ _ (by omega) (by omega)).up _ _ (by omega) (by omega) |>.up _ _ (by omega) (by omega)⟩)
          · skip
            refine V_iconst (pc := 65) C (dk k_P_addThing 33 rfl) rfl ?_
            refine V_zret (pc := 66) C (by first | exact Or.inl rfl | exact Or.inr rfl | (split <;> first | exact Or.inl rfl | exact Or.inr rfl) | omega) E (dk k_P_addThing 34 rfl) ?_
            first | (exfalso; omega) | (rw [if_neg (by omega)]; exact ⟨rfl, fun z => by omega, Fr.rf _ _ _⟩)
        · skip
          refine V_iload (pc := 42) C (dk k_P_addThing 22 rfl) rfl ?_
          refine V_iconst (pc := 44) C (dk k_P_addThing 23 rfl) rfl ?_
          refine V_bipush (pc := 45) (n' := 20) C (dk k_P_addThing 24 rfl) rfl ?_
          refine V_callS (pc := 47) C (dk k_P_addThing 25 rfl) lk_P_54 cm_F_within sm_F_within (c_F_within _ _ _ e 0 20 he R0 ⟨by decide, by decide⟩) rfl rfl (Nat.le_of_ble_eq_true rfl) (Rm.mono hRm (by decide) (by decide)) ?_
          refine V_ifeqB (pc := 50) C (dk k_P_addThing 26 rfl) 57 rfl (fun h9 => ?_) (fun h9 => ?_)
          · skip
            refine V_iconst (pc := 57) C (dk k_P_addThing 29 rfl) rfl ?_
            refine V_istore (pc := 58) C (dk k_P_addThing 30 rfl) (by rw [hXN]; decide) ?_
            dsimp only [lst, lstL, lz, kill, Fin.val, Nat.reduceAdd]
            refine V_iload (pc := 60) C (dk k_P_addThing 31 rfl) rfl ?_
            refine V_ifne (pc := 62) C (dk k_P_addThing 32 rfl) 67 rfl (by first | exact hR _ _ | with_reducible assumption | exact ⟨by omega, by omega⟩) (fun h10 => ?_) (fun h10 => ?_)
            · skip
              refine V_aload_n (pc := 67) C (dk k_P_addThing 35 rfl) rfl ?_
              refine V_getr (pc := 68) (o2 := p + 2) C (dk k_P_addThing 36 rfl) fl_P_15 hp (by decide) rfl (by decide) rfl ?_
              refine V_aload_n (pc := 71) C (dk k_P_addThing 37 rfl) rfl ?_
              refine V_geti (pc := 72) (ji := 2) C (dk k_P_addThing 38 rfl) fl_P_34 hp (by decide) rfl rfl ?_
              rw [b0]
              refine V_iload_n (pc := 75) C (dk k_P_addThing 39 rfl) rfl ?_
              refine V_callS0 (pc := 76) C (dk k_P_addThing 40 rfl) lk_P_50 cm_F_put sm_F_put (c_put _ _ _ (p + 2) 8 ((dT d).length : Int) a hp_2 (by decide) (by omega) (by omega) ha) rfl rfl (Nat.le_of_ble_eq_true rfl) (Rm.mono hRm (by decide) (by decide)) ?_
              refine V_R (fun hR => ?_)
              refine V_aload_n (pc := 79) C (dk k_P_addThing 41 rfl) rfl ?_
              refine V_getr (pc := 80) (o2 := p + 3) C (dk k_P_addThing 42 rfl) fl_P_18 hp (by decide) rfl (by decide) rfl ?_
              refine V_aload_n (pc := 83) C (dk k_P_addThing 43 rfl) rfl ?_
              refine V_geti (pc := 84) (ji := 2) C (dk k_P_addThing 44 rfl) fl_P_34 hp (by decide) rfl rfl ?_
              have e1 : up σ (p + 2) ((dT d).length : Int) a p 2 = ((dT d).length : Int) := (up_ne1 _ _ _ _ (by omega)).trans b0
              rw [e1]
              refine V_iload_n (pc := 87) C (dk k_P_addThing 45 rfl) rfl ?_
              refine V_callS0 (pc := 88) C (dk k_P_addThing 46 rfl) lk_P_50 cm_F_put sm_F_put (c_put _ _ _ (p + 3) 8 ((dT d).length : Int) b hp_3 (by decide) (by omega) (by omega) hb) rfl rfl (Nat.le_of_ble_eq_true rfl) (Rm.mono hRm (by decide) (by decide)) ?_
              refine V_R (fun hR => ?_)
              refine V_aload_n (pc := 91) C (dk k_P_addThing 47 rfl) rfl ?_
              refine V_getr (pc := 92) (o2 := p + 4) C (dk k_P_addThing 48 rfl) fl_P_21 hp (by decide) rfl (by decide) rfl ?_
              refine V_aload_n (pc := 95) C (dk k_P_addThing 49 rfl) rfl ?_
              refine V_geti (pc := 96) (ji := 2) C (dk k_P_addThing 50 rfl) fl_P_34 hp (by decide) rfl rfl ?_
              have e2 : up (up σ (p + 2) ((dT d).length : Int) a) (p + 3) ((dT d).length : Int) b p 2 = ((dT d).length : Int) := (up_ne1 _ _ _ _ (by omega)).trans e1
              rw [e2]
              refine V_iload_n (pc := 99) C (dk k_P_addThing 51 rfl) rfl ?_
              refine V_callS0 (pc := 100) C (dk k_P_addThing 52 rfl) lk_P_50 cm_F_put sm_F_put (c_put _ _ _ (p + 4) 8 ((dT d).length : Int) c hp_4 (by decide) (by omega) (by omega) hc) rfl rfl (Nat.le_of_ble_eq_true rfl) (Rm.mono hRm (by decide) (by decide)) ?_
              refine V_R (fun hR => ?_)
              refine V_aload_n (pc := 103) C (dk k_P_addThing 53 rfl) rfl ?_
              refine V_getr (pc := 104) (o2 := p + 5) C (dk k_P_addThing 54 rfl) fl_P_24 hp (by decide) rfl (by decide) rfl ?_
              refine V_aload_n (pc := 107) C (dk k_P_addThing 55 rfl) rfl ?_
              refine V_geti (pc := 108) (ji := 2) C (dk k_P_addThing 56 rfl) fl_P_34 hp (by decide) rfl rfl ?_
              have e3 : up (up (up σ (p + 2) ((dT d).length : Int) a) (p + 3) ((dT d).length : Int) b) (p + 4) ((dT d).length : Int) c p 2 = ((dT d).length : Int) := (up_ne1 _ _ _ _ (by omega)).trans e2
              rw [e3]
              refine V_iload (pc := 111) C (dk k_P_addThing 57 rfl) rfl ?_
              refine V_callS0 (pc := 113) C (dk k_P_addThing 58 rfl) lk_P_50 cm_F_put sm_F_put (c_put _ _ _ (p + 5) 8 ((dT d).length : Int) e hp_5 (by decide) (by omega) (by omega) he) rfl rfl (Nat.le_of_ble_eq_true rfl) (Rm.mono hRm (by decide) (by decide)) ?_
              refine V_R (fun hR => ?_)
              refine V_aload_n (pc := 116) C (dk k_P_addThing 59 rfl) rfl ?_
              refine V_dupR (pc := 117) C (dk k_P_addThing 60 rfl) ?_
              refine V_geti (pc := 118) (ji := 2) C (dk k_P_addThing 61 rfl) fl_P_34 hp (by decide) rfl rfl ?_
              have e4 : up (up (up (up σ (p + 2) ((dT d).length : Int) a) (p + 3) ((dT d).length : Int) b) (p + 4) ((dT d).length : Int) c) (p + 5) ((dT d).length : Int) e p 2 = ((dT d).length : Int) := (up_ne1 _ _ _ _ (by omega)).trans e3
              rw [e4]
              refine V_iconst (pc := 121) C (dk k_P_addThing 62 rfl) rfl ?_
              refine V_iadd (pc := 122) C (dk k_P_addThing 63 rfl) ?_
              refine V_puti (pc := 123) (ji := 2) C (dk k_P_addThing 64 rfl) fl_P_34 fw_5_2 hp (by decide) rfl rfl ⟨by omega, by omega⟩ ?_
              refine V_R (fun hR => ?_)
              refine V_iconst (pc := 126) C (dk k_P_addThing 65 rfl) rfl ?_
              refine V_zret (pc := 127) C (by first | exact Or.inl rfl | exact Or.inr rfl | (split <;> first | exact Or.inl rfl | exact Or.inr rfl) | omega) E (dk k_P_addThing 66 rfl) ?_
              first | (exfalso; omega) | (rw [if_pos (by omega)]; exact ⟨rfl, fun z => hd.addT (by omega) a b c e, ((((Fr.rf p 7 σ).up _ _ (by omega) (by omega)).up _ _ (by omega) (by omega)).up _ _ (by omega) (by omega)).up _ _ (by omega) (by omega) |>.up _ _ (by omega) (by omega)⟩)
            · skip
              refine V_iconst (pc := 65) C (dk k_P_addThing 33 rfl) rfl ?_
              refine V_zret (pc := 66) C (by first | exact Or.inl rfl | exact Or.inr rfl | (split <;> first | exact Or.inl rfl | exact Or.inr rfl) | omega) E (dk k_P_addThing 34 rfl) ?_
              first | (exfalso; omega) | (rw [if_neg (by omega)]; exact ⟨rfl, fun z => by omega, Fr.rf _ _ _⟩)
          · skip
            refine V_iconst (pc := 53) C (dk k_P_addThing 27 rfl) rfl ?_
            refine V_goto (pc := 54) C (dk k_P_addThing 28 rfl) 58 rfl ?_
            refine V_istore (pc := 58) C (dk k_P_addThing 30 rfl) (by rw [hXN]; decide) ?_
            dsimp only [lst, lstL, lz, kill, Fin.val, Nat.reduceAdd]
            refine V_iload (pc := 60) C (dk k_P_addThing 31 rfl) rfl ?_
            refine V_ifne (pc := 62) C (dk k_P_addThing 32 rfl) 67 rfl (by first | exact hR _ _ | with_reducible assumption | exact ⟨by omega, by omega⟩) (fun h11 => ?_) (fun h11 => ?_)
            · skip
              refine V_aload_n (pc := 67) C (dk k_P_addThing 35 rfl) rfl ?_
              refine V_getr (pc := 68) (o2 := p + 2) C (dk k_P_addThing 36 rfl) fl_P_15 hp (by decide) rfl (by decide) rfl ?_
              refine V_aload_n (pc := 71) C (dk k_P_addThing 37 rfl) rfl ?_
              refine V_geti (pc := 72) (ji := 2) C (dk k_P_addThing 38 rfl) fl_P_34 hp (by decide) rfl rfl ?_
              rw [b0]
              refine V_iload_n (pc := 75) C (dk k_P_addThing 39 rfl) rfl ?_
              refine V_callS0 (pc := 76) C (dk k_P_addThing 40 rfl) lk_P_50 cm_F_put sm_F_put (c_put _ _ _ (p + 2) 8 ((dT d).length : Int) a hp_2 (by decide) (by omega) (by omega) ha) rfl rfl (Nat.le_of_ble_eq_true rfl) (Rm.mono hRm (by decide) (by decide)) ?_
              refine V_R (fun hR => ?_)
              refine V_aload_n (pc := 79) C (dk k_P_addThing 41 rfl) rfl ?_
              refine V_getr (pc := 80) (o2 := p + 3) C (dk k_P_addThing 42 rfl) fl_P_18 hp (by decide) rfl (by decide) rfl ?_
              refine V_aload_n (pc := 83) C (dk k_P_addThing 43 rfl) rfl ?_
              refine V_geti (pc := 84) (ji := 2) C (dk k_P_addThing 44 rfl) fl_P_34 hp (by decide) rfl rfl ?_
              have e1 : up σ (p + 2) ((dT d).length : Int) a p 2 = ((dT d).length : Int) := (up_ne1 _ _ _ _ (by omega)).trans b0
              rw [e1]
              refine V_iload_n (pc := 87) C (dk k_P_addThing 45 rfl) rfl ?_
              refine V_callS0 (pc := 88) C (dk k_P_addThing 46 rfl) lk_P_50 cm_F_put sm_F_put (c_put _ _ _ (p + 3) 8 ((dT d).length : Int) b hp_3 (by decide) (by omega) (by omega) hb) rfl rfl (Nat.le_of_ble_eq_true rfl) (Rm.mono hRm (by decide) (by decide)) ?_
              refine V_R (fun hR => ?_)
              refine V_aload_n (pc := 91) C (dk k_P_addThing 47 rfl) rfl ?_
              refine V_getr (pc := 92) (o2 := p + 4) C (dk k_P_addThing 48 rfl) fl_P_21 hp (by decide) rfl (by decide) rfl ?_
              refine V_aload_n (pc := 95) C (dk k_P_addThing 49 rfl) rfl ?_
              refine V_geti (pc := 96) (ji := 2) C (dk k_P_addThing 50 rfl) fl_P_34 hp (by decide) rfl rfl ?_
              have e2 : up (up σ (p + 2) ((dT d).length : Int) a) (p + 3) ((dT d).length : Int) b p 2 = ((dT d).length : Int) := (up_ne1 _ _ _ _ (by omega)).trans e1
              rw [e2]
              refine V_iload_n (pc := 99) C (dk k_P_addThing 51 rfl) rfl ?_
              refine V_callS0 (pc := 100) C (dk k_P_addThing 52 rfl) lk_P_50 cm_F_put sm_F_put (c_put _ _ _ (p + 4) 8 ((dT d).length : Int) c hp_4 (by decide) (by omega) (by omega) hc) rfl rfl (Nat.le_of_ble_eq_true rfl) (Rm.mono hRm (by decide) (by decide)) ?_
              refine V_R (fun hR => ?_)
              refine V_aload_n (pc := 103) C (dk k_P_addThing 53 rfl) rfl ?_
              refine V_getr (pc := 104) (o2 := p + 5) C (dk k_P_addThing 54 rfl) fl_P_24 hp (by decide) rfl (by decide) rfl ?_
              refine V_aload_n (pc := 107) C (dk k_P_addThing 55 rfl) rfl ?_
              refine V_geti (pc := 108) (ji := 2) C (dk k_P_addThing 56 rfl) fl_P_34 hp (by decide) rfl rfl ?_
              have e3 : up (up (up σ (p + 2) ((dT d).length : Int) a) (p + 3) ((dT d).length : Int) b) (p + 4) ((dT d).length : Int) c p 2 = ((dT d).length : Int) := (up_ne1 _ _ _ _ (by omega)).trans e2
              rw [e3]
              refine V_iload (pc := 111) C (dk k_P_addThing 57 rfl) rfl ?_
              refine V_callS0 (pc := 113) C (dk k_P_addThing 58 rfl) lk_P_50 cm_F_put sm_F_put (c_put _ _ _ (p + 5) 8 ((dT d).length : Int) e hp_5 (by decide) (by omega) (by omega) he) rfl rfl (Nat.le_of_ble_eq_true rfl) (Rm.mono hRm (by decide) (by decide)) ?_
              refine V_R (fun hR => ?_)
              refine V_aload_n (pc := 116) C (dk k_P_addThing 59 rfl) rfl ?_
              refine V_dupR (pc := 117) C (dk k_P_addThing 60 rfl) ?_
              refine V_geti (pc := 118) (ji := 2) C (dk k_P_addThing 61 rfl) fl_P_34 hp (by decide) rfl rfl ?_
              have e4 : up (up (up (up σ (p + 2) ((dT d).length : Int) a) (p + 3) ((dT d).length : Int) b) (p + 4) ((dT d).length : Int) c) (p + 5) ((dT d).length : Int) e p 2 = ((dT d).length : Int) := (up_ne1 _ _ _ _ (by omega)).trans e3
              rw [e4]
              refine V_iconst (pc := 121) C (dk k_P_addThing 62 rfl) rfl ?_
              refine V_iadd (pc := 122) C (dk k_P_addThing 63 rfl) ?_
              refine V_puti (pc := 123) (ji := 2) C (dk k_P_addThing 64 rfl) fl_P_34 fw_5_2 hp (by decide) rfl rfl ⟨by omega, by omega⟩ ?_
              refine V_R (fun hR => ?_)
              refine V_iconst (pc := 126) C (dk k_P_addThing 65 rfl) rfl ?_
              refine V_zret (pc := 127) C (by first | exact Or.inl rfl | exact Or.inr rfl | (split <;> first | exact Or.inl rfl | exact Or.inr rfl) | omega) E (dk k_P_addThing 66 rfl) ?_
              first | (exfalso; omega) | (rw [if_pos (by omega)]; exact ⟨rfl, fun z => hd.addT (by omega) a b c e, ((((Fr.rf p 7 σ).up _ _ (by omega) (by omega)).up _ _ (by omega) (by omega)).up _ _ (by omega) (by omega)).up _ _ (by omega) (by omega) |>.up _ _ (by omega) (by omega)⟩)
            · skip
              refine V_iconst (pc := 65) C (dk k_P_addThing 33 rfl) rfl ?_
              refine V_zret (pc := 66) C (by first | exact Or.inl rfl | exact Or.inr rfl | (split <;> first | exact Or.inl rfl | exact Or.inr rfl) | omega) E (dk k_P_addThing 34 rfl) ?_
              first | (exfalso; omega) | (rw [if_neg (by omega)]; exact ⟨rfl, fun z => by omega, Fr.rf _ _ _⟩)
