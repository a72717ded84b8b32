theorem chrM_b {σ : Wd} {tx : List Int} (h : TxM σ tx) (i : Nat) : 0 ≤ chr tx i ∧ chr tx i ≤ 126 := by
  by_cases hi : i < tx.length
  · have := h.2.2 i _ (chr_at hi)
    omega
  · rw [chr_out (by omega)]; decide
theorem nuM_b {tx : List Int} {i i1 : Nat} {v : Int} (h : num tx i = some (v, i1)) : 0 ≤ v ∧ v ≤ 99 ∧ i < i1 ∧ i1 ≤ i + 2 := by
  by_cases h1 : fig (chr tx i)
  · by_cases h2 : fig (chr tx (i + 1))
    · rw [num_2 h1 h2] at h
      obtain ⟨a, b⟩ := h1
      obtain ⟨c, d⟩ := h2
      cases h
      omega
    · rw [num_1 h1 h2] at h
      obtain ⟨a, b⟩ := h1
      cases h
      omega
  · rw [num_0 h1] at h; cases h
/-- a number from lo to hi with a sign behind it -/
def nmM (tx : List Int) (i : Nat) (lo hi en : Int) : Option (Int × Nat) := match num tx i with
  | none => none
  | some (v, i1) => if chr tx i1 = en ∧ lo ≤ v ∧ v ≤ hi then some (v, i1 + 1) else none
theorem nm_0 {tx : List Int} {i : Nat} {lo hi en : Int} (h : num tx i = none) : nmM tx i lo hi en = none := by unfold nmM; rw [h]
theorem nm_y {tx : List Int} {i i1 : Nat} {v lo hi en : Int} (h : num tx i = some (v, i1)) (h1 : chr tx i1 = en) (h2 : lo ≤ v) (h3 : v ≤ hi) : nmM tx i lo hi en = some (v, i1 + 1) := by
  unfold nmM; rw [h]; exact if_pos ⟨h1, h2, h3⟩
theorem nm_n {tx : List Int} {i i1 : Nat} {v lo hi en : Int} (h : num tx i = some (v, i1)) (h1 : ¬ (chr tx i1 = en ∧ lo ≤ v ∧ v ≤ hi)) : nmM tx i lo hi en = none := by
  unfold nmM; rw [h]; exact if_neg h1
theorem nm_b {tx : List Int} {i i1 : Nat} {v lo hi en : Int} (h : nmM tx i lo hi en = some (v, i1)) : 0 ≤ v ∧ v ≤ 99 ∧ i < i1 ∧ i1 ≤ i + 3 := by
  rcases hn : num tx i with _ | ⟨u, i2⟩
  · rw [nm_0 hn] at h; cases h
  · by_cases hc : chr tx i2 = en ∧ lo ≤ u ∧ u ≤ hi
    · rw [nm_y hn hc.1 hc.2.1 hc.2.2] at h
      have := nuM_b hn
      cases h
      omega
    · rw [nm_n hn hc] at h; cases h
def rpM (tx : List Int) (d : DS) (i : Nat) : Option (DS × Nat) := if (dM d).length = 5 then none else match nmM tx i 0 99 59 with
  | none => none
  | some (v, i1) => some ((dM d ++ [v], d.2), i1)
def rrM (tx : List Int) (d : DS) (i : Nat) : Option (DS × Nat) := if (dX d).length = 12 then none else match nmM tx i 0 9 59 with
  | none => none
  | some (v, i1) => some ((dM d, (dT d, (dX d ++ [v], d.2.2.2))), i1)
def rsM (tx : List Int) (d : DS) (i : Nat) : Option (DS × Nat) := match nmM tx i 0 99 44 with
  | none => none
  | some (a, i1) => match nmM tx i1 0 20 59 with
    | none => none
    | some (b, i2) => some ((dM d, (dT d, (dX d, (a, b)))), i2)
def rt3 (tx : List Int) (d : DS) (a b c : Int) (i : Nat) : Option (DS × Nat) := match nmM tx i 0 20 59 with
  | none => none
  | some (e, i1) => some ((dM d, (dT d ++ [(a, (b, (c, e)))], d.2.2)), i1)
def rt2 (tx : List Int) (d : DS) (a b : Int) (i : Nat) : Option (DS × Nat) := match nmM tx i 1 20 44 with
  | none => none
  | some (c, i1) => rt3 tx d a b c i1
def rt1 (tx : List Int) (d : DS) (a : Int) (i : Nat) : Option (DS × Nat) := match nmM tx i 0 3 44 with
  | none => none
  | some (b, i1) => rt2 tx d a b i1
def rtM (tx : List Int) (d : DS) (i : Nat) : Option (DS × Nat) := if (dT d).length = 8 then none else match nmM tx i 0 ((dM d).length - 1) 44 with
  | none => none
  | some (a, i1) => rt1 tx d a i1
def riM (tx : List Int) (d : DS) (i : Nat) : Option (DS × Nat) := if chr tx i = 97 then rpM tx d (i + 1) else if chr tx i = 117 then rtM tx d (i + 1) else if chr tx i = 120 then rrM tx d (i + 1) else if chr tx i = 115 then rsM tx d (i + 1) else none
/-- the same out of the list of numbers -/
def RD (tx : List Int) (d : DS) (c : Int) (f i : Nat) (acc : List Int) : Option (DS × Nat) := match rdN tx f i acc with
  | none => none
  | some (ns, i1) => (tell d c ns).map (fun d' => (d', i1))
theorem rdN_pre (tx : List Int) : ∀ (f i : Nat) (acc ns : List Int) (i1 : Nat), rdN tx f i acc = some (ns, i1) → ∃ l, l ≠ [] ∧ ns = acc ++ l
  | 0, _, _, _, _, h => by cases h
  | f + 1, i, acc, ns, i1, h => by
    rw [rdN] at h
    rcases hn : num tx i with _ | ⟨v, i2⟩
    · rw [hn] at h; cases h
    · rw [hn] at h
      have h : (if chr tx i2 = 59 then some (acc ++ [v], i2 + 1) else if chr tx i2 = 44 then rdN tx f (i2 + 1) (acc ++ [v]) else none) = some (ns, i1) := h
      by_cases h1 : chr tx i2 = 59
      · rw [if_pos h1] at h; cases h
        exact ⟨[v], by simp, rfl⟩
      · rw [if_neg h1] at h
        by_cases h2 : chr tx i2 = 44
        · rw [if_pos h2] at h
          obtain ⟨l, -, e⟩ := rdN_pre tx f _ _ _ _ h
          exact ⟨[v] ++ l, by simp, by rw [e, List.append_assoc]⟩
        · rw [if_neg h2] at h; cases h
theorem RD_no {tx : List Int} {d : DS} {c : Int} {f i : Nat} {acc : List Int} (h : ∀ l : List Int, l ≠ [] → tell d c (acc ++ l) = none) : RD tx d c f i acc = none := by
  unfold RD
  rcases hr : rdN tx f i acc with _ | ⟨ns, i1⟩
  · rfl
  · obtain ⟨l, hl, e⟩ := rdN_pre tx f i acc ns i1 hr
    show (tell d c ns).map _ = none
    rw [e, h l hl]; rfl
/-- a step of it -/
theorem RD_s (tx : List Int) (d : DS) (c : Int) (f i : Nat) (acc : List Int) :
    (num tx i = none ∧ RD tx d c (f + 1) i acc = none) ∨ (∃ v i1, num tx i = some (v, i1) ∧ chr tx i1 = 59 ∧ RD tx d c (f + 1) i acc = (tell d c (acc ++ [v])).map (fun d' => (d', i1 + 1)))
      ∨ (∃ v i1, num tx i = some (v, i1) ∧ chr tx i1 = 44 ∧ RD tx d c (f + 1) i acc = RD tx d c f (i1 + 1) (acc ++ [v]))
      ∨ (∃ v i1, num tx i = some (v, i1) ∧ chr tx i1 ≠ 59 ∧ chr tx i1 ≠ 44 ∧ RD tx d c (f + 1) i acc = none) := by
  unfold RD
  rcases hn : num tx i with _ | ⟨v, i1⟩
  · exact Or.inl ⟨rfl, by rw [rdN, hn]⟩
  · have e : rdN tx (f + 1) i acc = if chr tx i1 = 59 then some (acc ++ [v], i1 + 1) else if chr tx i1 = 44 then rdN tx f (i1 + 1) (acc ++ [v]) else none := by rw [rdN, hn]
    rw [e]
    by_cases h1 : chr tx i1 = 59
    · exact Or.inr (Or.inl ⟨v, i1, rfl, h1, by rw [if_pos h1]⟩)
    · by_cases h2 : chr tx i1 = 44
      · exact Or.inr (Or.inr (Or.inl ⟨v, i1, rfl, h2, by rw [if_neg h1, if_pos h2]⟩))
      · exact Or.inr (Or.inr (Or.inr ⟨v, i1, rfl, h1, h2, by rw [if_neg h1, if_neg h2]⟩))
theorem tell_a (d : DS) (ns : List Int) : tell d 97 ns = if ns.length = 1 ∧ (dM d).length < 5 then some (dM d ++ [ns.getD 0 0], d.2) else none := if_pos rfl
theorem tell_u (d : DS) (ns : List Int) : tell d 117 ns = if ns.length = 4 ∧ (dT d).length < 8 ∧ (0 ≤ ns.getD 0 0 ∧ ns.getD 0 0 ≤ (dM d).length - 1) ∧ (0 ≤ ns.getD 1 0 ∧ ns.getD 1 0 ≤ 3) ∧ (1 ≤ ns.getD 2 0 ∧ ns.getD 2 0 ≤ 20) ∧ (0 ≤ ns.getD 3 0 ∧ ns.getD 3 0 ≤ 20) then some (dM d, (dT d ++ [(ns.getD 0 0, (ns.getD 1 0, (ns.getD 2 0, ns.getD 3 0)))], d.2.2)) else none := (if_neg (by decide)).trans (if_pos rfl)
theorem tell_x (d : DS) (ns : List Int) : tell d 120 ns = if ns.length = 1 ∧ (dX d).length < 12 ∧ ns.getD 0 0 ≤ 9 then some (dM d, (dT d, (dX d ++ [ns.getD 0 0], d.2.2.2))) else none := (if_neg (by decide)).trans ((if_neg (by decide)).trans (if_pos rfl))
theorem tell_s (d : DS) (ns : List Int) : tell d 115 ns = if ns.length = 2 ∧ ns.getD 1 0 ≤ 20 then some (dM d, (dT d, (dX d, (ns.getD 0 0, ns.getD 1 0)))) else none := (if_neg (by decide)).trans ((if_neg (by decide)).trans ((if_neg (by decide)).trans (if_pos rfl)))
theorem app_len {a l : List Int} (h : l ≠ []) : a.length < (a ++ l).length := by
  rw [List.length_append]
  have := List.length_pos_iff.mpr h
  omega
theorem RD_a {tx : List Int} {d : DS} {p : Nat} (h5 : (dM d).length ≤ 5) : RD tx d 97 4 p [] = rpM tx d p := by
  by_cases hl : (dM d).length = 5
  · rw [show rpM tx d p = none from if_pos hl]
    exact RD_no (fun l _ => by rw [tell_a, if_neg (fun q => by omega)])
  · rw [show rpM tx d p = match nmM tx p 0 99 59 with
      | none => none
      | some (v, i1) => some ((dM d ++ [v], d.2), i1) from if_neg hl]
    rcases RD_s tx d 97 3 p [] with ⟨h1, h2⟩ | ⟨v, i1, hn, hc, h2⟩ | ⟨v, i1, hn, hc, h2⟩ | ⟨v, i1, hn, hc, hd, h2⟩
    · rw [h2, nm_0 h1]
    · obtain ⟨b1, b2, -, -⟩ := nuM_b hn
      rw [h2, nm_y hn hc b1 b2, tell_a, if_pos ⟨rfl, by omega⟩]; rfl
    · rw [h2, nm_n hn (by rw [hc]; exact fun q => absurd q.1 (by decide))]
      exact RD_no (fun l hl => by
        have := app_len (a := [v]) hl
        rw [tell_a, if_neg (fun q => by
          have q1 := q.1
          rw [List.nil_append] at q1
          have : [v].length = 1 := rfl
          omega)])
    · rw [h2, nm_n hn (fun q => hc q.1)]
theorem RD_x {tx : List Int} {d : DS} {p : Nat} (h5 : (dX d).length ≤ 12) : RD tx d 120 4 p [] = rrM tx d p := by
  by_cases hl : (dX d).length = 12
  · rw [show rrM tx d p = none from if_pos hl]
    exact RD_no (fun l _ => by rw [tell_x, if_neg (fun q => by omega)])
  · rw [show rrM tx d p = match nmM tx p 0 9 59 with
      | none => none
      | some (v, i1) => some ((dM d, (dT d, (dX d ++ [v], d.2.2.2))), i1) from if_neg hl]
    rcases RD_s tx d 120 3 p [] with ⟨h1, h2⟩ | ⟨v, i1, hn, hc, h2⟩ | ⟨v, i1, hn, hc, h2⟩ | ⟨v, i1, hn, hc, hd, h2⟩
    · rw [h2, nm_0 h1]
    · obtain ⟨b1, b2, -, -⟩ := nuM_b hn
      by_cases h9 : v ≤ 9
      · rw [h2, nm_y hn hc b1 h9, tell_x, if_pos ⟨rfl, by omega, h9⟩]; rfl
      · rw [h2, nm_n hn (fun q => h9 q.2.2), tell_x, if_neg (fun q => h9 q.2.2)]; rfl
    · rw [h2, nm_n hn (by rw [hc]; exact fun q => absurd q.1 (by decide))]
      exact RD_no (fun l hl => by
        have := app_len (a := [v]) hl
        rw [tell_x, if_neg (fun q => by
          have q1 := q.1
          rw [List.nil_append] at q1
          have : [v].length = 1 := rfl
          omega)])
    · rw [h2, nm_n hn (fun q => hc q.1)]
theorem RD_s1 {tx : List Int} {d : DS} {p : Nat} (a : Int) : RD tx d 115 3 p [a] = match nmM tx p 0 20 59 with
    | none => none
    | some (b, i2) => some ((dM d, (dT d, (dX d, (a, b)))), i2) := by
  rcases RD_s tx d 115 2 p [a] with ⟨h1, h2⟩ | ⟨v, i1, hn, hc, h2⟩ | ⟨v, i1, hn, hc, h2⟩ | ⟨v, i1, hn, hc, hd, h2⟩
  · rw [h2, nm_0 h1]
  · obtain ⟨b1, b2, -, -⟩ := nuM_b hn
    by_cases h9 : v ≤ 20
    · rw [h2, nm_y hn hc b1 h9, tell_s, if_pos ⟨rfl, h9⟩]; rfl
    · rw [h2, nm_n hn (fun q => h9 q.2.2), tell_s, if_neg (fun q => h9 q.2)]; rfl
  · rw [h2, nm_n hn (by rw [hc]; exact fun q => absurd q.1 (by decide))]
    exact RD_no (fun l hl => by
      have := app_len (a := [a] ++ [v]) hl
      rw [tell_s, if_neg (fun q => by
        have q1 := q.1
        have : ([a] ++ [v]).length = 2 := rfl
        omega)])
  · rw [h2, nm_n hn (fun q => hc q.1)]
theorem RD_sh {tx : List Int} {d : DS} {p : Nat} : RD tx d 115 4 p [] = rsM tx d p := by
  unfold rsM
  rcases RD_s tx d 115 3 p [] with ⟨h1, h2⟩ | ⟨v, i1, hn, hc, h2⟩ | ⟨v, i1, hn, hc, h2⟩ | ⟨v, i1, hn, hc, hd, h2⟩
  · rw [h2, nm_0 h1]
  · rw [h2, nm_n hn (by rw [hc]; exact fun q => absurd q.1 (by decide)), tell_s, if_neg (fun q => absurd q.1 (by show ¬ (1 : Nat) = 2; decide))]; rfl
  · obtain ⟨b1, b2, -, -⟩ := nuM_b hn
    rw [h2, nm_y hn hc b1 b2]
    exact RD_s1 v
  · rw [h2, nm_n hn (fun q => hd q.1)]
theorem RD_u3 {tx : List Int} {d : DS} {p : Nat} {a b c : Int} (hT : (dT d).length < 8) (ha : 0 ≤ a ∧ a ≤ (dM d).length - 1) (hb : 0 ≤ b ∧ b ≤ 3) (hc3 : 1 ≤ c ∧ c ≤ 20) : RD tx d 117 1 p [a, b, c] = rt3 tx d a b c p := by
  unfold rt3
  rcases RD_s tx d 117 0 p [a, b, c] with ⟨h1, h2⟩ | ⟨v, i1, hn, hc, h2⟩ | ⟨v, i1, hn, hc, h2⟩ | ⟨v, i1, hn, hc, hd, h2⟩
  · rw [h2, nm_0 h1]
  · obtain ⟨b1, b2, -, -⟩ := nuM_b hn
    by_cases h9 : v ≤ 20
    · rw [h2, nm_y hn hc b1 h9, tell_u, if_pos ⟨rfl, hT, ha, hb, hc3, b1, h9⟩]; rfl
    · rw [h2, nm_n hn (fun q => h9 q.2.2), tell_u, if_neg (fun q => h9 q.2.2.2.2.2.2)]; rfl
  · rw [h2, nm_n hn (by rw [hc]; exact fun q => absurd q.1 (by decide))]
    rfl
  · rw [h2, nm_n hn (fun q => hc q.1)]
theorem RD_u2 {tx : List Int} {d : DS} {p : Nat} {a b : Int} (hT : (dT d).length < 8) (ha : 0 ≤ a ∧ a ≤ (dM d).length - 1) (hb : 0 ≤ b ∧ b ≤ 3) : RD tx d 117 2 p [a, b] = rt2 tx d a b p := by
  unfold rt2
  rcases RD_s tx d 117 1 p [a, b] with ⟨h1, h2⟩ | ⟨v, i1, hn, hc, h2⟩ | ⟨v, i1, hn, hc, h2⟩ | ⟨v, i1, hn, hc, hd, h2⟩
  · rw [h2, nm_0 h1]
  · rw [h2, nm_n hn (by rw [hc]; exact fun q => absurd q.1 (by decide)), tell_u, if_neg (fun q => absurd q.1 (by show ¬ (3 : Nat) = 4; decide))]; rfl
  · by_cases h9 : 1 ≤ v ∧ v ≤ 20
    · rw [h2, nm_y hn hc h9.1 h9.2]
      exact RD_u3 hT ha hb h9
    · rw [h2, nm_n hn (fun q => h9 q.2)]
      exact RD_no (fun l _ => by rw [tell_u, if_neg (fun q => h9 q.2.2.2.2.1)])
  · rw [h2, nm_n hn (fun q => hd q.1)]
theorem RD_u1 {tx : List Int} {d : DS} {p : Nat} {a : Int} (hT : (dT d).length < 8) (ha : 0 ≤ a ∧ a ≤ (dM d).length - 1) : RD tx d 117 3 p [a] = rt1 tx d a p := by
  unfold rt1
  rcases RD_s tx d 117 2 p [a] with ⟨h1, h2⟩ | ⟨v, i1, hn, hc, h2⟩ | ⟨v, i1, hn, hc, h2⟩ | ⟨v, i1, hn, hc, hd, h2⟩
  · rw [h2, nm_0 h1]
  · rw [h2, nm_n hn (by rw [hc]; exact fun q => absurd q.1 (by decide)), tell_u, if_neg (fun q => absurd q.1 (by show ¬ (2 : Nat) = 4; decide))]; rfl
  · by_cases h9 : 0 ≤ v ∧ v ≤ 3
    · rw [h2, nm_y hn hc h9.1 h9.2]
      exact RD_u2 hT ha h9
    · rw [h2, nm_n hn (fun q => h9 q.2)]
      exact RD_no (fun l _ => by rw [tell_u, if_neg (fun q => h9 q.2.2.2.1)])
  · rw [h2, nm_n hn (fun q => hd q.1)]
theorem RD_u {tx : List Int} {d : DS} {p : Nat} (h8 : (dT d).length ≤ 8) : RD tx d 117 4 p [] = rtM tx d p := by
  by_cases hl : (dT d).length = 8
  · rw [show rtM tx d p = none from if_pos hl]
    exact RD_no (fun l _ => by rw [tell_u, if_neg (fun q => by omega)])
  · rw [show rtM tx d p = match nmM tx p 0 ((dM d).length - 1) 44 with
      | none => none
      | some (a, i1) => rt1 tx d a i1 from if_neg hl]
    rcases RD_s tx d 117 3 p [] with ⟨h1, h2⟩ | ⟨v, i1, hn, hc, h2⟩ | ⟨v, i1, hn, hc, h2⟩ | ⟨v, i1, hn, hc, hd, h2⟩
    · rw [h2, nm_0 h1]
    · rw [h2, nm_n hn (by rw [hc]; exact fun q => absurd q.1 (by decide)), tell_u, if_neg (fun q => absurd q.1 (by show ¬ (1 : Nat) = 4; decide))]; rfl
    · by_cases h9 : 0 ≤ v ∧ v ≤ (dM d).length - 1
      · rw [h2, nm_y hn hc h9.1 h9.2]
        exact RD_u1 (by omega) h9
      · rw [h2, nm_n hn (fun q => h9 q.2)]
        exact RD_no (fun l _ => by rw [tell_u, if_neg (fun q => h9 q.2.2.1)])
    · rw [h2, nm_n hn (fun q => hd q.1)]
def DSk (d : DS) : Prop := (dM d).length ≤ 5 ∧ (dT d).length ≤ 8 ∧ (dX d).length ≤ 12
theorem riM_eq {tx : List Int} {d : DS} {i : Nat} (hk : DSk d) : RD tx d (chr tx i) 4 (i + 1) [] = riM tx d i := by
  unfold riM
  by_cases h1 : chr tx i = 97
  · rw [if_pos h1, h1, RD_a hk.1]
  · rw [if_neg h1]
    by_cases h2 : chr tx i = 117
    · rw [if_pos h2, h2, RD_u hk.2.1]
    · rw [if_neg h2]
      by_cases h3 : chr tx i = 120
      · rw [if_pos h3, h3, RD_x hk.2.2]
      · rw [if_neg h3]
        by_cases h4 : chr tx i = 115
        · rw [if_pos h4, h4, RD_sh]
        · rw [if_neg h4]
          exact RD_no (fun l _ => by unfold tell; rw [if_neg h1, if_neg h2, if_neg h3, if_neg h4])
theorem rdI_M {tx : List Int} {f i : Nat} {d : DS} (hk : DSk d) (hi : i < tx.length) : (riM tx d i = none → rdI tx (f + 1) i d = ((i : Int), d)) ∧ (∀ d' i1, riM tx d i = some (d', i1) → rdI tx (f + 1) i d = rdI tx f i1 d') := by
  rw [← riM_eq hk, rdI_s, if_pos hi]
  unfold RD
  rcases hr : rdN tx 4 (i + 1) [] with _ | ⟨ns, i2⟩
  · exact ⟨fun _ => rfl, fun d' i1 h => by cases h⟩
  · rcases ht : tell d (chr tx i) ns with _ | d2
    · refine ⟨fun _ => by dsimp only; rw [ht], fun d' i1 h => ?_⟩
      have h : (tell d (chr tx i) ns).map (fun d' => (d', i2)) = some (d', i1) := h
      rw [ht] at h; cases h
    · refine ⟨fun h => ?_, fun d' i1 h => ?_⟩
      · have h : (tell d (chr tx i) ns).map (fun d' => (d', i2)) = none := h
        rw [ht] at h; cases h
      · have h : (tell d (chr tx i) ns).map (fun d' => (d', i2)) = some (d', i1) := h
        rw [ht] at h; cases h
        dsimp only; rw [ht]
/-- what the model has read so far -/
def DM (σ : Wd) (d : DS) : Prop := (σ 128 21 = (dM d).length ∧ σ 128 22 = (dT d).length ∧ σ 128 23 = (dX d).length ∧ σ 128 24 = dS d ∧ σ 128 25 = dL d) ∧ DSk d ∧ (∀ (k : Nat) (v : Int), (dM d)[k]? = some v → σ 141 k = v) ∧ (∀ (k : Nat) (q : Int × (Int × (Int × Int))), (dT d)[k]? = some q → σ 142 (4 * (k : Int)) = q.1 ∧ σ 142 (4 * (k : Int) + 1) = q.2.1 ∧ σ 142 (4 * (k : Int) + 2) = q.2.2.1 ∧ σ 142 (4 * (k : Int) + 3) = q.2.2.2) ∧ (∀ (k : Nat) (v : Int), (dX d)[k]? = some v → σ 143 k = v)
/-- what the model reads with alone is written -/
def FrR (σ σ' : Wd) : Prop := ∀ (k : Nat) (i : Int), ¬ (k = 128 ∧ 20 ≤ i ∧ i < 30) → ¬ (141 ≤ k ∧ k ≤ 143) → σ' k i = σ k i
theorem FrR.rf (σ : Wd) : FrR σ σ := fun _ _ _ _ => rfl
theorem FrR.tr {σ τ ρ : Wd} (h : FrR σ τ) (h2 : FrR τ ρ) : FrR σ ρ := fun k i a b => (h2 k i a b).trans (h k i a b)
theorem FrR.x {σ σ' : Wd} (h : FrR σ σ') : FrX σ σ' := fun k i a b c d => h k i (by omega) c
theorem FrR.up {σ τ : Wd} (h : FrR σ τ) (a : Nat) (i x : Int) (ha : (141 ≤ a ∧ a ≤ 143) ∨ (a = 128 ∧ 20 ≤ i ∧ i < 30)) : FrR σ (up τ a i x) := by
  intro k b h1 h2
  rw [up_off τ x (fun q => by obtain ⟨rfl, rfl⟩ := q; rcases ha with ha | ha; exact h2 ha; exact h1 ha)]
  exact h k b h1 h2
theorem FrR.tx {σ σ' : Wd} {tx : List Int} (h : FrR σ σ') (hT : TxM σ tx) : TxM σ' tx := hT.fx (fun k i a => h k i (by omega) (by omega))
/-- the place and the number alone -/
def FrN (σ σ' : Wd) : Prop := ∀ (k : Nat) (i : Int), ¬ (k = 128 ∧ (i = 20 ∨ i = 29)) → σ' k i = σ k i
theorem FrN.rf (σ : Wd) : FrN σ σ := fun _ _ _ => rfl
theorem FrN.r {σ σ' : Wd} (h : FrN σ σ') : FrR σ σ' := fun k i a b => h k i (by omega)
theorem FrN.up {σ τ : Wd} (h : FrN σ τ) (i x : Int) (ha : i = 20 ∨ i = 29) : FrN σ (up τ 128 i x) := fun k b h1 => (up_off τ x (fun q => h1 ⟨q.1, by rw [q.2]; exact ha⟩)).trans (h k b h1)
theorem FrN.dm {σ σ' : Wd} {d : DS} (h : FrN σ σ') (hd : DM σ d) : DM σ' d := by
  obtain ⟨⟨h1, h2, h3, h4, h5⟩, hk, g1, g2, g3⟩ := hd
  refine ⟨⟨by rw [h 128 21 (by omega)]; exact h1, by rw [h 128 22 (by omega)]; exact h2, by rw [h 128 23 (by omega)]; exact h3, by rw [h 128 24 (by omega)]; exact h4, by rw [h 128 25 (by omega)]; exact h5⟩, hk, fun k v q => ?_, fun k q e => ?_, fun k v q => ?_⟩
  · rw [h 141 k (by omega)]; exact g1 k v q
  · rw [h 142 _ (by omega), h 142 _ (by omega), h 142 _ (by omega), h 142 _ (by omega)]; exact g2 k q e
  · rw [h 143 k (by omega)]; exact g3 k v q
theorem DM.addM {σ : Wd} {d : DS} (h : DM σ d) (hl : (dM d).length < 5) (v : Int) : DM (up (up σ 141 (dM d).length v) 128 21 ((dM d).length + 1)) (dM d ++ [v], d.2) := by
  obtain ⟨⟨h1, h2, h3, h4, h5⟩, ⟨k1, k2, k3⟩, g1, g2, g3⟩ := h
  refine ⟨⟨?_, ?_, ?_, ?_, ?_⟩, ⟨?_, k2, k3⟩, fun k u q => ?_, fun k q e => ?_, fun k u q => ?_⟩
  · show _ = (((dM d ++ [v]).length : Nat) : Int)
    rw [up_at, List.length_append]; rfl
  · rw [up_ne2 _ (by decide), up_ne1 _ _ _ _ (by decide)]; exact h2
  · rw [up_ne2 _ (by decide), up_ne1 _ _ _ _ (by decide)]; exact h3
  · rw [up_ne2 _ (by decide), up_ne1 _ _ _ _ (by decide)]; exact h4
  · rw [up_ne2 _ (by decide), up_ne1 _ _ _ _ (by decide)]; exact h5
  · show (dM d ++ [v]).length ≤ 5
    rw [List.length_append, List.length_singleton]; omega
  · rw [up_ne1 _ _ _ _ (by decide)]
    rcases rowApp q with ⟨a, b⟩ | ⟨a, b⟩
    · rw [up_ne2 _ (by omega)]; exact g1 k u b
    · rw [a, up_at, b]
  · rw [up_ne1 _ _ _ _ (by decide), up_ne1 _ _ _ _ (by decide), up_ne1 _ _ _ _ (by decide), up_ne1 _ _ _ _ (by decide), up_ne1 _ _ _ _ (by decide), up_ne1 _ _ _ _ (by decide), up_ne1 _ _ _ _ (by decide), up_ne1 _ _ _ _ (by decide)]; exact g2 k q e
  · rw [up_ne1 _ _ _ _ (by decide), up_ne1 _ _ _ _ (by decide)]; exact g3 k u q
theorem DM.addX {σ : Wd} {d : DS} (h : DM σ d) (hl : (dX d).length < 12) (v : Int) : DM (up (up σ 143 (dX d).length v) 128 23 ((dX d).length + 1)) (dM d, (dT d, (dX d ++ [v], d.2.2.2))) := by
  obtain ⟨⟨h1, h2, h3, h4, h5⟩, ⟨k1, k2, k3⟩, g1, g2, g3⟩ := h
  refine ⟨⟨?_, ?_, ?_, ?_, ?_⟩, ⟨k1, k2, ?_⟩, fun k u q => ?_, fun k q e => ?_, fun k u q => ?_⟩
  · rw [up_ne2 _ (by decide), up_ne1 _ _ _ _ (by decide)]; exact h1
  · rw [up_ne2 _ (by decide), up_ne1 _ _ _ _ (by decide)]; exact h2
  · show _ = (((dX d ++ [v]).length : Nat) : Int)
    rw [up_at, List.length_append]; rfl
  · rw [up_ne2 _ (by decide), up_ne1 _ _ _ _ (by decide)]; exact h4
  · rw [up_ne2 _ (by decide), up_ne1 _ _ _ _ (by decide)]; exact h5
  · show (dX d ++ [v]).length ≤ 12
    rw [List.length_append, List.length_singleton]; omega
  · rw [up_ne1 _ _ _ _ (by decide), up_ne1 _ _ _ _ (by decide)]; exact g1 k u q
  · rw [up_ne1 _ _ _ _ (by decide), up_ne1 _ _ _ _ (by decide), up_ne1 _ _ _ _ (by decide), up_ne1 _ _ _ _ (by decide), up_ne1 _ _ _ _ (by decide), up_ne1 _ _ _ _ (by decide), up_ne1 _ _ _ _ (by decide), up_ne1 _ _ _ _ (by decide)]; exact g2 k q e
  · rw [up_ne1 _ _ _ _ (by decide)]
    rcases rowApp q with ⟨a, b⟩ | ⟨a, b⟩
    · rw [up_ne2 _ (by omega)]; exact g3 k u b
    · rw [a, up_at, b]
theorem DM.shop {σ : Wd} {d : DS} (h : DM σ d) (a b : Int) : DM (up (up σ 128 24 a) 128 25 b) (dM d, (dT d, (dX d, (a, b)))) := by
  obtain ⟨⟨h1, h2, h3, h4, h5⟩, hk, g1, g2, g3⟩ := h
  refine ⟨⟨?_, ?_, ?_, ?_, ?_⟩, hk, fun k u q => ?_, fun k q e => ?_, fun k u q => ?_⟩
  · rw [up_ne2 _ (by decide), up_ne2 _ (by decide)]; exact h1
  · rw [up_ne2 _ (by decide), up_ne2 _ (by decide)]; exact h2
  · rw [up_ne2 _ (by decide), up_ne2 _ (by decide)]; exact h3
  · rw [up_ne2 _ (by decide), up_at]; rfl
  · rw [up_at]; rfl
  · rw [up_ne1 _ _ _ _ (by decide), up_ne1 _ _ _ _ (by decide)]; exact g1 k u q
  · rw [up_ne1 _ _ _ _ (by decide), up_ne1 _ _ _ _ (by decide), up_ne1 _ _ _ _ (by decide), up_ne1 _ _ _ _ (by decide), up_ne1 _ _ _ _ (by decide), up_ne1 _ _ _ _ (by decide), up_ne1 _ _ _ _ (by decide), up_ne1 _ _ _ _ (by decide)]; exact g2 k q e
  · rw [up_ne1 _ _ _ _ (by decide), up_ne1 _ _ _ _ (by decide)]; exact g3 k u q
/-- within a thing: some of its four numbers stand -/
theorem DM.part {σ : Wd} {d : DS} (h : DM σ d) (i x : Int) (hi : 4 * ((dT d).length : Int) ≤ i) : DM (up σ 142 i x) d := by
  obtain ⟨⟨h1, h2, h3, h4, h5⟩, hk, g1, g2, g3⟩ := h
  refine ⟨⟨?_, ?_, ?_, ?_, ?_⟩, hk, fun k u q => ?_, fun k q e => ?_, fun k u q => ?_⟩
  · rw [up_ne1 _ _ _ _ (by decide)]; exact h1
  · rw [up_ne1 _ _ _ _ (by decide)]; exact h2
  · rw [up_ne1 _ _ _ _ (by decide)]; exact h3
  · rw [up_ne1 _ _ _ _ (by decide)]; exact h4
  · rw [up_ne1 _ _ _ _ (by decide)]; exact h5
  · rw [up_ne1 _ _ _ _ (by decide)]; exact g1 k u q
  · have hl := (List.getElem?_eq_some_iff.mp e).1
    rw [up_ne2 _ (by omega), up_ne2 _ (by omega), up_ne2 _ (by omega), up_ne2 _ (by omega)]; exact g2 k q e
  · rw [up_ne1 _ _ _ _ (by decide)]; exact g3 k u q
theorem DM.addT {σ : Wd} {d : DS} (h : DM σ d) (hl : (dT d).length < 8) {a b c e : Int} (ha : σ 142 (4 * ((dT d).length : Int)) = a) (hb : σ 142 (4 * ((dT d).length : Int) + 1) = b) (hc : σ 142 (4 * ((dT d).length : Int) + 2) = c) (he : σ 142 (4 * ((dT d).length : Int) + 3) = e) : DM (up σ 128 22 ((dT d).length + 1)) (dM d, (dT d ++ [(a, (b, (c, e)))], d.2.2)) := by
  obtain ⟨⟨h1, h2, h3, h4, h5⟩, ⟨k1, k2, k3⟩, g1, g2, g3⟩ := h
  refine ⟨⟨?_, ?_, ?_, ?_, ?_⟩, ⟨k1, ?_, k3⟩, fun k u q => ?_, fun k q z => ?_, fun k u q => ?_⟩
  · rw [up_ne2 _ (by decide)]; exact h1
  · show _ = (((dT d ++ [(a, (b, (c, e)))]).length : Nat) : Int)
    rw [up_at, List.length_append]; rfl
  · rw [up_ne2 _ (by decide)]; exact h3
  · rw [up_ne2 _ (by decide)]; exact h4
  · rw [up_ne2 _ (by decide)]; exact h5
  · show (dT d ++ [(a, (b, (c, e)))]).length ≤ 8
    rw [List.length_append, List.length_singleton]; omega
  · rw [up_ne1 _ _ _ _ (by decide)]; exact g1 k u q
  · rw [up_ne1 _ _ _ _ (by decide), up_ne1 _ _ _ _ (by decide), up_ne1 _ _ _ _ (by decide), up_ne1 _ _ _ _ (by decide)]
    rcases rowApp z with ⟨p, r⟩ | ⟨p, r⟩
    · exact g2 k q r
    · rw [p, r]; exact ⟨ha, hb, hc, he⟩
  · rw [up_ne1 _ _ _ _ (by decide)]; exact g3 k u q

def i_Z_here : List (Nat × (Instr × Nat)) := [(0, (.aload_n 0, 1)), (1, (.getfield 100, 3)), (4, (.aload_n 0, 1)), (5, (.getfield 97, 3)), (8, (.if_icmp .ge 15, 3)), (11, (.aload_n 0, 1)), (12, (.getfield 43, 3)), (15, (.aload_n 0, 1)), (16, (.getfield 100, 3)), (19, (.iaload, 1)), (20, (.goto 4, 3)), (23, (.iconst 0, 1)), (24, (.ireturn, 1))]
theorem k_Z_here : i_Z_here.all (fun q => decide (decode b_Z_here q.1 = .ok q.2)) = true := by decide +kernel

set_option maxHeartbeats 1000000 in
set_option maxRecDepth 20000 in
theorem c_Z_here (l : Launch) (G : GE) (σ : Wd) (tx : List Int) (i : Nat) (hT : TxM σ tx) (h20 : σ 128 20 = i) (hi : i < 2000) : Ct l G y_Z_here b_Z_here 1 (some (.int)) 0 0 [vR 128] σ (Dt (some (vI (chr tx i))) σ) := by
  refine Ct.of cm_Z_here (Nat.le_of_ble_eq_true rfl) ?_
  intro X hXl hXG hXN hRm C E
  subst hXl; subst hXG
  show V X 0 [some (vR 128)] [] σ
  refine V_R (fun hR => ?_)
  obtain ⟨t1, t2, t3⟩ := id hT
  refine V_aload_n (pc := 0) C (dk k_Z_here 0 rfl) rfl ?_
  refine V_geti (pc := 1) (ji := 20) C (dk k_Z_here 1 rfl) fl_Z_100 kq_128 (by decide) rfl rfl ?_
  refine V_aload_n (pc := 4) C (dk k_Z_here 2 rfl) rfl ?_
  refine V_geti (pc := 5) (ji := 19) C (dk k_Z_here 3 rfl) fl_Z_97 kq_128 (by decide) rfl rfl ?_
  rw [h20, t1]
  refine V_icmpge (pc := 8) C (dk k_Z_here 4 rfl) 23 rfl (by first | exact hR _ _ | with_reducible assumption | exact ⟨by omega, by omega⟩) (by first | exact hR _ _ | with_reducible assumption | exact ⟨by omega, by omega⟩) (fun h1 => ?_) (fun h1 => ?_)
  · skip
    refine V_iconst (pc := 23) C (dk k_Z_here 11 rfl) rfl ?_
    refine V_iret (pc := 24) C E (dk k_Z_here 12 rfl) ?_
    first | (rw [(t3 i _ (chr_at (show i < tx.length by omega))).1]; exact ⟨rfl, rfl⟩) | (rw [chr_out (show tx.length ≤ i by omega)]; exact ⟨rfl, rfl⟩)
  · skip
    refine V_aload_n (pc := 11) C (dk k_Z_here 5 rfl) rfl ?_
    refine V_getr (pc := 12) (o2 := 140) C (dk k_Z_here 6 rfl) fl_Z_43 kq_128 (by decide) rfl (by decide) rfl ?_
    refine V_aload_n (pc := 15) C (dk k_Z_here 7 rfl) rfl ?_
    refine V_geti (pc := 16) (ji := 20) C (dk k_Z_here 8 rfl) fl_Z_100 kq_128 (by decide) rfl rfl ?_
    rw [h20]
    refine V_iald (pc := 19) C (dk k_Z_here 9 rfl) kq_140 (by decide) (by omega) (by omega) ?_
    refine V_goto (pc := 20) C (dk k_Z_here 10 rfl) 24 rfl ?_
    refine V_iret (pc := 24) C E (dk k_Z_here 12 rfl) ?_
    first | (rw [(t3 i _ (chr_at (show i < tx.length by omega))).1]; exact ⟨rfl, rfl⟩) | (rw [chr_out (show tx.length ≤ i by omega)]; exact ⟨rfl, rfl⟩)

def i_Z_isFigure : List (Nat × (Instr × Nat)) := [(0, (.aload_n 0, 1)), (1, (.invokevirtual 103, 3)), (4, (.bipush 48, 2)), (6, (.bipush 57, 2)), (8, (.invokestatic 93, 3)), (11, (.ireturn, 1))]
theorem k_Z_isFigure : i_Z_isFigure.all (fun q => decide (decode b_Z_isFigure q.1 = .ok q.2)) = true := by decide +kernel

set_option maxHeartbeats 1000000 in
set_option maxRecDepth 20000 in
theorem c_Z_isFigure (l : Launch) (G : GE) (σ : Wd) (tx : List Int) (i : Nat) (hT : TxM σ tx) (h20 : σ 128 20 = i) (hi : i < 2000) : Ct l G y_Z_isFigure b_Z_isFigure 1 (some (.boolean)) 1 22 [vR 128] σ (Dt (some (vI (if fig (chr tx i) then 1 else 0))) σ) := by
  refine Ct.of cm_Z_isFigure (Nat.le_of_ble_eq_true rfl) ?_
  intro X hXl hXG hXN hRm C E
  subst hXl; subst hXG
  show V X 0 [some (vR 128)] [] σ
  refine V_R (fun hR => ?_)
  have ⟨cb0, cb1⟩ := chrM_b hT i
  refine V_aload_n (pc := 0) C (dk k_Z_isFigure 0 rfl) rfl ?_
  refine V_callV (pc := 1) C (dk k_Z_isFigure 1 rfl) lk_Z_103 cm_Z_here vm_Z_here (c_Z_here _ _ _ tx i hT h20 hi) kq_128 rfl rfl rfl (Nat.le_of_ble_eq_true rfl) (Rm.mono hRm (by decide) (by decide)) ?_
  refine V_bipush (pc := 4) (n' := 48) C (dk k_Z_isFigure 2 rfl) rfl ?_
  refine V_bipush (pc := 6) (n' := 57) C (dk k_Z_isFigure 3 rfl) rfl ?_
  refine V_callS (pc := 8) C (dk k_Z_isFigure 4 rfl) lk_Z_93 cm_Z_in sm_Z_in (c_Z_in _ _ _ (chr tx i) 48 57 ⟨by omega, by omega⟩ ⟨by decide, by decide⟩ ⟨by decide, by decide⟩) rfl rfl (Nat.le_of_ble_eq_true rfl) (Rm.mono hRm (by decide) (by decide)) ?_
  refine V_zret (pc := 11) C (by first | exact Or.inl rfl | exact Or.inr rfl | (split <;> first | exact Or.inl rfl | exact Or.inr rfl) | omega) E (dk k_Z_isFigure 5 rfl) ?_
  exact ⟨rfl, rfl⟩

def i_Z_number : List (Nat × (Instr × Nat)) := [(0, (.aload_n 0, 1)), (1, (.invokevirtual 107, 3)), (4, (.ifCond .ne 5, 3)), (7, (.iconst 0, 1)), (8, (.ireturn, 1)), (9, (.aload_n 0, 1)), (10, (.invokevirtual 103, 3)), (13, (.bipush 48, 2)), (15, (.isub, 1)), (16, (.istore 4, 2)), (18, (.aload_n 0, 1)), (19, (.dup, 1)), (20, (.getfield 100, 3)), (23, (.iconst 1, 1)), (24, (.iadd, 1)), (25, (.putfield 100, 3)), (28, (.aload_n 0, 1)), (29, (.invokevirtual 107, 3)), (32, (.ifCond .eq 28, 3)), (35, (.bipush 10, 2)), (37, (.iload 4, 2)), (39, (.imul, 1)), (40, (.aload_n 0, 1)), (41, (.invokevirtual 103, 3)), (44, (.iadd, 1)), (45, (.bipush 48, 2)), (47, (.isub, 1)), (48, (.istore 4, 2)), (50, (.aload_n 0, 1)), (51, (.dup, 1)), (52, (.getfield 100, 3)), (55, (.iconst 1, 1)), (56, (.iadd, 1)), (57, (.putfield 100, 3)), (60, (.aload_n 0, 1)), (61, (.iload 4, 2)), (63, (.putfield 111, 3)), (66, (.aload_n 0, 1)), (67, (.invokevirtual 103, 3)), (70, (.iload_n 3, 1)), (71, (.if_icmp .ne 13, 3)), (74, (.iload 4, 2)), (76, (.iload_n 1, 1)), (77, (.iload_n 2, 1)), (78, (.invokestatic 93, 3)), (81, (.ifCond .ne 5, 3)), (84, (.iconst 0, 1)), (85, (.ireturn, 1)), (86, (.aload_n 0, 1)), (87, (.dup, 1)), (88, (.getfield 100, 3)), (91, (.iconst 1, 1)), (92, (.iadd, 1)), (93, (.putfield 100, 3)), (96, (.iconst 1, 1)), (97, (.ireturn, 1))]
theorem k_Z_number : i_Z_number.all (fun q => decide (decode b_Z_number q.1 = .ok q.2)) = true := by decide +kernel

set_option maxHeartbeats 1000000 in
set_option maxRecDepth 20000 in
theorem c_Z_number (l : Launch) (G : GE) (σ : Wd) (tx : List Int) (i : Nat) (lo hi en : Int) (hT : TxM σ tx) (h20 : σ 128 20 = i) (hi0 : i < 1000) (hlo : inR lo) (hhi : inR hi) (hen : inR en) : Ct l G y_Z_number b_Z_number 5 (some (.boolean)) 2 42 [vR 128, vI lo, vI hi, vI en] σ (Rt (some (vI (if (nmM tx i lo hi en).isSome = true then 1 else 0))) (fun σ' => (∀ v i1, nmM tx i lo hi en = some (v, i1) → σ' 128 20 = i1 ∧ σ' 128 29 = v) ∧ FrN σ σ')) := by
  refine Ct.of cm_Z_number (Nat.le_of_ble_eq_true rfl) ?_
  intro X hXl hXG hXN hRm C E
  subst hXl; subst hXG
  have ⟨hlo_1, hlo_2⟩ := hlo
  have ⟨hhi_1, hhi_2⟩ := hhi
  have ⟨hen_1, hen_2⟩ := hen
  show V X 0 [some (vR 128), some (vI lo), some (vI hi), some (vI en), none] [] σ
  refine V_R (fun hR => ?_)
  have ⟨cb0, cb1⟩ := chrM_b hT i
  have ⟨cb2, cb3⟩ := chrM_b hT (i + 1)
  refine V_aload_n (pc := 0) C (dk k_Z_number 0 rfl) rfl ?_
  refine V_callV (pc := 1) C (dk k_Z_number 1 rfl) lk_Z_107 cm_Z_isFigure vm_Z_isFigure (c_Z_isFigure _ _ _ tx i hT h20 (by omega)) kq_128 rfl rfl rfl (Nat.le_of_ble_eq_true rfl) (Rm.mono hRm (by decide) (by decide)) ?_
  refine V_ifneB (pc := 4) C (dk k_Z_number 2 rfl) 9 rfl (fun h1 => ?_) (fun h1 => ?_)
  · skip
    refine V_aload_n (pc := 9) C (dk k_Z_number 5 rfl) rfl ?_
    refine V_callV (pc := 10) C (dk k_Z_number 6 rfl) lk_Z_103 cm_Z_here vm_Z_here (c_Z_here _ _ _ tx i hT h20 (by omega)) kq_128 rfl rfl rfl (Nat.le_of_ble_eq_true rfl) (Rm.mono hRm (by decide) (by decide)) ?_
    refine V_bipush (pc := 13) (n' := 48) C (dk k_Z_number 7 rfl) rfl ?_
    refine V_isub (pc := 15) C (dk k_Z_number 8 rfl) ?_
    refine V_istore (pc := 16) C (dk k_Z_number 9 rfl) (by rw [hXN]; decide) ?_
    dsimp only [lst, lstL, lz, kill, Fin.val, Nat.reduceAdd]
    refine V_aload_n (pc := 18) C (dk k_Z_number 10 rfl) rfl ?_
    refine V_dupR (pc := 19) C (dk k_Z_number 11 rfl) ?_
    refine V_geti (pc := 20) (ji := 20) C (dk k_Z_number 12 rfl) fl_Z_100 kq_128 (by decide) rfl rfl ?_
    refine V_iconst (pc := 23) C (dk k_Z_number 13 rfl) rfl ?_
    rw [h20]
    refine V_iadd (pc := 24) C (dk k_Z_number 14 rfl) ?_
    refine V_puti (pc := 25) (ji := 20) C (dk k_Z_number 15 rfl) fl_Z_100 fw_9_20 kq_128 (by decide) rfl rfl ⟨by omega, by omega⟩ ?_
    refine V_R (fun hR => ?_)
    refine V_aload_n (pc := 28) C (dk k_Z_number 16 rfl) rfl ?_
    refine V_callV (pc := 29) C (dk k_Z_number 17 rfl) lk_Z_107 cm_Z_isFigure vm_Z_isFigure (c_Z_isFigure _ _ _ tx (i + 1) (hT.fx (fun k b a => up_off _ _ (by omega))) (up_at σ 128 20 ((i : Int) + 1)) (by omega)) kq_128 rfl rfl rfl (Nat.le_of_ble_eq_true rfl) (Rm.mono hRm (by decide) (by decide)) ?_
    refine V_ifeqB (pc := 32) C (dk k_Z_number 18 rfl) 60 rfl (fun h2 => ?_) (fun h2 => ?_)
    · skip
      first | (obtain ⟨v, ev, τ0, eτ, i1, hn, h0, hf⟩ : ∃ v, 10 * (chr tx i - 48) + chr tx (i + 1) - 48 = v ∧ ∃ τ0 : Wd, up (up σ 128 20 ((i : Int) + 1)) 128 20 ((i : Int) + 1 + 1) = τ0 ∧ ∃ i1 : Nat, num tx i = some (v, i1) ∧ τ0 128 20 = i1 ∧ FrN σ τ0 := ⟨_, rfl, _, rfl, i + 2, num_2 (by assumption) (by assumption), (up_at _ _ _ _).trans (by omega), ((FrN.rf σ).up 20 _ (Or.inl rfl)).up 20 _ (Or.inl rfl)⟩; rw [ev, eτ]) | (obtain ⟨v, ev, τ0, eτ, i1, hn, h0, hf⟩ : ∃ v, chr tx i - 48 = v ∧ ∃ τ0 : Wd, up σ 128 20 ((i : Int) + 1) = τ0 ∧ ∃ i1 : Nat, num tx i = some (v, i1) ∧ τ0 128 20 = i1 ∧ FrN σ τ0 := ⟨_, rfl, _, rfl, i + 1, num_1 (by assumption) (by assumption), (up_at _ _ _ _).trans (by omega), (FrN.rf σ).up 20 _ (Or.inl rfl)⟩; rw [ev, eτ])
      have ⟨vb0, vb1, vb2, vb3⟩ := nuM_b hn
      refine V_R (fun hR => ?_)
      refine V_aload_n (pc := 60) C (dk k_Z_number 34 rfl) rfl ?_
      refine V_iload (pc := 61) C (dk k_Z_number 35 rfl) rfl ?_
      refine V_puti (pc := 63) (ji := 29) C (dk k_Z_number 36 rfl) fl_Z_111 fw_9_29 kq_128 (by decide) rfl rfl ⟨by omega, by omega⟩ ?_
      refine V_R (fun hR => ?_)
      obtain ⟨τ, eτ2⟩ : ∃ τ : Wd, up τ0 128 29 v = τ := ⟨_, rfl⟩
      have hfτ : FrN σ τ := by rw [← eτ2]; exact hf.up 29 _ (Or.inr rfl)
      have h20τ : τ 128 20 = i1 := by rw [← eτ2, up_ne2 _ (by decide)]; exact h0
      have h29τ : τ 128 29 = v := by rw [← eτ2, up_at]
      rw [eτ2]
      have hTτ := hfτ.r.tx hT
      have ⟨cb4, cb5⟩ := chrM_b hT i1
      refine V_aload_n (pc := 66) C (dk k_Z_number 37 rfl) rfl ?_
      refine V_callV (pc := 67) C (dk k_Z_number 38 rfl) lk_Z_103 cm_Z_here vm_Z_here (c_Z_here _ _ _ tx i1 hTτ h20τ (by omega)) kq_128 rfl rfl rfl (Nat.le_of_ble_eq_true rfl) (Rm.mono hRm (by decide) (by decide)) ?_
      refine V_iload_n (pc := 70) C (dk k_Z_number 39 rfl) rfl ?_
      refine V_icmpne (pc := 71) C (dk k_Z_number 40 rfl) 84 rfl (by first | exact hR _ _ | with_reducible assumption | exact ⟨by omega, by omega⟩) (by first | exact hR _ _ | with_reducible assumption | exact ⟨by omega, by omega⟩) (fun h3 => ?_) (fun h3 => ?_)
      · skip
        refine V_iconst (pc := 84) C (dk k_Z_number 46 rfl) rfl ?_
        refine V_zret (pc := 85) C (by first | exact Or.inl rfl | exact Or.inr rfl | (split <;> first | exact Or.inl rfl | exact Or.inr rfl) | omega) E (dk k_Z_number 47 rfl) ?_
        have e : nmM tx i lo hi en = none := nm_n hn (fun q => by omega)
        rw [e]
        exact ⟨rfl, fun v i1 h => (by cases h), hfτ⟩
      · skip
        refine V_iload (pc := 74) C (dk k_Z_number 41 rfl) rfl ?_
        refine V_iload_n (pc := 76) C (dk k_Z_number 42 rfl) rfl ?_
        refine V_iload_n (pc := 77) C (dk k_Z_number 43 rfl) rfl ?_
        refine V_callS (pc := 78) C (dk k_Z_number 44 rfl) lk_Z_93 cm_Z_in sm_Z_in (c_Z_in _ _ _ v lo hi ⟨by omega, by omega⟩ hlo hhi) rfl rfl (Nat.le_of_ble_eq_true rfl) (Rm.mono hRm (by decide) (by decide)) ?_
        refine V_ifneB (pc := 81) C (dk k_Z_number 45 rfl) 86 rfl (fun h4 => ?_) (fun h4 => ?_)
        · skip
          refine V_aload_n (pc := 86) C (dk k_Z_number 48 rfl) rfl ?_
          refine V_dupR (pc := 87) C (dk k_Z_number 49 rfl) ?_
          refine V_geti (pc := 88) (ji := 20) C (dk k_Z_number 50 rfl) fl_Z_100 kq_128 (by decide) rfl rfl ?_
          refine V_iconst (pc := 91) C (dk k_Z_number 51 rfl) rfl ?_
          rw [h20τ]
          refine V_iadd (pc := 92) C (dk k_Z_number 52 rfl) ?_
          refine V_puti (pc := 93) (ji := 20) C (dk k_Z_number 53 rfl) fl_Z_100 fw_9_20 kq_128 (by decide) rfl rfl ⟨by omega, by omega⟩ ?_
          refine V_R (fun hR => ?_)
          refine V_iconst (pc := 96) C (dk k_Z_number 54 rfl) rfl ?_
          refine V_zret (pc := 97) C (by first | exact Or.inl rfl | exact Or.inr rfl | (split <;> first | exact Or.inl rfl | exact Or.inr rfl) | omega) E (dk k_Z_number 55 rfl) ?_
          have e : nmM tx i lo hi en = some (v, i1 + 1) := nm_y hn (by omega) (by omega) (by omega)
          rw [e]
          exact ⟨rfl, fun v2 i2 h => by cases h; exact ⟨(up_at _ _ _ _).trans (by omega), (up_ne2 _ (by decide)).trans h29τ⟩, hfτ.up 20 _ (Or.inl rfl)⟩
        · skip
          refine V_iconst (pc := 84) C (dk k_Z_number 46 rfl) rfl ?_
          refine V_zret (pc := 85) C (by first | exact Or.inl rfl | exact Or.inr rfl | (split <;> first | exact Or.inl rfl | exact Or.inr rfl) | omega) E (dk k_Z_number 47 rfl) ?_
          have e : nmM tx i lo hi en = none := nm_n hn (fun q => by omega)
          rw [e]
          exact ⟨rfl, fun v i1 h => (by cases h), hfτ⟩
    · skip
      refine V_bipush (pc := 35) (n' := 10) C (dk k_Z_number 19 rfl) rfl ?_
      refine V_iload (pc := 37) C (dk k_Z_number 20 rfl) rfl ?_
      refine V_imul (pc := 39) C (dk k_Z_number 21 rfl) ?_
      refine V_aload_n (pc := 40) C (dk k_Z_number 22 rfl) rfl ?_
      refine V_callV (pc := 41) C (dk k_Z_number 23 rfl) lk_Z_103 cm_Z_here vm_Z_here (c_Z_here _ _ _ tx (i + 1) (hT.fx (fun k b a => up_off _ _ (by omega))) (up_at σ 128 20 ((i : Int) + 1)) (by omega)) kq_128 rfl rfl rfl (Nat.le_of_ble_eq_true rfl) (Rm.mono hRm (by decide) (by decide)) ?_
      refine V_iadd (pc := 44) C (dk k_Z_number 24 rfl) ?_
      refine V_bipush (pc := 45) (n' := 48) C (dk k_Z_number 25 rfl) rfl ?_
      refine V_isub (pc := 47) C (dk k_Z_number 26 rfl) ?_
      refine V_istore (pc := 48) C (dk k_Z_number 27 rfl) (by rw [hXN]; decide) ?_
      dsimp only [lst, lstL, lz, kill, Fin.val, Nat.reduceAdd]
      refine V_aload_n (pc := 50) C (dk k_Z_number 28 rfl) rfl ?_
      refine V_dupR (pc := 51) C (dk k_Z_number 29 rfl) ?_
      refine V_geti (pc := 52) (ji := 20) C (dk k_Z_number 30 rfl) fl_Z_100 kq_128 (by decide) rfl rfl ?_
      refine V_iconst (pc := 55) C (dk k_Z_number 31 rfl) rfl ?_
      rw [up_at]
      refine V_iadd (pc := 56) C (dk k_Z_number 32 rfl) ?_
      refine V_puti (pc := 57) (ji := 20) C (dk k_Z_number 33 rfl) fl_Z_100 fw_9_20 kq_128 (by decide) rfl rfl ⟨by omega, by omega⟩ ?_
      refine V_R (fun hR => ?_)
      first | (obtain ⟨v, ev, τ0, eτ, i1, hn, h0, hf⟩ : ∃ v, 10 * (chr tx i - 48) + chr tx (i + 1) - 48 = v ∧ ∃ τ0 : Wd, up (up σ 128 20 ((i : Int) + 1)) 128 20 ((i : Int) + 1 + 1) = τ0 ∧ ∃ i1 : Nat, num tx i = some (v, i1) ∧ τ0 128 20 = i1 ∧ FrN σ τ0 := ⟨_, rfl, _, rfl, i + 2, num_2 (by assumption) (by assumption), (up_at _ _ _ _).trans (by omega), ((FrN.rf σ).up 20 _ (Or.inl rfl)).up 20 _ (Or.inl rfl)⟩; rw [ev, eτ]) | (obtain ⟨v, ev, τ0, eτ, i1, hn, h0, hf⟩ : ∃ v, chr tx i - 48 = v ∧ ∃ τ0 : Wd, up σ 128 20 ((i : Int) + 1) = τ0 ∧ ∃ i1 : Nat, num tx i = some (v, i1) ∧ τ0 128 20 = i1 ∧ FrN σ τ0 := ⟨_, rfl, _, rfl, i + 1, num_1 (by assumption) (by assumption), (up_at _ _ _ _).trans (by omega), (FrN.rf σ).up 20 _ (Or.inl rfl)⟩; rw [ev, eτ])
      have ⟨vb0, vb1, vb2, vb3⟩ := nuM_b hn
      refine V_R (fun hR => ?_)
      refine V_aload_n (pc := 60) C (dk k_Z_number 34 rfl) rfl ?_
      refine V_iload (pc := 61) C (dk k_Z_number 35 rfl) rfl ?_
      refine V_puti (pc := 63) (ji := 29) C (dk k_Z_number 36 rfl) fl_Z_111 fw_9_29 kq_128 (by decide) rfl rfl ⟨by omega, by omega⟩ ?_
      refine V_R (fun hR => ?_)
      obtain ⟨τ, eτ2⟩ : ∃ τ : Wd, up τ0 128 29 v = τ := ⟨_, rfl⟩
      have hfτ : FrN σ τ := by rw [← eτ2]; exact hf.up 29 _ (Or.inr rfl)
      have h20τ : τ 128 20 = i1 := by rw [← eτ2, up_ne2 _ (by decide)]; exact h0
      have h29τ : τ 128 29 = v := by rw [← eτ2, up_at]
      rw [eτ2]
      have hTτ := hfτ.r.tx hT
      have ⟨cb4, cb5⟩ := chrM_b hT i1
      refine V_aload_n (pc := 66) C (dk k_Z_number 37 rfl) rfl ?_
      refine V_callV (pc := 67) C (dk k_Z_number 38 rfl) lk_Z_103 cm_Z_here vm_Z_here (c_Z_here _ _ _ tx i1 hTτ h20τ (by omega)) kq_128 rfl rfl rfl (Nat.le_of_ble_eq_true rfl) (Rm.mono hRm (by decide) (by decide)) ?_
      refine V_iload_n (pc := 70) C (dk k_Z_number 39 rfl) rfl ?_
      refine V_icmpne (pc := 71) C (dk k_Z_number 40 rfl) 84 rfl (by first | exact hR _ _ | with_reducible assumption | exact ⟨by omega, by omega⟩) (by first | exact hR _ _ | with_reducible assumption | exact ⟨by omega, by omega⟩) (fun h5 => ?_) (fun h5 => ?_)
      · skip
        refine V_iconst (pc := 84) C (dk k_Z_number 46 rfl) rfl ?_
        refine V_zret (pc := 85) C (by first | exact Or.inl rfl | exact Or.inr rfl | (split <;> first | exact Or.inl rfl | exact Or.inr rfl) | omega) E (dk k_Z_number 47 rfl) ?_
        have e : nmM tx i lo hi en = none := nm_n hn (fun q => by omega)
        rw [e]
        exact ⟨rfl, fun v i1 h => (by cases h), hfτ⟩
      · skip
        refine V_iload (pc := 74) C (dk k_Z_number 41 rfl) rfl ?_
        refine V_iload_n (pc := 76) C (dk k_Z_number 42 rfl) rfl ?_
        refine V_iload_n (pc := 77) C (dk k_Z_number 43 rfl) rfl ?_
        refine V_callS (pc := 78) C (dk k_Z_number 44 rfl) lk_Z_93 cm_Z_in sm_Z_in (c_Z_in _ _ _ v lo hi ⟨by omega, by omega⟩ hlo hhi) rfl rfl (Nat.le_of_ble_eq_true rfl) (Rm.mono hRm (by decide) (by decide)) ?_
        refine V_ifneB (pc := 81) C (dk k_Z_number 45 rfl) 86 rfl (fun h6 => ?_) (fun h6 => ?_)
        · skip
          refine V_aload_n (pc := 86) C (dk k_Z_number 48 rfl) rfl ?_
          refine V_dupR (pc := 87) C (dk k_Z_number 49 rfl) ?_
          refine V_geti (pc := 88) (ji := 20) C (dk k_Z_number 50 rfl) fl_Z_100 kq_128 (by decide) rfl rfl ?_
          refine V_iconst (pc := 91) C (dk k_Z_number 51 rfl) rfl ?_
          rw [h20τ]
          refine V_iadd (pc := 92) C (dk k_Z_number 52 rfl) ?_
          refine V_puti (pc := 93) (ji := 20) C (dk k_Z_number 53 rfl) fl_Z_100 fw_9_20 kq_128 (by decide) rfl rfl ⟨by omega, by omega⟩ ?_
          refine V_R (fun hR => ?_)
          refine V_iconst (pc := 96) C (dk k_Z_number 54 rfl) rfl ?_
          refine V_zret (pc := 97) C (by first | exact Or.inl rfl | exact Or.inr rfl | (split <;> first | exact Or.inl rfl | exact Or.inr rfl) | omega) E (dk k_Z_number 55 rfl) ?_
          have e : nmM tx i lo hi en = some (v, i1 + 1) := nm_y hn (by omega) (by omega) (by omega)
          rw [e]
          exact ⟨rfl, fun v2 i2 h => by cases h; exact ⟨(up_at _ _ _ _).trans (by omega), (up_ne2 _ (by decide)).trans h29τ⟩, hfτ.up 20 _ (Or.inl rfl)⟩
        · skip
          refine V_iconst (pc := 84) C (dk k_Z_number 46 rfl) rfl ?_
          refine V_zret (pc := 85) C (by first | exact Or.inl rfl | exact Or.inr rfl | (split <;> first | exact Or.inl rfl | exact Or.inr rfl) | omega) E (dk k_Z_number 47 rfl) ?_
          have e : nmM tx i lo hi en = none := nm_n hn (fun q => by omega)
          rw [e]
          exact ⟨rfl, fun v i1 h => (by cases h), hfτ⟩
  · skip
    refine V_iconst (pc := 7) C (dk k_Z_number 3 rfl) rfl ?_
    refine V_zret (pc := 8) C (by first | exact Or.inl rfl | exact Or.inr rfl | (split <;> first | exact Or.inl rfl | exact Or.inr rfl) | omega) E (dk k_Z_number 4 rfl) ?_
    have e : nmM tx i lo hi en = none := nm_0 (num_0 (by assumption))
    rw [e]
    exact ⟨rfl, fun v i1 h => (by cases h), FrN.rf σ⟩

def i_Z_readsPerson : List (Nat × (Instr × Nat)) := [(0, (.aload_n 0, 1)), (1, (.getfield 114, 3)), (4, (.iconst 5, 1)), (5, (.if_icmp .eq 15, 3)), (8, (.aload_n 0, 1)), (9, (.iconst 0, 1)), (10, (.bipush 99, 2)), (12, (.bipush 59, 2)), (14, (.invokevirtual 117, 3)), (17, (.ifCond .ne 5, 3)), (20, (.iconst 0, 1)), (21, (.ireturn, 1)), (22, (.aload_n 0, 1)), (23, (.getfield 46, 3)), (26, (.aload_n 0, 1)), (27, (.getfield 114, 3)), (30, (.aload_n 0, 1)), (31, (.getfield 111, 3)), (34, (.iastore, 1)), (35, (.aload_n 0, 1)), (36, (.dup, 1)), (37, (.getfield 114, 3)), (40, (.iconst 1, 1)), (41, (.iadd, 1)), (42, (.putfield 114, 3)), (45, (.iconst 1, 1)), (46, (.ireturn, 1))]
theorem k_Z_readsPerson : i_Z_readsPerson.all (fun q => decide (decode b_Z_readsPerson q.1 = .ok q.2)) = true := by decide +kernel

set_option maxHeartbeats 1000000 in
set_option maxRecDepth 20000 in
theorem c_Z_readsPerson (l : Launch) (G : GE) (σ : Wd) (tx : List Int) (d : DS) (i : Nat) (hT : TxM σ tx) (h20 : σ 128 20 = i) (hi0 : i < 900) (hd : DM σ d) : Ct l G y_Z_readsPerson b_Z_readsPerson 1 (some (.boolean)) 3 66 [vR 128] σ (Rt (some (vI (if (rpM tx d i).isSome = true then 1 else 0))) (fun σ' => (∀ d' i1, rpM tx d i = some (d', i1) → DM σ' d' ∧ σ' 128 20 = i1) ∧ FrR σ σ')) := by
  refine Ct.of cm_Z_readsPerson (Nat.le_of_ble_eq_true rfl) ?_
  intro X hXl hXG hXN hRm C E
  subst hXl; subst hXG
  show V X 0 [some (vR 128)] [] σ
  refine V_R (fun hR => ?_)
  obtain ⟨⟨g1, g2, g3, g4, g5⟩, ⟨k1, k2, k3⟩, gA, gB, gC⟩ := id hd
  refine V_aload_n (pc := 0) C (dk k_Z_readsPerson 0 rfl) rfl ?_
  refine V_geti (pc := 1) (ji := 21) C (dk k_Z_readsPerson 1 rfl) fl_Z_114 kq_128 (by decide) rfl rfl ?_
  refine V_iconst (pc := 4) C (dk k_Z_readsPerson 2 rfl) rfl ?_
  rw [g1]
  refine V_icmpeq (pc := 5) C (dk k_Z_readsPerson 3 rfl) 20 rfl (by first | exact hR _ _ | with_reducible assumption | exact ⟨by omega, by omega⟩) (by first | exact hR _ _ | with_reducible assumption | exact ⟨by omega, by omega⟩) (fun h1 => ?_) (fun h1 => ?_)
  · skip
    refine V_iconst (pc := 20) C (dk k_Z_readsPerson 10 rfl) rfl ?_
    refine V_zret (pc := 21) C (by first | exact Or.inl rfl | exact Or.inr rfl | (split <;> first | exact Or.inl rfl | exact Or.inr rfl) | omega) E (dk k_Z_readsPerson 11 rfl) ?_
    first | (have e : rpM tx d i = none := if_pos (by omega)) | (have e : rpM tx d i = none := by (unfold rpM; rw [← hN, isn (show ¬ N.isSome = true by assumption)]; split <;> rfl))
    rw [e]
    first | exact ⟨rfl, fun d2 i1 h => (by cases h), FrR.rf σ⟩ | exact ⟨rfl, fun d2 i1 h => (by cases h), hq1.2.r⟩
  · skip
    refine V_aload_n (pc := 8) C (dk k_Z_readsPerson 4 rfl) rfl ?_
    refine V_iconst (pc := 9) C (dk k_Z_readsPerson 5 rfl) rfl ?_
    refine V_bipush (pc := 10) (n' := 99) C (dk k_Z_readsPerson 6 rfl) rfl ?_
    refine V_bipush (pc := 12) (n' := 59) C (dk k_Z_readsPerson 7 rfl) rfl ?_
    refine V_callVr (pc := 14) C (dk k_Z_readsPerson 8 rfl) lk_Z_117 cm_Z_number vm_Z_number (c_Z_number _ _ _ tx i 0 99 59 hT h20 (by omega) ⟨by decide, by decide⟩ ⟨by decide, by decide⟩ ⟨by decide, by decide⟩) kq_128 rfl rfl rfl (Nat.le_of_ble_eq_true rfl) (Rm.mono hRm (by decide) (by decide)) (fun τ1 hq1 => ?_)
    refine V_R (fun hR => ?_)
    obtain ⟨N, hN⟩ : ∃ N, N = nmM tx i 0 99 59 := ⟨_, rfl⟩
    rw [← hN] at hq1 ⊢
    have hd1 := hq1.2.dm hd
    obtain ⟨⟨y1, y2, y3, y4, y5⟩, -, -⟩ := hd1.1, hd1.2.1, hd1.2.2
    refine V_ifneB (pc := 17) C (dk k_Z_readsPerson 9 rfl) 22 rfl (fun h2 => ?_) (fun h2 => ?_)
    · skip
      obtain ⟨⟨v, i1⟩, hv⟩ := Option.isSome_iff_exists.mp (by assumption : N.isSome = true)
      obtain ⟨z1, z2⟩ := hq1.1 v i1 hv
      rw [hv] at hN
      have ⟨vb0, vb1, vb2, vb3⟩ := nm_b hN.symm
      refine V_aload_n (pc := 22) C (dk k_Z_readsPerson 12 rfl) rfl ?_
      refine V_getr (pc := 23) (o2 := 141) C (dk k_Z_readsPerson 13 rfl) fl_Z_46 kq_128 (by decide) rfl (by decide) rfl ?_
      refine V_aload_n (pc := 26) C (dk k_Z_readsPerson 14 rfl) rfl ?_
      refine V_geti (pc := 27) (ji := 21) C (dk k_Z_readsPerson 15 rfl) fl_Z_114 kq_128 (by decide) rfl rfl ?_
      refine V_aload_n (pc := 30) C (dk k_Z_readsPerson 16 rfl) rfl ?_
      refine V_geti (pc := 31) (ji := 29) C (dk k_Z_readsPerson 17 rfl) fl_Z_111 kq_128 (by decide) rfl rfl ?_
      rw [show τ1 128 21 = ((dM d).length : Int) from hd1.1.1, z2]
      refine V_iast (pc := 34) C (dk k_Z_readsPerson 18 rfl) kq_141 (by decide) (by omega) (by omega) ⟨by omega, by omega⟩ ?_
      refine V_R (fun hR => ?_)
      refine V_aload_n (pc := 35) C (dk k_Z_readsPerson 19 rfl) rfl ?_
      refine V_dupR (pc := 36) C (dk k_Z_readsPerson 20 rfl) ?_
      refine V_geti (pc := 37) (ji := 21) C (dk k_Z_readsPerson 21 rfl) fl_Z_114 kq_128 (by decide) rfl rfl ?_
      refine V_iconst (pc := 40) C (dk k_Z_readsPerson 22 rfl) rfl ?_
      rw [show up τ1 141 ((dM d).length : Int) v 128 21 = ((dM d).length : Int) from (up_ne1 _ _ _ _ (by decide)).trans hd1.1.1]
      refine V_iadd (pc := 41) C (dk k_Z_readsPerson 23 rfl) ?_
      refine V_puti (pc := 42) (ji := 21) C (dk k_Z_readsPerson 24 rfl) fl_Z_114 fw_9_21 kq_128 (by decide) rfl rfl ⟨by omega, by omega⟩ ?_
      refine V_R (fun hR => ?_)
      refine V_iconst (pc := 45) C (dk k_Z_readsPerson 25 rfl) rfl ?_
      refine V_zret (pc := 46) C (by first | exact Or.inl rfl | exact Or.inr rfl | (split <;> first | exact Or.inl rfl | exact Or.inr rfl) | omega) E (dk k_Z_readsPerson 26 rfl) ?_
      have e : rpM tx d i = some ((dM d ++ [v], d.2), i1) := by unfold rpM; rw [if_neg (by omega), ← hN]
      rw [e]
      exact ⟨rfl, fun d2 i2 h => by cases h; exact ⟨hd1.addM (by omega) v, by rw [up_ne2 _ (by decide), up_ne1 _ _ _ _ (by decide)]; exact z1⟩, (hq1.2.r.up 141 _ _ (by omega)).up 128 _ _ (by omega)⟩
    · skip
      refine V_iconst (pc := 20) C (dk k_Z_readsPerson 10 rfl) rfl ?_
      refine V_zret (pc := 21) C (by first | exact Or.inl rfl | exact Or.inr rfl | (split <;> first | exact Or.inl rfl | exact Or.inr rfl) | omega) E (dk k_Z_readsPerson 11 rfl) ?_
      first | (have e : rpM tx d i = none := if_pos (by omega)) | (have e : rpM tx d i = none := by (unfold rpM; rw [← hN, isn (show ¬ N.isSome = true by assumption)]; split <;> rfl))
      rw [e]
      first | exact ⟨rfl, fun d2 i1 h => (by cases h), FrR.rf σ⟩ | exact ⟨rfl, fun d2 i1 h => (by cases h), hq1.2.r⟩

def i_Z_readsRate : List (Nat × (Instr × Nat)) := [(0, (.aload_n 0, 1)), (1, (.getfield 123, 3)), (4, (.bipush 12, 2)), (6, (.if_icmp .eq 15, 3)), (9, (.aload_n 0, 1)), (10, (.iconst 0, 1)), (11, (.bipush 9, 2)), (13, (.bipush 59, 2)), (15, (.invokevirtual 117, 3)), (18, (.ifCond .ne 5, 3)), (21, (.iconst 0, 1)), (22, (.ireturn, 1)), (23, (.aload_n 0, 1)), (24, (.getfield 52, 3)), (27, (.aload_n 0, 1)), (28, (.getfield 123, 3)), (31, (.aload_n 0, 1)), (32, (.getfield 111, 3)), (35, (.iastore, 1)), (36, (.aload_n 0, 1)), (37, (.dup, 1)), (38, (.getfield 123, 3)), (41, (.iconst 1, 1)), (42, (.iadd, 1)), (43, (.putfield 123, 3)), (46, (.iconst 1, 1)), (47, (.ireturn, 1))]
theorem k_Z_readsRate : i_Z_readsRate.all (fun q => decide (decode b_Z_readsRate q.1 = .ok q.2)) = true := by decide +kernel

set_option maxHeartbeats 1000000 in
set_option maxRecDepth 20000 in
theorem c_Z_readsRate (l : Launch) (G : GE) (σ : Wd) (tx : List Int) (d : DS) (i : Nat) (hT : TxM σ tx) (h20 : σ 128 20 = i) (hi0 : i < 900) (hd : DM σ d) : Ct l G y_Z_readsRate b_Z_readsRate 1 (some (.boolean)) 3 66 [vR 128] σ (Rt (some (vI (if (rrM tx d i).isSome = true then 1 else 0))) (fun σ' => (∀ d' i1, rrM tx d i = some (d', i1) → DM σ' d' ∧ σ' 128 20 = i1) ∧ FrR σ σ')) := by
  refine Ct.of cm_Z_readsRate (Nat.le_of_ble_eq_true rfl) ?_
  intro X hXl hXG hXN hRm C E
  subst hXl; subst hXG
  show V X 0 [some (vR 128)] [] σ
  refine V_R (fun hR => ?_)
  obtain ⟨⟨g1, g2, g3, g4, g5⟩, ⟨k1, k2, k3⟩, gA, gB, gC⟩ := id hd
  refine V_aload_n (pc := 0) C (dk k_Z_readsRate 0 rfl) rfl ?_
  refine V_geti (pc := 1) (ji := 23) C (dk k_Z_readsRate 1 rfl) fl_Z_123 kq_128 (by decide) rfl rfl ?_
  refine V_bipush (pc := 4) (n' := 12) C (dk k_Z_readsRate 2 rfl) rfl ?_
  rw [g3]
  refine V_icmpeq (pc := 6) C (dk k_Z_readsRate 3 rfl) 21 rfl (by first | exact hR _ _ | with_reducible assumption | exact ⟨by omega, by omega⟩) (by first | exact hR _ _ | with_reducible assumption | exact ⟨by omega, by omega⟩) (fun h1 => ?_) (fun h1 => ?_)
  · skip
    refine V_iconst (pc := 21) C (dk k_Z_readsRate 10 rfl) rfl ?_
    refine V_zret (pc := 22) C (by first | exact Or.inl rfl | exact Or.inr rfl | (split <;> first | exact Or.inl rfl | exact Or.inr rfl) | omega) E (dk k_Z_readsRate 11 rfl) ?_
    first | (have e : rrM tx d i = none := if_pos (by omega)) | (have e : rrM tx d i = none := by (unfold rrM; rw [← hN, isn (show ¬ N.isSome = true by assumption)]; split <;> rfl))
    rw [e]
    first | exact ⟨rfl, fun d2 i1 h => (by cases h), FrR.rf σ⟩ | exact ⟨rfl, fun d2 i1 h => (by cases h), hq1.2.r⟩
  · skip
    refine V_aload_n (pc := 9) C (dk k_Z_readsRate 4 rfl) rfl ?_
    refine V_iconst (pc := 10) C (dk k_Z_readsRate 5 rfl) rfl ?_
    refine V_bipush (pc := 11) (n' := 9) C (dk k_Z_readsRate 6 rfl) rfl ?_
    refine V_bipush (pc := 13) (n' := 59) C (dk k_Z_readsRate 7 rfl) rfl ?_
    refine V_callVr (pc := 15) C (dk k_Z_readsRate 8 rfl) lk_Z_117 cm_Z_number vm_Z_number (c_Z_number _ _ _ tx i 0 9 59 hT h20 (by omega) ⟨by decide, by decide⟩ ⟨by decide, by decide⟩ ⟨by decide, by decide⟩) kq_128 rfl rfl rfl (Nat.le_of_ble_eq_true rfl) (Rm.mono hRm (by decide) (by decide)) (fun τ1 hq1 => ?_)
    refine V_R (fun hR => ?_)
    obtain ⟨N, hN⟩ : ∃ N, N = nmM tx i 0 9 59 := ⟨_, rfl⟩
    rw [← hN] at hq1 ⊢
    have hd1 := hq1.2.dm hd
    refine V_ifneB (pc := 18) C (dk k_Z_readsRate 9 rfl) 23 rfl (fun h2 => ?_) (fun h2 => ?_)
    · skip
      obtain ⟨⟨v, i1⟩, hv⟩ := Option.isSome_iff_exists.mp (by assumption : N.isSome = true)
      obtain ⟨z1, z2⟩ := hq1.1 v i1 hv
      rw [hv] at hN
      have ⟨vb0, vb1, vb2, vb3⟩ := nm_b hN.symm
      refine V_aload_n (pc := 23) C (dk k_Z_readsRate 12 rfl) rfl ?_
      refine V_getr (pc := 24) (o2 := 143) C (dk k_Z_readsRate 13 rfl) fl_Z_52 kq_128 (by decide) rfl (by decide) rfl ?_
      refine V_aload_n (pc := 27) C (dk k_Z_readsRate 14 rfl) rfl ?_
      refine V_geti (pc := 28) (ji := 23) C (dk k_Z_readsRate 15 rfl) fl_Z_123 kq_128 (by decide) rfl rfl ?_
      refine V_aload_n (pc := 31) C (dk k_Z_readsRate 16 rfl) rfl ?_
      refine V_geti (pc := 32) (ji := 29) C (dk k_Z_readsRate 17 rfl) fl_Z_111 kq_128 (by decide) rfl rfl ?_
      rw [show τ1 128 23 = ((dX d).length : Int) from hd1.1.2.2.1, z2]
      refine V_iast (pc := 35) C (dk k_Z_readsRate 18 rfl) kq_143 (by decide) (by omega) (by omega) ⟨by omega, by omega⟩ ?_
      refine V_R (fun hR => ?_)
      refine V_aload_n (pc := 36) C (dk k_Z_readsRate 19 rfl) rfl ?_
      refine V_dupR (pc := 37) C (dk k_Z_readsRate 20 rfl) ?_
      refine V_geti (pc := 38) (ji := 23) C (dk k_Z_readsRate 21 rfl) fl_Z_123 kq_128 (by decide) rfl rfl ?_
      refine V_iconst (pc := 41) C (dk k_Z_readsRate 22 rfl) rfl ?_
      rw [show up τ1 143 ((dX d).length : Int) v 128 23 = ((dX d).length : Int) from (up_ne1 _ _ _ _ (by decide)).trans hd1.1.2.2.1]
      refine V_iadd (pc := 42) C (dk k_Z_readsRate 23 rfl) ?_
      refine V_puti (pc := 43) (ji := 23) C (dk k_Z_readsRate 24 rfl) fl_Z_123 fw_9_23 kq_128 (by decide) rfl rfl ⟨by omega, by omega⟩ ?_
      refine V_R (fun hR => ?_)
      refine V_iconst (pc := 46) C (dk k_Z_readsRate 25 rfl) rfl ?_
      refine V_zret (pc := 47) C (by first | exact Or.inl rfl | exact Or.inr rfl | (split <;> first | exact Or.inl rfl | exact Or.inr rfl) | omega) E (dk k_Z_readsRate 26 rfl) ?_
      have e : rrM tx d i = some ((dM d, (dT d, (dX d ++ [v], d.2.2.2))), i1) := by unfold rrM; rw [if_neg (by omega), ← hN]
      rw [e]
      exact ⟨rfl, fun d2 i2 h => by cases h; exact ⟨hd1.addX (by omega) v, by rw [up_ne2 _ (by decide), up_ne1 _ _ _ _ (by decide)]; exact z1⟩, (hq1.2.r.up 143 _ _ (by omega)).up 128 _ _ (by omega)⟩
    · skip
      refine V_iconst (pc := 21) C (dk k_Z_readsRate 10 rfl) rfl ?_
      refine V_zret (pc := 22) C (by first | exact Or.inl rfl | exact Or.inr rfl | (split <;> first | exact Or.inl rfl | exact Or.inr rfl) | omega) E (dk k_Z_readsRate 11 rfl) ?_
      first | (have e : rrM tx d i = none := if_pos (by omega)) | (have e : rrM tx d i = none := by (unfold rrM; rw [← hN, isn (show ¬ N.isSome = true by assumption)]; split <;> rfl))
      rw [e]
      first | exact ⟨rfl, fun d2 i1 h => (by cases h), FrR.rf σ⟩ | exact ⟨rfl, fun d2 i1 h => (by cases h), hq1.2.r⟩

def i_Z_readsShop : List (Nat × (Instr × Nat)) := [(0, (.aload_n 0, 1)), (1, (.iconst 0, 1)), (2, (.bipush 99, 2)), (4, (.bipush 44, 2)), (6, (.invokevirtual 117, 3)), (9, (.ifCond .ne 5, 3)), (12, (.iconst 0, 1)), (13, (.ireturn, 1)), (14, (.aload_n 0, 1)), (15, (.getfield 111, 3)), (18, (.istore_n 1, 1)), (19, (.aload_n 0, 1)), (20, (.iconst 0, 1)), (21, (.bipush 20, 2)), (23, (.bipush 59, 2)), (25, (.invokevirtual 117, 3)), (28, (.ifCond .ne 5, 3)), (31, (.iconst 0, 1)), (32, (.ireturn, 1)), (33, (.aload_n 0, 1)), (34, (.iload_n 1, 1)), (35, (.putfield 126, 3)), (38, (.aload_n 0, 1)), (39, (.aload_n 0, 1)), (40, (.getfield 111, 3)), (43, (.putfield 129, 3)), (46, (.iconst 1, 1)), (47, (.ireturn, 1))]
theorem k_Z_readsShop : i_Z_readsShop.all (fun q => decide (decode b_Z_readsShop q.1 = .ok q.2)) = true := by decide +kernel

set_option maxHeartbeats 1000000 in
set_option maxRecDepth 20000 in
theorem c_Z_readsShop (l : Launch) (G : GE) (σ : Wd) (tx : List Int) (d : DS) (i : Nat) (hT : TxM σ tx) (h20 : σ 128 20 = i) (hi0 : i < 900) (hd : DM σ d) : Ct l G y_Z_readsShop b_Z_readsShop 2 (some (.boolean)) 3 66 [vR 128] σ (Rt (some (vI (if (rsM tx d i).isSome = true then 1 else 0))) (fun σ' => (∀ d' i1, rsM tx d i = some (d', i1) → DM σ' d' ∧ σ' 128 20 = i1) ∧ FrR σ σ')) := by
  refine Ct.of cm_Z_readsShop (Nat.le_of_ble_eq_true rfl) ?_
  intro X hXl hXG hXN hRm C E
  subst hXl; subst hXG
  show V X 0 [some (vR 128), none] [] σ
  refine V_R (fun hR => ?_)
  obtain ⟨⟨g1, g2, g3, g4, g5⟩, ⟨k1, k2, k3⟩, gA, gB, gC⟩ := id hd
  refine V_aload_n (pc := 0) C (dk k_Z_readsShop 0 rfl) rfl ?_
  refine V_iconst (pc := 1) C (dk k_Z_readsShop 1 rfl) rfl ?_
  refine V_bipush (pc := 2) (n' := 99) C (dk k_Z_readsShop 2 rfl) rfl ?_
  refine V_bipush (pc := 4) (n' := 44) C (dk k_Z_readsShop 3 rfl) rfl ?_
  refine V_callVr (pc := 6) C (dk k_Z_readsShop 4 rfl) lk_Z_117 cm_Z_number vm_Z_number (c_Z_number _ _ _ tx i 0 99 44 hT h20 (by omega) ⟨by decide, by decide⟩ ⟨by decide, by decide⟩ ⟨by decide, by decide⟩) kq_128 rfl rfl rfl (Nat.le_of_ble_eq_true rfl) (Rm.mono hRm (by decide) (by decide)) (fun τ1 hq1 => ?_)
  refine V_R (fun hR => ?_)
  obtain ⟨N, hN⟩ : ∃ N, N = nmM tx i 0 99 44 := ⟨_, rfl⟩
  rw [← hN] at hq1 ⊢
  refine V_ifneB (pc := 9) C (dk k_Z_readsShop 5 rfl) 14 rfl (fun h1 => ?_) (fun h1 => ?_)
  · skip
    obtain ⟨⟨a, i1⟩, hv⟩ := Option.isSome_iff_exists.mp (by assumption : N.isSome = true)
    obtain ⟨z1, z2⟩ := hq1.1 a i1 hv
    rw [hv] at hN
    have ⟨vb0, vb1, vb2, vb3⟩ := nm_b hN.symm
    refine V_aload_n (pc := 14) C (dk k_Z_readsShop 8 rfl) rfl ?_
    refine V_geti (pc := 15) (ji := 29) C (dk k_Z_readsShop 9 rfl) fl_Z_111 kq_128 (by decide) rfl rfl ?_
    rw [z2]
    refine V_istore_n (pc := 18) C (dk k_Z_readsShop 10 rfl) (by rw [hXN]; decide) ?_
    dsimp only [lst, lstL, lz, kill, Fin.val, Nat.reduceAdd]
    refine V_aload_n (pc := 19) C (dk k_Z_readsShop 11 rfl) rfl ?_
    refine V_iconst (pc := 20) C (dk k_Z_readsShop 12 rfl) rfl ?_
    refine V_bipush (pc := 21) (n' := 20) C (dk k_Z_readsShop 13 rfl) rfl ?_
    refine V_bipush (pc := 23) (n' := 59) C (dk k_Z_readsShop 14 rfl) rfl ?_
    refine V_callVr (pc := 25) C (dk k_Z_readsShop 15 rfl) lk_Z_117 cm_Z_number vm_Z_number (c_Z_number _ _ _ tx i1 0 20 59 (hq1.2.r.tx hT) z1 (by omega) ⟨by decide, by decide⟩ ⟨by decide, by decide⟩ ⟨by decide, by decide⟩) kq_128 rfl rfl rfl (Nat.le_of_ble_eq_true rfl) (Rm.mono hRm (by decide) (by decide)) (fun τ2 hq2 => ?_)
    refine V_R (fun hR => ?_)
    obtain ⟨N2, hN2⟩ : ∃ N2, N2 = nmM tx i1 0 20 59 := ⟨_, rfl⟩
    rw [← hN2] at hq2 ⊢
    refine V_ifneB (pc := 28) C (dk k_Z_readsShop 16 rfl) 33 rfl (fun h2 => ?_) (fun h2 => ?_)
    · skip
      obtain ⟨⟨b, i2⟩, hv2⟩ := Option.isSome_iff_exists.mp (by assumption : N2.isSome = true)
      obtain ⟨z3, z4⟩ := hq2.1 b i2 hv2
      rw [hv2] at hN2
      have ⟨vb4, vb5, vb6, vb7⟩ := nm_b hN2.symm
      have hd2 := hq2.2.dm (hq1.2.dm hd)
      refine V_aload_n (pc := 33) C (dk k_Z_readsShop 19 rfl) rfl ?_
      refine V_iload_n (pc := 34) C (dk k_Z_readsShop 20 rfl) rfl ?_
      refine V_puti (pc := 35) (ji := 24) C (dk k_Z_readsShop 21 rfl) fl_Z_126 fw_9_24 kq_128 (by decide) rfl rfl ⟨by omega, by omega⟩ ?_
      refine V_R (fun hR => ?_)
      refine V_aload_n (pc := 38) C (dk k_Z_readsShop 22 rfl) rfl ?_
      refine V_aload_n (pc := 39) C (dk k_Z_readsShop 23 rfl) rfl ?_
      refine V_geti (pc := 40) (ji := 29) C (dk k_Z_readsShop 24 rfl) fl_Z_111 kq_128 (by decide) rfl rfl ?_
      rw [show up τ2 128 24 a 128 29 = b from (up_ne2 _ (by decide)).trans z4]
      refine V_puti (pc := 43) (ji := 25) C (dk k_Z_readsShop 25 rfl) fl_Z_129 fw_9_25 kq_128 (by decide) rfl rfl ⟨by omega, by omega⟩ ?_
      refine V_R (fun hR => ?_)
      refine V_iconst (pc := 46) C (dk k_Z_readsShop 26 rfl) rfl ?_
      refine V_zret (pc := 47) C (by first | exact Or.inl rfl | exact Or.inr rfl | (split <;> first | exact Or.inl rfl | exact Or.inr rfl) | omega) E (dk k_Z_readsShop 27 rfl) ?_
      have e : rsM tx d i = some ((dM d, (dT d, (dX d, (a, b)))), i2) := by unfold rsM; rw [← hN]; dsimp only; rw [← hN2]
      rw [e]
      exact ⟨rfl, fun d2 i3 h => by cases h; exact ⟨hd2.shop a b, by rw [up_ne2 _ (by decide), up_ne2 _ (by decide)]; exact z3⟩, ((hq1.2.r.tr hq2.2.r).up 128 _ _ (by omega)).up 128 _ _ (by omega)⟩
    · skip
      refine V_iconst (pc := 31) C (dk k_Z_readsShop 17 rfl) rfl ?_
      refine V_zret (pc := 32) C (by first | exact Or.inl rfl | exact Or.inr rfl | (split <;> first | exact Or.inl rfl | exact Or.inr rfl) | omega) E (dk k_Z_readsShop 18 rfl) ?_
      have e : rsM tx d i = none := by unfold rsM; rw [← hN]; dsimp only; rw [← hN2, isn (show ¬ N2.isSome = true by assumption)]
      rw [e]
      exact ⟨rfl, fun d2 i1 h => (by cases h), hq1.2.r.tr hq2.2.r⟩
  · skip
    refine V_iconst (pc := 12) C (dk k_Z_readsShop 6 rfl) rfl ?_
    refine V_zret (pc := 13) C (by first | exact Or.inl rfl | exact Or.inr rfl | (split <;> first | exact Or.inl rfl | exact Or.inr rfl) | omega) E (dk k_Z_readsShop 7 rfl) ?_
    have e : rsM tx d i = none := by unfold rsM; rw [← hN, isn (show ¬ N.isSome = true by assumption)]
    rw [e]
    exact ⟨rfl, fun d2 i1 h => (by cases h), hq1.2.r⟩

def i_Z_readsThing : List (Nat × (Instr × Nat)) := [(0, (.aload_n 0, 1)), (1, (.getfield 120, 3)), (4, (.bipush 8, 2)), (6, (.if_icmp .eq 19, 3)), (9, (.aload_n 0, 1)), (10, (.iconst 0, 1)), (11, (.aload_n 0, 1)), (12, (.getfield 114, 3)), (15, (.iconst 1, 1)), (16, (.isub, 1)), (17, (.bipush 44, 2)), (19, (.invokevirtual 117, 3)), (22, (.ifCond .ne 5, 3)), (25, (.iconst 0, 1)), (26, (.ireturn, 1)), (27, (.iconst 4, 1)), (28, (.aload_n 0, 1)), (29, (.getfield 120, 3)), (32, (.imul, 1)), (33, (.istore_n 1, 1)), (34, (.aload_n 0, 1)), (35, (.getfield 49, 3)), (38, (.iload_n 1, 1)), (39, (.aload_n 0, 1)), (40, (.getfield 111, 3)), (43, (.iastore, 1)), (44, (.aload_n 0, 1)), (45, (.iconst 0, 1)), (46, (.iconst 3, 1)), (47, (.bipush 44, 2)), (49, (.invokevirtual 117, 3)), (52, (.ifCond .ne 5, 3)), (55, (.iconst 0, 1)), (56, (.ireturn, 1)), (57, (.aload_n 0, 1)), (58, (.getfield 49, 3)), (61, (.iload_n 1, 1)), (62, (.iconst 1, 1)), (63, (.iadd, 1)), (64, (.aload_n 0, 1)), (65, (.getfield 111, 3)), (68, (.iastore, 1)), (69, (.aload_n 0, 1)), (70, (.iconst 1, 1)), (71, (.bipush 20, 2)), (73, (.bipush 44, 2)), (75, (.invokevirtual 117, 3)), (78, (.ifCond .ne 5, 3)), (81, (.iconst 0, 1)), (82, (.ireturn, 1)), (83, (.aload_n 0, 1)), (84, (.getfield 49, 3)), (87, (.iload_n 1, 1)), (88, (.iconst 2, 1)), (89, (.iadd, 1)), (90, (.aload_n 0, 1)), (91, (.getfield 111, 3)), (94, (.iastore, 1)), (95, (.aload_n 0, 1)), (96, (.iconst 0, 1)), (97, (.bipush 20, 2)), (99, (.bipush 59, 2)), (101, (.invokevirtual 117, 3)), (104, (.ifCond .ne 5, 3)), (107, (.iconst 0, 1)), (108, (.ireturn, 1)), (109, (.aload_n 0, 1)), (110, (.getfield 49, 3)), (113, (.iload_n 1, 1)), (114, (.iconst 3, 1)), (115, (.iadd, 1)), (116, (.aload_n 0, 1)), (117, (.getfield 111, 3)), (120, (.iastore, 1)), (121, (.aload_n 0, 1)), (122, (.dup, 1)), (123, (.getfield 120, 3)), (126, (.iconst 1, 1)), (127, (.iadd, 1)), (128, (.putfield 120, 3)), (131, (.iconst 1, 1)), (132, (.ireturn, 1))]
theorem k_Z_readsThing : i_Z_readsThing.all (fun q => decide (decode b_Z_readsThing q.1 = .ok q.2)) = true := by decide +kernel

set_option maxHeartbeats 2000000 in
set_option maxRecDepth 20000 in
theorem c_Z_readsThing (l : Launch) (G : GE) (σ : Wd) (tx : List Int) (d : DS) (i : Nat) (hT : TxM σ tx) (h20 : σ 128 20 = i) (hi0 : i < 900) (hd : DM σ d) : Ct l G y_Z_readsThing b_Z_readsThing 2 (some (.boolean)) 3 66 [vR 128] σ (Rt (some (vI (if (rtM tx d i).isSome = true then 1 else 0))) (fun σ' => (∀ d' i1, rtM tx d i = some (d', i1) → DM σ' d' ∧ σ' 128 20 = i1) ∧ FrR σ σ')) := by
  refine Ct.of cm_Z_readsThing (Nat.le_of_ble_eq_true rfl) ?_
  intro X hXl hXG hXN hRm C E
  subst hXl; subst hXG
  show V X 0 [some (vR 128), none] [] σ
  refine V_R (fun hR => ?_)
  obtain ⟨⟨g1, g2, g3, g4, g5⟩, ⟨k1, k2, k3⟩, gA, gB, gC⟩ := id hd
  refine V_aload_n (pc := 0) C (dk k_Z_readsThing 0 rfl) rfl ?_
  refine V_geti (pc := 1) (ji := 22) C (dk k_Z_readsThing 1 rfl) fl_Z_120 kq_128 (by decide) rfl rfl ?_
  refine V_bipush (pc := 4) (n' := 8) C (dk k_Z_readsThing 2 rfl) rfl ?_
  rw [g2]
  refine V_icmpeq (pc := 6) C (dk k_Z_readsThing 3 rfl) 25 rfl (by first | exact hR _ _ | with_reducible assumption | exact ⟨by omega, by omega⟩) (by first | exact hR _ _ | with_reducible assumption | exact ⟨by omega, by omega⟩) (fun h1 => ?_) (fun h1 => ?_)
  · skip
    refine V_iconst (pc := 25) C (dk k_Z_readsThing 13 rfl) rfl ?_
    refine V_zret (pc := 26) C (by first | exact Or.inl rfl | exact Or.inr rfl | (split <;> first | exact Or.inl rfl | exact Or.inr rfl) | omega) E (dk k_Z_readsThing 14 rfl) ?_
    first | (have e : rtM tx d i = none := if_pos (by omega)) | (have e : rtM tx d i = none := by (unfold rtM; rw [← hN1, isn (show ¬ N1.isSome = true by assumption)]; split <;> rfl))
    rw [e]
    first | exact ⟨rfl, fun d2 i1 h => (by cases h), FrR.rf σ⟩ | exact ⟨rfl, fun d2 i1 h => (by cases h), hq1.2.r⟩
  · skip
    refine V_aload_n (pc := 9) C (dk k_Z_readsThing 4 rfl) rfl ?_
    refine V_iconst (pc := 10) C (dk k_Z_readsThing 5 rfl) rfl ?_
    refine V_aload_n (pc := 11) C (dk k_Z_readsThing 6 rfl) rfl ?_
    refine V_geti (pc := 12) (ji := 21) C (dk k_Z_readsThing 7 rfl) fl_Z_114 kq_128 (by decide) rfl rfl ?_
    refine V_iconst (pc := 15) C (dk k_Z_readsThing 8 rfl) rfl ?_
    rw [g1]
    refine V_isub (pc := 16) C (dk k_Z_readsThing 9 rfl) ?_
    refine V_bipush (pc := 17) (n' := 44) C (dk k_Z_readsThing 10 rfl) rfl ?_
    refine V_callVr (pc := 19) C (dk k_Z_readsThing 11 rfl) lk_Z_117 cm_Z_number vm_Z_number (c_Z_number _ _ _ tx i 0 ((dM d).length - 1) 44 hT h20 (by omega) ⟨by decide, by decide⟩ ⟨by omega, by omega⟩ ⟨by decide, by decide⟩) kq_128 rfl rfl rfl (Nat.le_of_ble_eq_true rfl) (Rm.mono hRm (by decide) (by decide)) (fun τ1 hq1 => ?_)
    refine V_R (fun hR => ?_)
    obtain ⟨N1, hN1⟩ : ∃ N1, N1 = nmM tx i 0 ((dM d).length - 1) 44 := ⟨_, rfl⟩
    rw [← hN1] at hq1 ⊢
    refine V_ifneB (pc := 22) C (dk k_Z_readsThing 12 rfl) 27 rfl (fun h2 => ?_) (fun h2 => ?_)
    · skip
      obtain ⟨⟨a, i1⟩, hva⟩ := Option.isSome_iff_exists.mp (by assumption : N1.isSome = true)
      obtain ⟨ya, za⟩ := hq1.1 a i1 hva
      rw [hva] at hN1
      have ⟨ba0, ba1, ba2, ba3⟩ := nm_b hN1.symm
      have h22 : τ1 128 22 = ((dT d).length : Int) := (hq1.2 128 22 (by omega)).trans g2
      refine V_iconst (pc := 27) C (dk k_Z_readsThing 15 rfl) rfl ?_
      refine V_aload_n (pc := 28) C (dk k_Z_readsThing 16 rfl) rfl ?_
      refine V_geti (pc := 29) (ji := 22) C (dk k_Z_readsThing 17 rfl) fl_Z_120 kq_128 (by decide) rfl rfl ?_
      rw [h22]
      refine V_imul (pc := 32) C (dk k_Z_readsThing 18 rfl) ?_
      refine V_istore_n (pc := 33) C (dk k_Z_readsThing 19 rfl) (by rw [hXN]; decide) ?_
      dsimp only [lst, lstL, lz, kill, Fin.val, Nat.reduceAdd]
      refine V_aload_n (pc := 34) C (dk k_Z_readsThing 20 rfl) rfl ?_
      refine V_getr (pc := 35) (o2 := 142) C (dk k_Z_readsThing 21 rfl) fl_Z_49 kq_128 (by decide) rfl (by decide) rfl ?_
      refine V_iload_n (pc := 38) C (dk k_Z_readsThing 22 rfl) rfl ?_
      refine V_aload_n (pc := 39) C (dk k_Z_readsThing 23 rfl) rfl ?_
      refine V_geti (pc := 40) (ji := 29) C (dk k_Z_readsThing 24 rfl) fl_Z_111 kq_128 (by decide) rfl rfl ?_
      rw [za]
      refine V_iast (pc := 43) C (dk k_Z_readsThing 25 rfl) kq_142 (by decide) (by omega) (by omega) ⟨by omega, by omega⟩ ?_
      refine V_R (fun hR => ?_)
      obtain ⟨ρ1, eρ1⟩ : ∃ ρ1 : Wd, up τ1 142 (4 * ((dT d).length : Int)) a = ρ1 := ⟨_, rfl⟩
      rw [eρ1]
      have fρ1 : FrR σ ρ1 := by rw [← eρ1]; exact (hq1.2.r).up 142 _ _ (by omega)
      have dρ1 : DM ρ1 d := by rw [← eρ1]; exact (hq1.2.dm hd).part _ _ (by omega)
      have vρ1 : ρ1 142 (4 * ((dT d).length : Int)) = a := by rw [← eρ1, up_at]
      have wρ1 : ∀ u : Int, u ≠ 4 * ((dT d).length : Int) → ρ1 142 u = τ1 142 u := fun u a => by rw [← eρ1, up_ne2 _ a]
      have pρ1 : ρ1 128 20 = τ1 128 20 := by rw [← eρ1, up_ne1 _ _ _ _ (by decide)]
      refine V_R (fun hR => ?_)
      refine V_aload_n (pc := 44) C (dk k_Z_readsThing 26 rfl) rfl ?_
      refine V_iconst (pc := 45) C (dk k_Z_readsThing 27 rfl) rfl ?_
      refine V_iconst (pc := 46) C (dk k_Z_readsThing 28 rfl) rfl ?_
      refine V_bipush (pc := 47) (n' := 44) C (dk k_Z_readsThing 29 rfl) rfl ?_
      refine V_callVr (pc := 49) C (dk k_Z_readsThing 30 rfl) lk_Z_117 cm_Z_number vm_Z_number (c_Z_number _ _ _ tx i1 0 3 44 (fρ1.tx hT) (pρ1.trans ya) (by omega) ⟨by decide, by decide⟩ ⟨by decide, by decide⟩ ⟨by decide, by decide⟩) kq_128 rfl rfl rfl (Nat.le_of_ble_eq_true rfl) (Rm.mono hRm (by decide) (by decide)) (fun τ2 hq2 => ?_)
      refine V_R (fun hR => ?_)
      obtain ⟨N2, hN2⟩ : ∃ N2, N2 = nmM tx i1 0 3 44 := ⟨_, rfl⟩
      rw [← hN2] at hq2 ⊢
      refine V_ifneB (pc := 52) C (dk k_Z_readsThing 31 rfl) 57 rfl (fun h3 => ?_) (fun h3 => ?_)
      · skip
        obtain ⟨⟨b, i2⟩, hvb⟩ := Option.isSome_iff_exists.mp (by assumption : N2.isSome = true)
        obtain ⟨yb, zb⟩ := hq2.1 b i2 hvb
        rw [hvb] at hN2
        have ⟨bb0, bb1, bb2, bb3⟩ := nm_b hN2.symm
        refine V_aload_n (pc := 57) C (dk k_Z_readsThing 34 rfl) rfl ?_
        refine V_getr (pc := 58) (o2 := 142) C (dk k_Z_readsThing 35 rfl) fl_Z_49 kq_128 (by decide) rfl (by decide) rfl ?_
        refine V_iload_n (pc := 61) C (dk k_Z_readsThing 36 rfl) rfl ?_
        refine V_iconst (pc := 62) C (dk k_Z_readsThing 37 rfl) rfl ?_
        refine V_iadd (pc := 63) C (dk k_Z_readsThing 38 rfl) ?_
        refine V_aload_n (pc := 64) C (dk k_Z_readsThing 39 rfl) rfl ?_
        refine V_geti (pc := 65) (ji := 29) C (dk k_Z_readsThing 40 rfl) fl_Z_111 kq_128 (by decide) rfl rfl ?_
        rw [zb]
        refine V_iast (pc := 68) C (dk k_Z_readsThing 41 rfl) kq_142 (by decide) (by omega) (by omega) ⟨by omega, by omega⟩ ?_
        refine V_R (fun hR => ?_)
        obtain ⟨ρ2, eρ2⟩ : ∃ ρ2 : Wd, up τ2 142 (4 * ((dT d).length : Int) + 1) b = ρ2 := ⟨_, rfl⟩
        rw [eρ2]
        have fρ2 : FrR σ ρ2 := by rw [← eρ2]; exact (fρ1.tr hq2.2.r).up 142 _ _ (by omega)
        have dρ2 : DM ρ2 d := by rw [← eρ2]; exact (hq2.2.dm dρ1).part _ _ (by omega)
        have vρ2 : ρ2 142 (4 * ((dT d).length : Int) + 1) = b := by rw [← eρ2, up_at]
        have wρ2 : ∀ u : Int, u ≠ 4 * ((dT d).length : Int) + 1 → ρ2 142 u = τ2 142 u := fun u a => by rw [← eρ2, up_ne2 _ a]
        have pρ2 : ρ2 128 20 = τ2 128 20 := by rw [← eρ2, up_ne1 _ _ _ _ (by decide)]
        refine V_R (fun hR => ?_)
        refine V_aload_n (pc := 69) C (dk k_Z_readsThing 42 rfl) rfl ?_
        refine V_iconst (pc := 70) C (dk k_Z_readsThing 43 rfl) rfl ?_
        refine V_bipush (pc := 71) (n' := 20) C (dk k_Z_readsThing 44 rfl) rfl ?_
        refine V_bipush (pc := 73) (n' := 44) C (dk k_Z_readsThing 45 rfl) rfl ?_
        refine V_callVr (pc := 75) C (dk k_Z_readsThing 46 rfl) lk_Z_117 cm_Z_number vm_Z_number (c_Z_number _ _ _ tx i2 1 20 44 (fρ2.tx hT) (pρ2.trans yb) (by omega) ⟨by decide, by decide⟩ ⟨by decide, by decide⟩ ⟨by decide, by decide⟩) kq_128 rfl rfl rfl (Nat.le_of_ble_eq_true rfl) (Rm.mono hRm (by decide) (by decide)) (fun τ3 hq3 => ?_)
        refine V_R (fun hR => ?_)
        obtain ⟨N3, hN3⟩ : ∃ N3, N3 = nmM tx i2 1 20 44 := ⟨_, rfl⟩
        rw [← hN3] at hq3 ⊢
        refine V_ifneB (pc := 78) C (dk k_Z_readsThing 47 rfl) 83 rfl (fun h4 => ?_) (fun h4 => ?_)
        · skip
          obtain ⟨⟨c, i3⟩, hvc⟩ := Option.isSome_iff_exists.mp (by assumption : N3.isSome = true)
          obtain ⟨yc, zc⟩ := hq3.1 c i3 hvc
          rw [hvc] at hN3
          have ⟨bc0, bc1, bc2, bc3⟩ := nm_b hN3.symm
          refine V_aload_n (pc := 83) C (dk k_Z_readsThing 50 rfl) rfl ?_
          refine V_getr (pc := 84) (o2 := 142) C (dk k_Z_readsThing 51 rfl) fl_Z_49 kq_128 (by decide) rfl (by decide) rfl ?_
          refine V_iload_n (pc := 87) C (dk k_Z_readsThing 52 rfl) rfl ?_
          refine V_iconst (pc := 88) C (dk k_Z_readsThing 53 rfl) rfl ?_
          refine V_iadd (pc := 89) C (dk k_Z_readsThing 54 rfl) ?_
          refine V_aload_n (pc := 90) C (dk k_Z_readsThing 55 rfl) rfl ?_
          refine V_geti (pc := 91) (ji := 29) C (dk k_Z_readsThing 56 rfl) fl_Z_111 kq_128 (by decide) rfl rfl ?_
          rw [zc]
          refine V_iast (pc := 94) C (dk k_Z_readsThing 57 rfl) kq_142 (by decide) (by omega) (by omega) ⟨by omega, by omega⟩ ?_
          refine V_R (fun hR => ?_)
          obtain ⟨ρ3, eρ3⟩ : ∃ ρ3 : Wd, up τ3 142 (4 * ((dT d).length : Int) + 2) c = ρ3 := ⟨_, rfl⟩
          rw [eρ3]
          have fρ3 : FrR σ ρ3 := by rw [← eρ3]; exact (fρ2.tr hq3.2.r).up 142 _ _ (by omega)
          have dρ3 : DM ρ3 d := by rw [← eρ3]; exact (hq3.2.dm dρ2).part _ _ (by omega)
          have vρ3 : ρ3 142 (4 * ((dT d).length : Int) + 2) = c := by rw [← eρ3, up_at]
          have wρ3 : ∀ u : Int, u ≠ 4 * ((dT d).length : Int) + 2 → ρ3 142 u = τ3 142 u := fun u a => by rw [← eρ3, up_ne2 _ a]
          have pρ3 : ρ3 128 20 = τ3 128 20 := by rw [← eρ3, up_ne1 _ _ _ _ (by decide)]
          refine V_R (fun hR => ?_)
          refine V_aload_n (pc := 95) C (dk k_Z_readsThing 58 rfl) rfl ?_
          refine V_iconst (pc := 96) C (dk k_Z_readsThing 59 rfl) rfl ?_
          refine V_bipush (pc := 97) (n' := 20) C (dk k_Z_readsThing 60 rfl) rfl ?_
          refine V_bipush (pc := 99) (n' := 59) C (dk k_Z_readsThing 61 rfl) rfl ?_
          refine V_callVr (pc := 101) C (dk k_Z_readsThing 62 rfl) lk_Z_117 cm_Z_number vm_Z_number (c_Z_number _ _ _ tx i3 0 20 59 (fρ3.tx hT) (pρ3.trans yc) (by omega) ⟨by decide, by decide⟩ ⟨by decide, by decide⟩ ⟨by decide, by decide⟩) kq_128 rfl rfl rfl (Nat.le_of_ble_eq_true rfl) (Rm.mono hRm (by decide) (by decide)) (fun τ4 hq4 => ?_)
          refine V_R (fun hR => ?_)
          obtain ⟨N4, hN4⟩ : ∃ N4, N4 = nmM tx i3 0 20 59 := ⟨_, rfl⟩
          rw [← hN4] at hq4 ⊢
          refine V_ifneB (pc := 104) C (dk k_Z_readsThing 63 rfl) 109 rfl (fun h5 => ?_) (fun h5 => ?_)
          · skip
            obtain ⟨⟨e, i4⟩, hve⟩ := Option.isSome_iff_exists.mp (by assumption : N4.isSome = true)
            obtain ⟨ye, ze⟩ := hq4.1 e i4 hve
            rw [hve] at hN4
            have ⟨be0, be1, be2, be3⟩ := nm_b hN4.symm
            refine V_aload_n (pc := 109) C (dk k_Z_readsThing 66 rfl) rfl ?_
            refine V_getr (pc := 110) (o2 := 142) C (dk k_Z_readsThing 67 rfl) fl_Z_49 kq_128 (by decide) rfl (by decide) rfl ?_
            refine V_iload_n (pc := 113) C (dk k_Z_readsThing 68 rfl) rfl ?_
            refine V_iconst (pc := 114) C (dk k_Z_readsThing 69 rfl) rfl ?_
            refine V_iadd (pc := 115) C (dk k_Z_readsThing 70 rfl) ?_
            refine V_aload_n (pc := 116) C (dk k_Z_readsThing 71 rfl) rfl ?_
            refine V_geti (pc := 117) (ji := 29) C (dk k_Z_readsThing 72 rfl) fl_Z_111 kq_128 (by decide) rfl rfl ?_
            rw [ze]
            refine V_iast (pc := 120) C (dk k_Z_readsThing 73 rfl) kq_142 (by decide) (by omega) (by omega) ⟨by omega, by omega⟩ ?_
            refine V_R (fun hR => ?_)
            obtain ⟨ρ4, eρ4⟩ : ∃ ρ4 : Wd, up τ4 142 (4 * ((dT d).length : Int) + 3) e = ρ4 := ⟨_, rfl⟩
            rw [eρ4]
            have fρ4 : FrR σ ρ4 := by rw [← eρ4]; exact (fρ3.tr hq4.2.r).up 142 _ _ (by omega)
            have dρ4 : DM ρ4 d := by rw [← eρ4]; exact (hq4.2.dm dρ3).part _ _ (by omega)
            have vρ4 : ρ4 142 (4 * ((dT d).length : Int) + 3) = e := by rw [← eρ4, up_at]
            have wρ4 : ∀ u : Int, u ≠ 4 * ((dT d).length : Int) + 3 → ρ4 142 u = τ4 142 u := fun u a => by rw [← eρ4, up_ne2 _ a]
            have pρ4 : ρ4 128 20 = τ4 128 20 := by rw [← eρ4, up_ne1 _ _ _ _ (by decide)]
            refine V_R (fun hR => ?_)
            refine V_aload_n (pc := 121) C (dk k_Z_readsThing 74 rfl) rfl ?_
            refine V_dupR (pc := 122) C (dk k_Z_readsThing 75 rfl) ?_
            refine V_geti (pc := 123) (ji := 22) C (dk k_Z_readsThing 76 rfl) fl_Z_120 kq_128 (by decide) rfl rfl ?_
            refine V_iconst (pc := 126) C (dk k_Z_readsThing 77 rfl) rfl ?_
            rw [show ρ4 128 22 = ((dT d).length : Int) from dρ4.1.2.1]
            refine V_iadd (pc := 127) C (dk k_Z_readsThing 78 rfl) ?_
            refine V_puti (pc := 128) (ji := 22) C (dk k_Z_readsThing 79 rfl) fl_Z_120 fw_9_22 kq_128 (by decide) rfl rfl ⟨by omega, by omega⟩ ?_
            refine V_R (fun hR => ?_)
            refine V_iconst (pc := 131) C (dk k_Z_readsThing 80 rfl) rfl ?_
            refine V_zret (pc := 132) C (by first | exact Or.inl rfl | exact Or.inr rfl | (split <;> first | exact Or.inl rfl | exact Or.inr rfl) | omega) E (dk k_Z_readsThing 81 rfl) ?_
            have e0 : rtM tx d i = some ((dM d, (dT d ++ [(a, (b, (c, e)))], d.2.2)), i4) := by unfold rtM; rw [if_neg (by omega), ← hN1]; dsimp only; unfold rt1; rw [← hN2]; dsimp only; unfold rt2; rw [← hN3]; dsimp only; unfold rt3; rw [← hN4]
            rw [e0]
            have qa : ρ4 142 (4 * ((dT d).length : Int)) = a := by rw [wρ4 _ (by omega), hq4.2 142 _ (by omega), wρ3 _ (by omega), hq3.2 142 _ (by omega), wρ2 _ (by omega), hq2.2 142 _ (by omega)]; exact vρ1
            have qb : ρ4 142 (4 * ((dT d).length : Int) + 1) = b := by rw [wρ4 _ (by omega), hq4.2 142 _ (by omega), wρ3 _ (by omega), hq3.2 142 _ (by omega)]; exact vρ2
            have qc : ρ4 142 (4 * ((dT d).length : Int) + 2) = c := by rw [wρ4 _ (by omega), hq4.2 142 _ (by omega)]; exact vρ3
            exact ⟨rfl, fun d2 i5 h => by cases h; exact ⟨dρ4.addT (by omega) qa qb qc vρ4, by rw [up_ne2 _ (by decide)]; exact pρ4.trans ye⟩, fρ4.up 128 _ _ (by omega)⟩
          · skip
            refine V_iconst (pc := 107) C (dk k_Z_readsThing 64 rfl) rfl ?_
            refine V_zret (pc := 108) C (by first | exact Or.inl rfl | exact Or.inr rfl | (split <;> first | exact Or.inl rfl | exact Or.inr rfl) | omega) E (dk k_Z_readsThing 65 rfl) ?_
            have e : rtM tx d i = none := by unfold rtM; rw [if_neg (by omega), ← hN1]; dsimp only; unfold rt1; rw [← hN2]; dsimp only; unfold rt2; rw [← hN3]; dsimp only; unfold rt3; rw [← hN4, isn (show ¬ N4.isSome = true by assumption)]
            rw [e]
            exact ⟨rfl, fun d2 i1 h => (by cases h), fρ3.tr hq4.2.r⟩
        · skip
          refine V_iconst (pc := 81) C (dk k_Z_readsThing 48 rfl) rfl ?_
          refine V_zret (pc := 82) C (by first | exact Or.inl rfl | exact Or.inr rfl | (split <;> first | exact Or.inl rfl | exact Or.inr rfl) | omega) E (dk k_Z_readsThing 49 rfl) ?_
          have e : rtM tx d i = none := by unfold rtM; rw [if_neg (by omega), ← hN1]; dsimp only; unfold rt1; rw [← hN2]; dsimp only; unfold rt2; rw [← hN3, isn (show ¬ N3.isSome = true by assumption)]
          rw [e]
          exact ⟨rfl, fun d2 i1 h => (by cases h), fρ2.tr hq3.2.r⟩
      · skip
        refine V_iconst (pc := 55) C (dk k_Z_readsThing 32 rfl) rfl ?_
        refine V_zret (pc := 56) C (by first | exact Or.inl rfl | exact Or.inr rfl | (split <;> first | exact Or.inl rfl | exact Or.inr rfl) | omega) E (dk k_Z_readsThing 33 rfl) ?_
        have e : rtM tx d i = none := by unfold rtM; rw [if_neg (by omega), ← hN1]; dsimp only; unfold rt1; rw [← hN2, isn (show ¬ N2.isSome = true by assumption)]
        rw [e]
        exact ⟨rfl, fun d2 i1 h => (by cases h), fρ1.tr hq2.2.r⟩
    · skip
      refine V_iconst (pc := 25) C (dk k_Z_readsThing 13 rfl) rfl ?_
      refine V_zret (pc := 26) C (by first | exact Or.inl rfl | exact Or.inr rfl | (split <;> first | exact Or.inl rfl | exact Or.inr rfl) | omega) E (dk k_Z_readsThing 14 rfl) ?_
      first | (have e : rtM tx d i = none := if_pos (by omega)) | (have e : rtM tx d i = none := by (unfold rtM; rw [← hN1, isn (show ¬ N1.isSome = true by assumption)]; split <;> rfl))
      rw [e]
      first | exact ⟨rfl, fun d2 i1 h => (by cases h), FrR.rf σ⟩ | exact ⟨rfl, fun d2 i1 h => (by cases h), hq1.2.r⟩

theorem riM_a {tx : List Int} {d : DS} {i : Nat} (h : chr tx i = 97) : riM tx d i = rpM tx d (i + 1) := if_pos h
theorem riM_u {tx : List Int} {d : DS} {i : Nat} (h : chr tx i = 117) : riM tx d i = rtM tx d (i + 1) := (if_neg (by omega)).trans (if_pos h)
theorem riM_x {tx : List Int} {d : DS} {i : Nat} (h : chr tx i = 120) : riM tx d i = rrM tx d (i + 1) := (if_neg (by omega)).trans ((if_neg (by omega)).trans (if_pos h))
theorem riM_s {tx : List Int} {d : DS} {i : Nat} (h : chr tx i = 115) : riM tx d i = rsM tx d (i + 1) := (if_neg (by omega)).trans ((if_neg (by omega)).trans ((if_neg (by omega)).trans (if_pos h)))
theorem riM_n {tx : List Int} {d : DS} {i : Nat} (h1 : chr tx i ≠ 97) (h2 : chr tx i ≠ 117) (h3 : chr tx i ≠ 120) (h4 : chr tx i ≠ 115) : riM tx d i = none := (if_neg h1).trans ((if_neg h2).trans ((if_neg h3).trans (if_neg h4)))

def i_Z_readsItem : List (Nat × (Instr × Nat)) := [(0, (.aload_n 0, 1)), (1, (.invokevirtual 103, 3)), (4, (.istore_n 1, 1)), (5, (.aload_n 0, 1)), (6, (.dup, 1)), (7, (.getfield 100, 3)), (10, (.iconst 1, 1)), (11, (.iadd, 1)), (12, (.putfield 100, 3)), (15, (.iload_n 1, 1)), (16, (.bipush 97, 2)), (18, (.if_icmp .ne 10, 3)), (21, (.aload_n 0, 1)), (22, (.invokevirtual 132, 3)), (25, (.goto 47, 3)), (28, (.iload_n 1, 1)), (29, (.bipush 117, 2)), (31, (.if_icmp .ne 10, 3)), (34, (.aload_n 0, 1)), (35, (.invokevirtual 135, 3)), (38, (.goto 34, 3)), (41, (.iload_n 1, 1)), (42, (.bipush 120, 2)), (44, (.if_icmp .ne 10, 3)), (47, (.aload_n 0, 1)), (48, (.invokevirtual 138, 3)), (51, (.goto 21, 3)), (54, (.iload_n 1, 1)), (55, (.bipush 115, 2)), (57, (.if_icmp .ne 14, 3)), (60, (.aload_n 0, 1)), (61, (.invokevirtual 141, 3)), (64, (.ifCond .eq 7, 3)), (67, (.iconst 1, 1)), (68, (.goto 4, 3)), (71, (.iconst 0, 1)), (72, (.ireturn, 1))]
theorem k_Z_readsItem : i_Z_readsItem.all (fun q => decide (decode b_Z_readsItem q.1 = .ok q.2)) = true := by decide +kernel

set_option maxHeartbeats 1000000 in
set_option maxRecDepth 20000 in
theorem c_Z_readsItem (l : Launch) (G : GE) (σ : Wd) (tx : List Int) (d : DS) (i : Nat) (hT : TxM σ tx) (h20 : σ 128 20 = i) (hi0 : i < 800) (hd : DM σ d) : Ct l G y_Z_readsItem b_Z_readsItem 2 (some (.boolean)) 4 87 [vR 128] σ (Rt (some (vI (if (riM tx d i).isSome = true then 1 else 0))) (fun σ' => (∀ d' i1, riM tx d i = some (d', i1) → DM σ' d' ∧ σ' 128 20 = i1) ∧ FrR σ σ')) := by
  refine Ct.of cm_Z_readsItem (Nat.le_of_ble_eq_true rfl) ?_
  intro X hXl hXG hXN hRm C E
  subst hXl; subst hXG
  show V X 0 [some (vR 128), none] [] σ
  refine V_R (fun hR => ?_)
  obtain ⟨⟨g1, g2, g3, g4, g5⟩, ⟨k1, k2, k3⟩, gA, gB, gC⟩ := id hd
  have ⟨cb0, cb1⟩ := chrM_b hT i
  refine V_aload_n (pc := 0) C (dk k_Z_readsItem 0 rfl) rfl ?_
  refine V_callV (pc := 1) C (dk k_Z_readsItem 1 rfl) lk_Z_103 cm_Z_here vm_Z_here (c_Z_here _ _ _ tx i hT h20 (by omega)) kq_128 rfl rfl rfl (Nat.le_of_ble_eq_true rfl) (Rm.mono hRm (by decide) (by decide)) ?_
  refine V_istore_n (pc := 4) C (dk k_Z_readsItem 2 rfl) (by rw [hXN]; decide) ?_
  dsimp only [lst, lstL, lz, kill, Fin.val, Nat.reduceAdd]
  refine V_aload_n (pc := 5) C (dk k_Z_readsItem 3 rfl) rfl ?_
  refine V_dupR (pc := 6) C (dk k_Z_readsItem 4 rfl) ?_
  refine V_geti (pc := 7) (ji := 20) C (dk k_Z_readsItem 5 rfl) fl_Z_100 kq_128 (by decide) rfl rfl ?_
  refine V_iconst (pc := 10) C (dk k_Z_readsItem 6 rfl) rfl ?_
  rw [h20]
  refine V_iadd (pc := 11) C (dk k_Z_readsItem 7 rfl) ?_
  refine V_puti (pc := 12) (ji := 20) C (dk k_Z_readsItem 8 rfl) fl_Z_100 fw_9_20 kq_128 (by decide) rfl rfl ⟨by omega, by omega⟩ ?_
  refine V_R (fun hR => ?_)
  refine V_iload_n (pc := 15) C (dk k_Z_readsItem 9 rfl) rfl ?_
  refine V_bipush (pc := 16) (n' := 97) C (dk k_Z_readsItem 10 rfl) rfl ?_
  refine V_icmpne (pc := 18) C (dk k_Z_readsItem 11 rfl) 28 rfl (by first | exact hR _ _ | with_reducible assumption | exact ⟨by omega, by omega⟩) (by first | exact hR _ _ | with_reducible assumption | exact ⟨by omega, by omega⟩) (fun h1 => ?_) (fun h1 => ?_)
  · skip
    refine V_iload_n (pc := 28) C (dk k_Z_readsItem 15 rfl) rfl ?_
    refine V_bipush (pc := 29) (n' := 117) C (dk k_Z_readsItem 16 rfl) rfl ?_
    refine V_icmpne (pc := 31) C (dk k_Z_readsItem 17 rfl) 41 rfl (by first | exact hR _ _ | with_reducible assumption | exact ⟨by omega, by omega⟩) (by first | exact hR _ _ | with_reducible assumption | exact ⟨by omega, by omega⟩) (fun h2 => ?_) (fun h2 => ?_)
    · skip
      refine V_iload_n (pc := 41) C (dk k_Z_readsItem 21 rfl) rfl ?_
      refine V_bipush (pc := 42) (n' := 120) C (dk k_Z_readsItem 22 rfl) rfl ?_
      refine V_icmpne (pc := 44) C (dk k_Z_readsItem 23 rfl) 54 rfl (by first | exact hR _ _ | with_reducible assumption | exact ⟨by omega, by omega⟩) (by first | exact hR _ _ | with_reducible assumption | exact ⟨by omega, by omega⟩) (fun h3 => ?_) (fun h3 => ?_)
      · skip
        refine V_iload_n (pc := 54) C (dk k_Z_readsItem 27 rfl) rfl ?_
        refine V_bipush (pc := 55) (n' := 115) C (dk k_Z_readsItem 28 rfl) rfl ?_
        refine V_icmpne (pc := 57) C (dk k_Z_readsItem 29 rfl) 71 rfl (by first | exact hR _ _ | with_reducible assumption | exact ⟨by omega, by omega⟩) (by first | exact hR _ _ | with_reducible assumption | exact ⟨by omega, by omega⟩) (fun h4 => ?_) (fun h4 => ?_)
        · skip
          refine V_iconst (pc := 71) C (dk k_Z_readsItem 35 rfl) rfl ?_
          refine V_zret (pc := 72) C (by first | exact Or.inl rfl | exact Or.inr rfl | (split <;> first | exact Or.inl rfl | exact Or.inr rfl) | omega) E (dk k_Z_readsItem 36 rfl) ?_
          have f0 : FrR σ (up σ 128 20 ((i : Int) + 1)) := (FrR.rf σ).up 128 _ _ (by omega)
          first | exact ⟨rfl, hq1.1, f0.tr hq1.2⟩ | (have hs : (riM tx d i).isSome = true := (by assumption); rw [if_pos hs]; exact ⟨rfl, hq1.1, f0.tr hq1.2⟩) | (have hs : ¬ (riM tx d i).isSome = true := (by assumption); rw [if_neg hs]; exact ⟨rfl, hq1.1, f0.tr hq1.2⟩) | (rw [riM_n (by assumption) (by assumption) (by assumption) (by assumption)]; exact ⟨rfl, fun d2 i1 h => (by cases h), f0⟩)
        · skip
          refine V_aload_n (pc := 60) C (dk k_Z_readsItem 30 rfl) rfl ?_
          refine V_callVr (pc := 61) C (dk k_Z_readsItem 31 rfl) lk_Z_141 cm_Z_readsShop vm_Z_readsShop (c_Z_readsShop _ _ _ tx d (i + 1) (hT.fx (fun k b a => up_off _ _ (by omega))) (up_at _ _ _ _) (by omega) (((FrN.rf σ).up 20 _ (Or.inl rfl)).dm hd)) kq_128 rfl rfl rfl (Nat.le_of_ble_eq_true rfl) (Rm.mono hRm (by decide) (by decide)) (fun τ1 hq1 => ?_)
          refine V_R (fun hR => ?_)
          rw [← riM_s (by assumption)] at hq1 ⊢
          refine V_ifeqB (pc := 64) C (dk k_Z_readsItem 32 rfl) 71 rfl (fun h5 => ?_) (fun h5 => ?_)
          · skip
            refine V_iconst (pc := 71) C (dk k_Z_readsItem 35 rfl) rfl ?_
            refine V_zret (pc := 72) C (by first | exact Or.inl rfl | exact Or.inr rfl | (split <;> first | exact Or.inl rfl | exact Or.inr rfl) | omega) E (dk k_Z_readsItem 36 rfl) ?_
            have f0 : FrR σ (up σ 128 20 ((i : Int) + 1)) := (FrR.rf σ).up 128 _ _ (by omega)
            first | exact ⟨rfl, hq1.1, f0.tr hq1.2⟩ | (have hs : (riM tx d i).isSome = true := (by assumption); rw [if_pos hs]; exact ⟨rfl, hq1.1, f0.tr hq1.2⟩) | (have hs : ¬ (riM tx d i).isSome = true := (by assumption); rw [if_neg hs]; exact ⟨rfl, hq1.1, f0.tr hq1.2⟩) | (rw [riM_n (by assumption) (by assumption) (by assumption) (by assumption)]; exact ⟨rfl, fun d2 i1 h => (by cases h), f0⟩)
          · skip
            refine V_iconst (pc := 67) C (dk k_Z_readsItem 33 rfl) rfl ?_
            refine V_goto (pc := 68) C (dk k_Z_readsItem 34 rfl) 72 rfl ?_
            refine V_zret (pc := 72) C (by first | exact Or.inl rfl | exact Or.inr rfl | (split <;> first | exact Or.inl rfl | exact Or.inr rfl) | omega) E (dk k_Z_readsItem 36 rfl) ?_
            have f0 : FrR σ (up σ 128 20 ((i : Int) + 1)) := (FrR.rf σ).up 128 _ _ (by omega)
            first | exact ⟨rfl, hq1.1, f0.tr hq1.2⟩ | (have hs : (riM tx d i).isSome = true := (by assumption); rw [if_pos hs]; exact ⟨rfl, hq1.1, f0.tr hq1.2⟩) | (have hs : ¬ (riM tx d i).isSome = true := (by assumption); rw [if_neg hs]; exact ⟨rfl, hq1.1, f0.tr hq1.2⟩) | (rw [riM_n (by assumption) (by assumption) (by assumption) (by assumption)]; exact ⟨rfl, fun d2 i1 h => (by cases h), f0⟩)
      · skip
        refine V_aload_n (pc := 47) C (dk k_Z_readsItem 24 rfl) rfl ?_
        refine V_callVr (pc := 48) C (dk k_Z_readsItem 25 rfl) lk_Z_138 cm_Z_readsRate vm_Z_readsRate (c_Z_readsRate _ _ _ tx d (i + 1) (hT.fx (fun k b a => up_off _ _ (by omega))) (up_at _ _ _ _) (by omega) (((FrN.rf σ).up 20 _ (Or.inl rfl)).dm hd)) kq_128 rfl rfl rfl (Nat.le_of_ble_eq_true rfl) (Rm.mono hRm (by decide) (by decide)) (fun τ1 hq1 => ?_)
        refine V_R (fun hR => ?_)
        rw [← riM_x (by assumption)] at hq1 ⊢
        refine V_goto (pc := 51) C (dk k_Z_readsItem 26 rfl) 72 rfl ?_
        refine V_zret (pc := 72) C (by first | exact Or.inl rfl | exact Or.inr rfl | (split <;> first | exact Or.inl rfl | exact Or.inr rfl) | omega) E (dk k_Z_readsItem 36 rfl) ?_
        have f0 : FrR σ (up σ 128 20 ((i : Int) + 1)) := (FrR.rf σ).up 128 _ _ (by omega)
        first | exact ⟨rfl, hq1.1, f0.tr hq1.2⟩ | (have hs : (riM tx d i).isSome = true := (by assumption); rw [if_pos hs]; exact ⟨rfl, hq1.1, f0.tr hq1.2⟩) | (have hs : ¬ (riM tx d i).isSome = true := (by assumption); rw [if_neg hs]; exact ⟨rfl, hq1.1, f0.tr hq1.2⟩) | (rw [riM_n (by assumption) (by assumption) (by assumption) (by assumption)]; exact ⟨rfl, fun d2 i1 h => (by cases h), f0⟩)
    · skip
      refine V_aload_n (pc := 34) C (dk k_Z_readsItem 18 rfl) rfl ?_
      refine V_callVr (pc := 35) C (dk k_Z_readsItem 19 rfl) lk_Z_135 cm_Z_readsThing vm_Z_readsThing (c_Z_readsThing _ _ _ tx d (i + 1) (hT.fx (fun k b a => up_off _ _ (by omega))) (up_at _ _ _ _) (by omega) (((FrN.rf σ).up 20 _ (Or.inl rfl)).dm hd)) kq_128 rfl rfl rfl (Nat.le_of_ble_eq_true rfl) (Rm.mono hRm (by decide) (by decide)) (fun τ1 hq1 => ?_)
      refine V_R (fun hR => ?_)
      rw [← riM_u (by assumption)] at hq1 ⊢
      refine V_goto (pc := 38) C (dk k_Z_readsItem 20 rfl) 72 rfl ?_
      refine V_zret (pc := 72) C (by first | exact Or.inl rfl | exact Or.inr rfl | (split <;> first | exact Or.inl rfl | exact Or.inr rfl) | omega) E (dk k_Z_readsItem 36 rfl) ?_
      have f0 : FrR σ (up σ 128 20 ((i : Int) + 1)) := (FrR.rf σ).up 128 _ _ (by omega)
      first | exact ⟨rfl, hq1.1, f0.tr hq1.2⟩ | (have hs : (riM tx d i).isSome = true := (by assumption); rw [if_pos hs]; exact ⟨rfl, hq1.1, f0.tr hq1.2⟩) | (have hs : ¬ (riM tx d i).isSome = true := (by assumption); rw [if_neg hs]; exact ⟨rfl, hq1.1, f0.tr hq1.2⟩) | (rw [riM_n (by assumption) (by assumption) (by assumption) (by assumption)]; exact ⟨rfl, fun d2 i1 h => (by cases h), f0⟩)
  · skip
    refine V_aload_n (pc := 21) C (dk k_Z_readsItem 12 rfl) rfl ?_
    refine V_callVr (pc := 22) C (dk k_Z_readsItem 13 rfl) lk_Z_132 cm_Z_readsPerson vm_Z_readsPerson (c_Z_readsPerson _ _ _ tx d (i + 1) (hT.fx (fun k b a => up_off _ _ (by omega))) (up_at _ _ _ _) (by omega) (((FrN.rf σ).up 20 _ (Or.inl rfl)).dm hd)) kq_128 rfl rfl rfl (Nat.le_of_ble_eq_true rfl) (Rm.mono hRm (by decide) (by decide)) (fun τ1 hq1 => ?_)
    refine V_R (fun hR => ?_)
    rw [← riM_a (by assumption)] at hq1 ⊢
    refine V_goto (pc := 25) C (dk k_Z_readsItem 14 rfl) 72 rfl ?_
    refine V_zret (pc := 72) C (by first | exact Or.inl rfl | exact Or.inr rfl | (split <;> first | exact Or.inl rfl | exact Or.inr rfl) | omega) E (dk k_Z_readsItem 36 rfl) ?_
    have f0 : FrR σ (up σ 128 20 ((i : Int) + 1)) := (FrR.rf σ).up 128 _ _ (by omega)
    first | exact ⟨rfl, hq1.1, f0.tr hq1.2⟩ | (have hs : (riM tx d i).isSome = true := (by assumption); rw [if_pos hs]; exact ⟨rfl, hq1.1, f0.tr hq1.2⟩) | (have hs : ¬ (riM tx d i).isSome = true := (by assumption); rw [if_neg hs]; exact ⟨rfl, hq1.1, f0.tr hq1.2⟩) | (rw [riM_n (by assumption) (by assumption) (by assumption) (by assumption)]; exact ⟨rfl, fun d2 i1 h => (by cases h), f0⟩)
