theorem VK.up {π : PL} {x : ST} {us ks : List ST} {j : Int} (h : VK π x us ks j) : VK π x us ks (j + 1) := by
  obtain ⟨h1, h2, h3, h4, h5⟩ := h
  exact ⟨h1, h2.up (by omega), fun y q => (h3 y q).up (by omega), fun y q => (h4 y q).up (by omega), h5⟩
theorem VK.push {π : PL} {x x' : ST} {us ks : List ST} {j : Int} (h : VK π x us ks j) (hx : STok π x' (j + 1)) : VK π x' ((x :: us).take 8) ks (j + 1) := by
  obtain ⟨h1, h2, h3, h4, h5⟩ := h
  refine ⟨h1, hx, fun y q => ?_, fun y q => (h4 y q).up (by omega), h5⟩
  rcases List.mem_cons.mp (List.mem_of_mem_take q) with e | e
  · rw [e]; exact h2.up (by omega)
  · exact (h3 y e).up (by omega)
theorem VK.sell {π : PL} {x : ST} {us ks : List ST} {j : Int} (h : VK π x us ks j) (t : Int) : VK π (o_sell π x us t).2.1 (o_sell π x us t).2.2 ks (j + 1) := by
  unfold o_sell
  split
  · rename_i ht
    split
    · rename_i hs
      exact h.push (sellZ_ok h.1 h.2.1 ht.1 ht.2 hs.1.1 hs.2)
    · exact h.up
  · exact h.up
theorem VK.buy {π : PL} {x : ST} {us ks : List ST} {j : Int} (h : VK π x us ks j) (t : Int) : VK π (o_buy π x us t).2.1 (o_buy π x us t).2.2 ks (j + 1) := by
  unfold o_buy
  split
  · rename_i ht
    split
    · rename_i hs
      exact h.push (buyZ_ok h.1 h.2.1 ht.1 ht.2 hs.1 hs.2)
    · exact h.up
  · exact h.up
theorem VK.pass {π : PL} {x : ST} {us ks : List ST} {j : Int} (h : VK π x us ks j) (n : Int) : VK π (o_pass π x us n).2.1 (o_pass π x us n).2.2 ks (j + 1) := by
  unfold o_pass
  split
  · rename_i hn
    exact h.push ((days_ok h.1 h.2.1 n.toNat).ok (by omega) (by omega))
  · exact h.up
theorem VK.undo {π : PL} {x y : ST} {us ks : List ST} {j : Int} (h : VK π x (y :: us) ks j) : VK π y us ks (j + 1) := by
  obtain ⟨h1, h2, h3, h4, h5⟩ := h
  exact ⟨h1, (h3 y List.mem_cons_self).up (by omega), fun z q => (h3 z (List.mem_cons_of_mem _ q)).up (by omega), fun z q => (h4 z q).up (by omega), h5⟩
theorem VK.back {π : PL} {x y : ST} {us ks : List ST} {j : Int} (h : VK π x us (y :: ks) j) : VK π y [] ks (j + 1) := by
  obtain ⟨h1, h2, h3, h4, h5⟩ := h
  rw [List.length_cons] at h5
  exact ⟨h1, (h4 y List.mem_cons_self).up (by omega), fun z q => absurd q List.not_mem_nil, fun z q => (h4 z (List.mem_cons_of_mem _ q)).up (by omega), by omega⟩
theorem VK.keep {π : PL} {x : ST} {us ks : List ST} {j : Int} (h : VK π x us ks j) : VK π x us (o_keep x ks).2 (j + 1) := by
  unfold o_keep
  split
  · exact h.up
  · rename_i hl
    obtain ⟨h1, h2, h3, h4, h5⟩ := h
    refine ⟨h1, h2.up (by omega), fun z q => (h3 z q).up (by omega), fun z q => ?_, by rw [List.length_cons]; omega⟩
    rcases List.mem_cons.mp q with e | e
    · rw [e]; exact h2.up (by omega)
    · exact (h4 z e).up (by omega)
/-- what a reading gives is within bounds -/
def DSg (d : DS) : Prop := ((dM d).length ≤ 5 ∧ (dT d).length ≤ 8 ∧ (dX d).length ≤ 12) ∧ (∀ v ∈ dM d, 0 ≤ v ∧ v ≤ 99) ∧ (∀ q ∈ dT d, (0 ≤ q.1 ∧ q.1 ≤ (dM d).length - 1) ∧ (0 ≤ q.2.1 ∧ q.2.1 ≤ 3) ∧ (1 ≤ q.2.2.1 ∧ q.2.2.1 ≤ 20) ∧ (0 ≤ q.2.2.2 ∧ q.2.2.2 ≤ 20)) ∧ (∀ v ∈ dX d, 0 ≤ v ∧ v ≤ 9) ∧ (0 ≤ dS d ∧ dS d ≤ 99) ∧ (0 ≤ dL d ∧ dL d ≤ 20)
theorem nmM_r {tx : List Int} {i i1 : Nat} {v lo hi en : Int} (h : nmM tx i lo hi en = some (v, i1)) : lo ≤ v ∧ v ≤ hi := by
  rcases hn : num tx i with _ | ⟨u, i2⟩
  · rw [nm_0 hn] at h; cases h
  · by_cases hc : chr tx i2 = en ∧ lo ≤ u ∧ u ≤ hi
    · rw [nm_y hn hc.1 hc.2.1 hc.2.2] at h
      cases h
      exact ⟨hc.2.1, hc.2.2⟩
    · rw [nm_n hn hc] at h; cases h
theorem ri_g {tx : List Int} {d d' : DS} {i i1 : Nat} (h : riM tx d i = some (d', i1)) (hd : DSg d) : DSg d' := by
  obtain ⟨⟨k1, k2, k3⟩, gM, gT, gX, gS, gL⟩ := hd
  unfold riM at h
  split at h
  · unfold rpM at h
    split at h
    · cases h
    · rcases hn : nmM tx (i + 1) 0 99 59 with _ | ⟨v, i2⟩
      · rw [hn] at h; cases h
      · rw [hn] at h; cases h
        have hv := nmM_r hn
        have hl : (dM d ++ [v]).length = (dM d).length + 1 := by rw [List.length_append]; rfl
        refine ⟨⟨by show (dM d ++ [v]).length ≤ 5; omega, k2, k3⟩, fun u q => ?_, fun q hq => ?_, gX, gS, gL⟩
        · rcases List.mem_append.mp q with e | e
          · exact gM u e
          · rw [List.mem_singleton.mp e]; exact hv
        · obtain ⟨⟨a, b⟩, c⟩ := gT q hq
          exact ⟨⟨a, by show q.1 ≤ ((dM d ++ [v]).length : Int) - 1; omega⟩, c⟩
  · split at h
    · unfold rtM at h
      split at h
      · cases h
      · rcases hn : nmM tx (i + 1) 0 ((dM d).length - 1) 44 with _ | ⟨a, i2⟩
        · rw [hn] at h; cases h
        · rw [hn] at h
          dsimp only at h
          unfold rt1 at h
          rcases hm : nmM tx i2 0 3 44 with _ | ⟨b, i3⟩
          · rw [hm] at h; cases h
          · rw [hm] at h
            dsimp only at h
            unfold rt2 at h
            rcases hp : nmM tx i3 1 20 44 with _ | ⟨c, i4⟩
            · rw [hp] at h; cases h
            · rw [hp] at h
              dsimp only at h
              unfold rt3 at h
              rcases hq : nmM tx i4 0 20 59 with _ | ⟨e, i5⟩
              · rw [hq] at h; cases h
              · rw [hq] at h; cases h
                have h1 := nmM_r hn
                have h2 := nmM_r hm
                have h3 := nmM_r hp
                have h4 := nmM_r hq
                have hl : (dT d ++ [(a, (b, (c, e)))]).length = (dT d).length + 1 := by rw [List.length_append]; rfl
                refine ⟨⟨k1, by show (dT d ++ [(a, (b, (c, e)))]).length ≤ 8; omega, k3⟩, gM, fun q hq => ?_, gX, gS, gL⟩
                rcases List.mem_append.mp hq with z | z
                · exact gT q z
                · rw [List.mem_singleton.mp z]; exact ⟨h1, h2, h3, h4⟩
    · split at h
      · unfold rrM at h
        split at h
        · cases h
        · rcases hn : nmM tx (i + 1) 0 9 59 with _ | ⟨v, i2⟩
          · rw [hn] at h; cases h
          · rw [hn] at h; cases h
            have hv := nmM_r hn
            have hl : (dX d ++ [v]).length = (dX d).length + 1 := by rw [List.length_append]; rfl
            refine ⟨⟨k1, k2, by show (dX d ++ [v]).length ≤ 12; omega⟩, gM, gT, fun u q => ?_, gS, gL⟩
            rcases List.mem_append.mp q with e | e
            · exact gX u e
            · rw [List.mem_singleton.mp e]; exact hv
      · split at h
        · unfold rsM at h
          rcases hn : nmM tx (i + 1) 0 99 44 with _ | ⟨a, i2⟩
          · rw [hn] at h; cases h
          · rw [hn] at h
            dsimp only at h
            rcases hm : nmM tx i2 0 20 59 with _ | ⟨b, i3⟩
            · rw [hm] at h; cases h
            · rw [hm] at h; cases h
              exact ⟨⟨k1, k2, k3⟩, gM, gT, gX, nmM_r hn, nmM_r hm⟩
        · cases h
theorem rdI_g (tx : List Int) : ∀ (f i : Nat) (d : DS), DSg d → DSg (rdI tx f i d).2
  | 0, _, _, h => h
  | f + 1, i, d, h => by
    by_cases hi : i < tx.length
    · have hM := rdI_M (f := f) (show DSk d from h.1) hi
      rcases hr : riM tx d i with _ | ⟨d2, i2⟩
      · rw [hM.1 hr]; exact h
      · rw [hM.2 d2 i2 hr]
        exact rdI_g tx f i2 d2 (ri_g hr h)
    · rw [rdI_e (by omega)]; exact h
theorem d0_g : DSg d0 := ⟨⟨Nat.zero_le _, Nat.zero_le _, Nat.zero_le _⟩, fun v h => absurd h List.not_mem_nil, fun v h => absurd h List.not_mem_nil, fun v h => absurd h List.not_mem_nil, (by decide : (0 : Int) ≤ 60 ∧ (60 : Int) ≤ 99), (by decide : (0 : Int) ≤ 4 ∧ (4 : Int) ≤ 20)⟩
theorem VK.lay {tx : List Int} (h : dM (o_read tx).2 ≠ []) {j : Int} (hj : 0 ≤ j) : VK (piO (o_read tx).2) (stO (o_read tx).2) [] [] j := by
  have hg : DSg (o_read tx).2 := rdI_g tx 200 0 d0 d0_g
  revert h hg
  generalize (o_read tx).2 = d
  intro h hg
  obtain ⟨⟨k1, k2, k3⟩, gM, gT, gX, gS, gL⟩ := hg
  have hl : 0 < (dM d).length := Nat.pos_of_ne_zero (fun e => h (List.eq_nil_of_length_eq_zero e))
  have gT' : ∀ t : Int, 0 ≤ t → t < ((dT d).length : Int) → _ := fun t a b => gT _ (List.mem_of_getElem? (getO (0, (0, (0, 0))) a b))
  refine ⟨⟨hl, k1, k2, k3, gL.1, gL.2, fun t a b => ?_, fun r a b => ?_⟩, ⟨Int.le_refl 0, by show (0 : Int) ≤ 24 * j; omega, gS.1, by show dS d ≤ _; omega, fun q a b => ?_, fun t a b => ?_⟩, fun y q => absurd q List.not_mem_nil, fun y q => absurd q List.not_mem_nil, by decide⟩
  · obtain ⟨⟨a1, a2⟩, ⟨a3, a4⟩, -, a7, a8⟩ := gT' t a b
    refine ⟨a1, ?_, a3, a4, a7, a8⟩
    show ((dT d).getD t.toNat (0, (0, (0, 0)))).1 < ((dM d).length : Int)
    omega
  · exact gX _ (List.mem_of_getElem? (getO 0 a b))
  · have hm := gM _ (List.mem_of_getElem? (getO 0 a b))
    refine ⟨hm.1, ?_, Int.le_refl 0, Int.le_refl 0⟩
    show (dM d).getD q.toNat 0 ≤ 99 + 900 * j
    omega
  · obtain ⟨-, -, ⟨a5, a6⟩, -⟩ := gT' t a b
    show 0 ≤ ((dT d).getD t.toNat (0, (0, (0, 0)))).2.2.1 ∧ ((dT d).getD t.toNat (0, (0, (0, 0)))).2.2.1 ≤ 99 ∧ (0 : Int) ≤ 0 ∧ (0 : Int) ≤ 2 ∧ ((0 : Int) = 2 ↔ ((dT d).getD t.toNat (0, (0, (0, 0)))).2.2.1 = 0)
    omega
/-- the text that a new shop has laid -/
def FT : List Int := [97, 53, 59, 97, 48, 59, 97, 49, 50, 59, 97, 51, 48, 59, 117, 48, 44, 48, 44, 54, 44, 50, 59, 117, 48, 44, 49, 44, 57, 44, 55, 59, 117, 49, 44, 51, 44, 49, 52, 44, 48, 59, 117, 49, 44, 50, 44, 56, 44, 51, 59, 117, 50, 44, 48, 44, 51, 44, 49, 59, 117, 50, 44, 49, 44, 49, 50, 44, 49, 53, 59, 117, 51, 44, 48, 44, 49, 48, 44, 52, 59, 117, 51, 44, 50, 44, 53, 44, 53, 59, 120, 51, 59, 120, 50, 59, 120, 53, 59, 120, 49, 59, 115, 56, 48, 44, 53, 59]
def FD : DS := ([5, 0, 12, 30], ([(0, (0, (6, 2))), (0, (1, (9, 7))), (1, (3, (14, 0))), (1, (2, (8, 3))), (2, (0, (3, 1))), (2, (1, (12, 15))), (3, (0, (10, 4))), (3, (2, (5, 5)))], ([3, 2, 5, 1], (80, 5))))
theorem FT_read : o_read FT = (-4, FD) := by
  refine Prod.ext ?_ (Prod.ext ?_ (Prod.ext ?_ (Prod.ext ?_ (Prod.ext ?_ ?_)))) <;> decide +kernel
theorem FT_len : FT.length = 108 := by decide +kernel
theorem FT_b : ∀ c ∈ FT, 32 ≤ c ∧ c ≤ 126 := by decide +kernel
