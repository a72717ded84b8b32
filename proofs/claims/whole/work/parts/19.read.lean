def nr (r : Option (List Int × Nat)) : Int := match r with
  | none => -1
  | some (_, i) => (i : Int)
theorem nr_none {r : Option (List Int × Nat)} (h : nr r = -1) : r = none := by
  cases r with
  | none => rfl
  | some z =>
    obtain ⟨a, b⟩ := z
    have h2 : (b : Int) = -1 := h
    omega
theorem nr_some {r : Option (List Int × Nat)} (h : ¬ nr r = -1) : ∃ ns i, r = some (ns, i) := by
  cases r with
  | none => exact absurd rfl h
  | some z => exact ⟨z.1, z.2, rfl⟩
theorem nr_R {r : Option (List Int × Nat)} (h : ∀ ns i, r = some (ns, i) → i < 2000) : inR (nr r) := by
  cases r with
  | none => exact ⟨by decide, by decide⟩
  | some z =>
    have h2 := h z.1 z.2 rfl
    show inR (z.2 : Int)
    exact ⟨by omega, by omega⟩
theorem isn {α : Type} {o : Option α} (h : ¬ o.isSome = true) : o = none := by
  cases o with
  | none => rfl
  | some z => exact absurd rfl h
theorem num_2 {tx : List Int} {q : Nat} (h : fig (chr tx q)) (h2 : fig (chr tx (q + 1))) : num tx q = some (10 * (chr tx q - 48) + chr tx (q + 1) - 48, q + 2) := by
  unfold num; rw [if_pos h, if_pos h2]
theorem num_1 {tx : List Int} {q : Nat} (h : fig (chr tx q)) (h2 : ¬ fig (chr tx (q + 1))) : num tx q = some (chr tx q - 48, q + 1) := by
  unfold num; rw [if_pos h, if_neg h2]
theorem num_0 {tx : List Int} {q : Nat} (h : ¬ fig (chr tx q)) : num tx q = none := by
  unfold num; rw [if_neg h]
theorem rdN_s (tx : List Int) (f i : Nat) (acc : List Int) : rdN tx (f + 1) i acc = match num tx i with
    | none => none
    | some (v, i1) => if chr tx i1 = 59 then some (acc ++ [v], i1 + 1) else if chr tx i1 = 44 then rdN tx f (i1 + 1) (acc ++ [v]) else none := rfl
theorem num_b {tx : List Int} {i i1 : Nat} {v : Int} (h : num tx i = some (v, i1)) : i < i1 ∧ i1 ≤ i + 2 ∧ 0 ≤ v ∧ v ≤ 99 := by
  unfold num at h
  split at h
  · split at h
    · cases h; rename_i a b; obtain ⟨a1, a2⟩ := a; obtain ⟨b1, b2⟩ := b; omega
    · cases h; rename_i a b; obtain ⟨a1, a2⟩ := a; omega
  · cases h
theorem rdN_b (tx : List Int) : ∀ (f i : Nat) (acc ns : List Int) (n : Nat), rdN tx f i acc = some (ns, n) → i < n ∧ n ≤ i + 3 * f
  | 0, _, _, _, _, h => by cases h
  | f + 1, i, acc, ns, n, h => by
    rw [rdN_s] at h
    cases hn : num tx i with
    | none => rw [hn] at h; cases h
    | some q =>
      obtain ⟨v, i1⟩ := q
      rw [hn] at h
      obtain ⟨b1, b2, -, -⟩ := num_b hn
      dsimp only at h
      split at h
      · cases h; omega
      · split at h
        · have := rdN_b tx f (i1 + 1) _ _ _ h; omega
        · cases h

def i_R_isFigure : List (Nat × (Instr × Nat)) := [(0, (.aload_n 1, 1)), (1, (.iload_n 2, 1)), (2, (.invokevirtual 30, 3)), (5, (.bipush 48, 2)), (7, (.bipush 57, 2)), (9, (.invokestatic 49, 3)), (12, (.ireturn, 1))]
theorem k_R_isFigure : i_R_isFigure.all (fun q => decide (decode b_R_isFigure q.1 = .ok q.2)) = true := by decide +kernel

set_option maxHeartbeats 1000000 in
set_option maxRecDepth 20000 in
theorem c_R_isFigure (l : Launch) (G : GE) (σ : Wd) (tx : List Int) (i : Nat) (hT : TxR σ tx) (hi : i < 2000) : Ct l G y_R_isFigure b_R_isFigure 3 (some (.boolean)) 1 22 [vR 3, vR 1, vI (i : Int)] σ (Dt (some (vI (if fig (chr tx i) then 1 else 0))) σ) := by
  refine Ct.of cm_R_isFigure (Nat.le_of_ble_eq_true rfl) ?_
  intro X hXl hXG hXN hRm C E
  subst hXl; subst hXG
  show V X 0 [some (vR 3), some (vR 1), some (vI (i : Int))] [] σ
  refine V_R (fun hR => ?_)
  have cb := chr_b hT i
  refine V_aload_n (pc := 0) C (dk k_R_isFigure 0 rfl) rfl ?_
  refine V_iload_n (pc := 1) C (dk k_R_isFigure 1 rfl) rfl ?_
  refine V_callV (pc := 2) C (dk k_R_isFigure 2 rfl) lk_R_30 cm_L_letter vm_L_letter (c_let _ _ _ tx i hT (by omega)) kq_1 rfl rfl rfl (Nat.le_of_ble_eq_true rfl) (Rm.mono hRm (by decide) (by decide)) ?_
  refine V_bipush (pc := 5) (n' := 48) C (dk k_R_isFigure 3 rfl) rfl ?_
  refine V_bipush (pc := 7) (n' := 57) C (dk k_R_isFigure 4 rfl) rfl ?_
  refine V_callS (pc := 9) C (dk k_R_isFigure 5 rfl) lk_R_49 cm_F_within sm_F_within (c_F_within _ _ _ (chr tx i) 48 57 ⟨by omega, by omega⟩ ⟨by decide, by decide⟩ ⟨by decide, by decide⟩) rfl rfl (Nat.le_of_ble_eq_true rfl) (Rm.mono hRm (by decide) (by decide)) ?_
  refine V_zret (pc := 12) C (by first | exact Or.inl rfl | exact Or.inr rfl | (split <;> first | exact Or.inl rfl | exact Or.inr rfl) | omega) E (dk k_R_isFigure 6 rfl) ?_
  exact ⟨rfl, rfl⟩

def i_R_readNumbers : List (Nat × (Instr × Nat)) := [(0, (.iload_n 2, 1)), (1, (.istore_n 3, 1)), (2, (.iconst 0, 1)), (3, (.istore 4, 2)), (5, (.iload 4, 2)), (7, (.iconst 4, 1)), (8, (.if_icmp .ge 108, 3)), (11, (.aload_n 0, 1)), (12, (.aload_n 1, 1)), (13, (.iload_n 3, 1)), (14, (.invokevirtual 38, 3)), (17, (.ifCond .ne 5, 3)), (20, (.iconst (-1), 1)), (21, (.ireturn, 1)), (22, (.aload_n 1, 1)), (23, (.iload_n 3, 1)), (24, (.invokevirtual 30, 3)), (27, (.bipush 48, 2)), (29, (.isub, 1)), (30, (.istore 5, 2)), (32, (.iinc 3 1, 3)), (35, (.aload_n 0, 1)), (36, (.aload_n 1, 1)), (37, (.iload_n 3, 1)), (38, (.invokevirtual 38, 3)), (41, (.ifCond .eq 22, 3)), (44, (.bipush 10, 2)), (46, (.iload 5, 2)), (48, (.imul, 1)), (49, (.aload_n 1, 1)), (50, (.iload_n 3, 1)), (51, (.invokevirtual 30, 3)), (54, (.iadd, 1)), (55, (.bipush 48, 2)), (57, (.isub, 1)), (58, (.istore 5, 2)), (60, (.iinc 3 1, 3)), (63, (.aload_n 0, 1)), (64, (.getfield 9, 3)), (67, (.iload 4, 2)), (69, (.iload 5, 2)), (71, (.invokestatic 42, 3)), (74, (.aload_n 0, 1)), (75, (.iload 4, 2)), (77, (.iconst 1, 1)), (78, (.iadd, 1)), (79, (.putfield 46, 3)), (82, (.aload_n 1, 1)), (83, (.iload_n 3, 1)), (84, (.invokevirtual 30, 3)), (87, (.istore 6, 2)), (89, (.iinc 3 1, 3)), (92, (.iload 6, 2)), (94, (.bipush 59, 2)), (96, (.if_icmp .ne 5, 3)), (99, (.iload_n 3, 1)), (100, (.ireturn, 1)), (101, (.iload 6, 2)), (103, (.bipush 44, 2)), (105, (.if_icmp .eq 5, 3)), (108, (.iconst (-1), 1)), (109, (.ireturn, 1)), (110, (.iinc 4 1, 3)), (113, (.goto (-108), 3)), (116, (.iconst (-1), 1)), (117, (.ireturn, 1))]
theorem k_R_readNumbers : i_R_readNumbers.all (fun q => decide (decode b_R_readNumbers q.1 = .ok q.2)) = true := by decide +kernel

set_option maxHeartbeats 1000000 in
set_option maxRecDepth 20000 in
theorem c_R_readNumbers (l : Launch) (G : GE) (σ : Wd) (tx : List Int) (i0 : Nat) (hT : TxR σ tx) (hi0 : i0 ≤ 400) : Ct l G y_R_readNumbers b_R_readNumbers 7 (some (.int)) 2 44 [vR 3, vR 1, vI (i0 : Int)] σ (Rt (some (vI (nr (rdN tx 4 i0 [])))) (fun σ' => Fr 3 2 σ σ' ∧ ∀ ns n, rdN tx 4 i0 [] = some (ns, n) → NsR σ' ns)) := by
  refine Ct.of cm_R_readNumbers (Nat.le_of_ble_eq_true rfl) ?_
  intro X hXl hXG hXN hRm C E
  subst hXl; subst hXG
  show V X 0 [some (vR 3), some (vR 1), some (vI (i0 : Int)), none, none, none, none] [] σ
  refine V_R (fun hR => ?_)
  refine V_iload_n (pc := 0) C (dk k_R_readNumbers 0 rfl) rfl ?_
  refine V_istore_n (pc := 1) C (dk k_R_readNumbers 1 rfl) (by rw [hXN]; decide) ?_
  dsimp only [lst, lstL, lz, kill, Fin.val, Nat.reduceAdd]
  refine V_iconst (pc := 2) C (dk k_R_readNumbers 2 rfl) rfl ?_
  refine V_istore (pc := 3) C (dk k_R_readNumbers 3 rfl) (by rw [hXN]; decide) ?_
  dsimp only [lst, lstL, lz, kill, Fin.val, Nat.reduceAdd]
  refine V_eq (V_loop (fun z : List Int × (Nat × Wd) => z.1.length ≤ 4 ∧ z.2.1 ≤ i0 + 3 * z.1.length ∧ (∀ (k : Nat) (v : Int), z.1[k]? = some v → z.2.2 4 k = v ∧ 0 ≤ v ∧ v ≤ 99) ∧ Fr 3 2 σ z.2.2 ∧ rdN tx 4 i0 [] = rdN tx (4 - z.1.length) z.2.1 z.1) (fun z => [some (vR 3), some (vR 1), some (vI (i0 : Int)), some (vI (z.2.1 : Int)), some (vI (z.1.length : Int)), none, none]) (fun z => z.2.2) (fun z => 4 - z.1.length) (fun z hz ih => ?_) ([], (i0, σ)) ⟨Nat.zero_le 4, Nat.le_refl _, fun k v h => by simp at h, Fr.rf _ _ _, rfl⟩) rfl rfl rfl
  obtain ⟨acc, q, τ⟩ := z
  obtain ⟨hal, hq, hrow, hfr, hrd⟩ := hz
  dsimp only at hal hq hrow hfr hrd ih ⊢
  refine V_R (fun hR => ?_)
  have hTt : TxR τ tx := hT.fr (hfr 1 (by omega)) (hfr 2 (by omega))
  have cb := chr_b hTt q
  have cb1 := chr_b hTt (q + 1)
  refine V_iload (pc := 5) C (dk k_R_readNumbers 4 rfl) rfl ?_
  refine V_iconst (pc := 7) C (dk k_R_readNumbers 5 rfl) rfl ?_
  refine V_icmpge (pc := 8) C (dk k_R_readNumbers 6 rfl) 116 rfl (by first | exact hR _ _ | with_reducible assumption | exact ⟨by omega, by omega⟩) (by first | exact hR _ _ | with_reducible assumption | exact ⟨by omega, by omega⟩) (fun h1 => ?_) (fun h1 => ?_)
  · skip
    refine V_iconst (pc := 116) C (dk k_R_readNumbers 64 rfl) rfl ?_
    refine V_iret (pc := 117) C E (dk k_R_readNumbers 65 rfl) ?_
    rw [hrd, show 4 - acc.length = 0 by omega]
    exact ⟨rfl, hfr, fun ns n h => by cases h⟩
  · skip
    refine V_aload_n (pc := 11) C (dk k_R_readNumbers 7 rfl) rfl ?_
    refine V_aload_n (pc := 12) C (dk k_R_readNumbers 8 rfl) rfl ?_
    refine V_iload_n (pc := 13) C (dk k_R_readNumbers 9 rfl) rfl ?_
    refine V_callV (pc := 14) C (dk k_R_readNumbers 10 rfl) lk_R_38 cm_R_isFigure vm_R_isFigure (c_R_isFigure _ _ _ tx q hTt (by omega)) kq_3 rfl rfl rfl (Nat.le_of_ble_eq_true rfl) (Rm.mono hRm (by decide) (by decide)) ?_
    refine V_ifneB (pc := 17) C (dk k_R_readNumbers 11 rfl) 22 rfl (fun h2 => ?_) (fun h2 => ?_)
    · skip
      refine V_aload_n (pc := 22) C (dk k_R_readNumbers 14 rfl) rfl ?_
      refine V_iload_n (pc := 23) C (dk k_R_readNumbers 15 rfl) rfl ?_
      refine V_callV (pc := 24) C (dk k_R_readNumbers 16 rfl) lk_R_30 cm_L_letter vm_L_letter (c_let _ _ _ tx q hTt (by omega)) kq_1 rfl rfl rfl (Nat.le_of_ble_eq_true rfl) (Rm.mono hRm (by decide) (by decide)) ?_
      refine V_bipush (pc := 27) (n' := 48) C (dk k_R_readNumbers 17 rfl) rfl ?_
      refine V_isub (pc := 29) C (dk k_R_readNumbers 18 rfl) ?_
      refine V_istore (pc := 30) C (dk k_R_readNumbers 19 rfl) (by rw [hXN]; decide) ?_
      dsimp only [lst, lstL, lz, kill, Fin.val, Nat.reduceAdd]
      refine V_iinc (pc := 32) C (dk k_R_readNumbers 20 rfl) (by rw [hXN]; decide) rfl ?_
      dsimp only [lst, lstL, lz, kill, Fin.val, Nat.reduceAdd]
      refine V_aload_n (pc := 35) C (dk k_R_readNumbers 21 rfl) rfl ?_
      refine V_aload_n (pc := 36) C (dk k_R_readNumbers 22 rfl) rfl ?_
      refine V_iload_n (pc := 37) C (dk k_R_readNumbers 23 rfl) rfl ?_
      refine V_callV (pc := 38) C (dk k_R_readNumbers 24 rfl) lk_R_38 cm_R_isFigure vm_R_isFigure (c_R_isFigure _ _ _ tx (q + 1) hTt (by omega)) kq_3 rfl rfl rfl (Nat.le_of_ble_eq_true rfl) (Rm.mono hRm (by decide) (by decide)) ?_
      refine V_ifeqB (pc := 41) C (dk k_R_readNumbers 25 rfl) 63 rfl (fun h3 => ?_) (fun h3 => ?_)
      · skip
        first | (obtain ⟨v, i1, hn0, hv, hi1⟩ : ∃ (v : Int) (i1 : Nat), num tx q = some (v, i1) ∧ 10 * (chr tx q - 48) + chr tx (q + 1) - 48 = v ∧ (q : Int) + 1 + 1 = (i1 : Int) := ⟨_, _, num_2 (by assumption) (by assumption), rfl, by omega⟩; rw [hv, hi1]) | (obtain ⟨v, i1, hn0, hv, hi1⟩ : ∃ (v : Int) (i1 : Nat), num tx q = some (v, i1) ∧ chr tx q - 48 = v ∧ (q : Int) + 1 = (i1 : Int) := ⟨_, _, num_1 (by assumption) (by assumption), rfl, by omega⟩; rw [hv, hi1])
        have ⟨nb1, nb2, nb3, nb4⟩ := num_b hn0
        refine V_aload_n (pc := 63) C (dk k_R_readNumbers 37 rfl) rfl ?_
        refine V_getr (pc := 64) (o2 := 4) C (dk k_R_readNumbers 38 rfl) fl_R_9 kq_3 (by decide) rfl (by decide) rfl ?_
        refine V_iload (pc := 67) C (dk k_R_readNumbers 39 rfl) rfl ?_
        refine V_iload (pc := 69) C (dk k_R_readNumbers 40 rfl) rfl ?_
        refine V_callS0 (pc := 71) C (dk k_R_readNumbers 41 rfl) lk_R_42 cm_F_put sm_F_put (c_put _ _ _ (4) 4 (acc.length : Int) v kq_4 (by decide) (by omega) (by omega) ⟨by omega, by omega⟩) rfl rfl (Nat.le_of_ble_eq_true rfl) (Rm.mono hRm (by decide) (by decide)) ?_
        refine V_R (fun hR => ?_)
        refine V_aload_n (pc := 74) C (dk k_R_readNumbers 42 rfl) rfl ?_
        refine V_iload (pc := 75) C (dk k_R_readNumbers 43 rfl) rfl ?_
        refine V_iconst (pc := 77) C (dk k_R_readNumbers 44 rfl) rfl ?_
        refine V_iadd (pc := 78) C (dk k_R_readNumbers 45 rfl) ?_
        refine V_puti (pc := 79) (ji := 1) C (dk k_R_readNumbers 46 rfl) fl_R_46 fw_6_1 kq_3 (by decide) rfl rfl ⟨by omega, by omega⟩ ?_
        refine V_R (fun hR => ?_)
        have hT3 : TxR (up (up τ 4 (acc.length : Int) v) 3 1 ((acc.length : Int) + 1)) tx := hTt.fr (by rw [up_row _ _ _ (by decide), up_row _ _ _ (by decide)]) (by rw [up_row _ _ _ (by decide), up_row _ _ _ (by decide)])
        have hfr2 : Fr 3 2 σ (up (up τ 4 (acc.length : Int) v) 3 1 ((acc.length : Int) + 1)) := (hfr.up _ _ (by omega) (by omega)).up _ _ (by omega) (by omega)
        have hrow2 : ∀ (k : Nat) (u : Int), (acc ++ [v])[k]? = some u → up (up τ 4 (acc.length : Int) v) 3 1 ((acc.length : Int) + 1) 4 k = u ∧ 0 ≤ u ∧ u ≤ 99 := fun k u hk => by (rcases rowApp hk with ⟨a, b⟩ | ⟨a, b⟩; (simp (disch := omega) only [up_ne1, up_ne2]; exact hrow k u b); (subst b; rw [a]; simp (disch := omega) only [up_ne1, up_at]; exact ⟨trivial, nb3, nb4⟩))
        have cb2 := chr_b hTt i1
        refine V_aload_n (pc := 82) C (dk k_R_readNumbers 47 rfl) rfl ?_
        refine V_iload_n (pc := 83) C (dk k_R_readNumbers 48 rfl) rfl ?_
        refine V_callV (pc := 84) C (dk k_R_readNumbers 49 rfl) lk_R_30 cm_L_letter vm_L_letter (c_let _ _ _ tx i1 hT3 (by omega)) kq_1 rfl rfl rfl (Nat.le_of_ble_eq_true rfl) (Rm.mono hRm (by decide) (by decide)) ?_
        refine V_istore (pc := 87) C (dk k_R_readNumbers 50 rfl) (by rw [hXN]; decide) ?_
        dsimp only [lst, lstL, lz, kill, Fin.val, Nat.reduceAdd]
        refine V_iinc (pc := 89) C (dk k_R_readNumbers 51 rfl) (by rw [hXN]; decide) rfl ?_
        dsimp only [lst, lstL, lz, kill, Fin.val, Nat.reduceAdd]
        refine V_iload (pc := 92) C (dk k_R_readNumbers 52 rfl) rfl ?_
        refine V_bipush (pc := 94) (n' := 59) C (dk k_R_readNumbers 53 rfl) rfl ?_
        refine V_icmpne (pc := 96) C (dk k_R_readNumbers 54 rfl) 101 rfl (by first | exact hR _ _ | with_reducible assumption | exact ⟨by omega, by omega⟩) (by first | exact hR _ _ | with_reducible assumption | exact ⟨by omega, by omega⟩) (fun h4 => ?_) (fun h4 => ?_)
        · skip
          refine V_iload (pc := 101) C (dk k_R_readNumbers 57 rfl) rfl ?_
          refine V_bipush (pc := 103) (n' := 44) C (dk k_R_readNumbers 58 rfl) rfl ?_
          refine V_icmpeq (pc := 105) C (dk k_R_readNumbers 59 rfl) 110 rfl (by first | exact hR _ _ | with_reducible assumption | exact ⟨by omega, by omega⟩) (by first | exact hR _ _ | with_reducible assumption | exact ⟨by omega, by omega⟩) (fun h5 => ?_) (fun h5 => ?_)
          · skip
            refine V_iinc (pc := 110) C (dk k_R_readNumbers 62 rfl) (by rw [hXN]; decide) rfl ?_
            dsimp only [lst, lstL, lz, kill, Fin.val, Nat.reduceAdd]
            refine V_goto (pc := 113) C (dk k_R_readNumbers 63 rfl) 5 rfl ?_
            refine V_fg 5 ?_
            dsimp only [fg]
            refine V_fg 6 ?_
            dsimp only [fg]
            refine V_eq (ih (acc ++ [v], (i1 + 1, up (up τ 4 (acc.length : Int) v) 3 1 ((acc.length : Int) + 1))) ⟨by simp only [List.length_append, List.length_singleton]; omega, by simp only [List.length_append, List.length_singleton]; omega, hrow2, hfr2, ?_⟩ (by simp only [List.length_append, List.length_singleton]; omega)) (by simp only [List.length_append, List.length_singleton]; rfl) rfl rfl
            dsimp only
            rw [hrd, show 4 - acc.length = (4 - (acc.length + 1)) + 1 by omega, rdN_s, hn0]
            dsimp only
            rw [if_neg (by assumption), if_pos (by assumption), List.length_append, List.length_singleton]
          · skip
            refine V_iconst (pc := 108) C (dk k_R_readNumbers 60 rfl) rfl ?_
            refine V_iret (pc := 109) C E (dk k_R_readNumbers 61 rfl) ?_
            rw [hrd, show 4 - acc.length = (4 - (acc.length + 1)) + 1 by omega, rdN_s, hn0]
            dsimp only
            rw [if_neg (by assumption), if_neg (by assumption)]
            exact ⟨rfl, hfr2, fun ns n h => by cases h⟩
        · skip
          refine V_iload_n (pc := 99) C (dk k_R_readNumbers 55 rfl) rfl ?_
          refine V_iret (pc := 100) C E (dk k_R_readNumbers 56 rfl) ?_
          rw [hrd, show 4 - acc.length = (4 - (acc.length + 1)) + 1 by omega, rdN_s, hn0]
          dsimp only
          rw [if_pos (by assumption)]
          refine ⟨rfl, hfr2, fun ns n h => ?_⟩
          cases h
          exact ⟨by rw [up_at, List.length_append]; rfl, by rw [List.length_append, List.length_singleton]; omega, hrow2⟩
      · skip
        refine V_bipush (pc := 44) (n' := 10) C (dk k_R_readNumbers 26 rfl) rfl ?_
        refine V_iload (pc := 46) C (dk k_R_readNumbers 27 rfl) rfl ?_
        refine V_imul (pc := 48) C (dk k_R_readNumbers 28 rfl) ?_
        refine V_aload_n (pc := 49) C (dk k_R_readNumbers 29 rfl) rfl ?_
        refine V_iload_n (pc := 50) C (dk k_R_readNumbers 30 rfl) rfl ?_
        refine V_callV (pc := 51) C (dk k_R_readNumbers 31 rfl) lk_R_30 cm_L_letter vm_L_letter (c_let _ _ _ tx (q + 1) hTt (by omega)) kq_1 rfl rfl rfl (Nat.le_of_ble_eq_true rfl) (Rm.mono hRm (by decide) (by decide)) ?_
        refine V_iadd (pc := 54) C (dk k_R_readNumbers 32 rfl) ?_
        refine V_bipush (pc := 55) (n' := 48) C (dk k_R_readNumbers 33 rfl) rfl ?_
        refine V_isub (pc := 57) C (dk k_R_readNumbers 34 rfl) ?_
        refine V_istore (pc := 58) C (dk k_R_readNumbers 35 rfl) (by rw [hXN]; decide) ?_
        dsimp only [lst, lstL, lz, kill, Fin.val, Nat.reduceAdd]
        refine V_iinc (pc := 60) C (dk k_R_readNumbers 36 rfl) (by rw [hXN]; decide) rfl ?_
        dsimp only [lst, lstL, lz, kill, Fin.val, Nat.reduceAdd]
        first | (obtain ⟨v, i1, hn0, hv, hi1⟩ : ∃ (v : Int) (i1 : Nat), num tx q = some (v, i1) ∧ 10 * (chr tx q - 48) + chr tx (q + 1) - 48 = v ∧ (q : Int) + 1 + 1 = (i1 : Int) := ⟨_, _, num_2 (by assumption) (by assumption), rfl, by omega⟩; rw [hv, hi1]) | (obtain ⟨v, i1, hn0, hv, hi1⟩ : ∃ (v : Int) (i1 : Nat), num tx q = some (v, i1) ∧ chr tx q - 48 = v ∧ (q : Int) + 1 = (i1 : Int) := ⟨_, _, num_1 (by assumption) (by assumption), rfl, by omega⟩; rw [hv, hi1])
        have ⟨nb1, nb2, nb3, nb4⟩ := num_b hn0
        refine V_aload_n (pc := 63) C (dk k_R_readNumbers 37 rfl) rfl ?_
        refine V_getr (pc := 64) (o2 := 4) C (dk k_R_readNumbers 38 rfl) fl_R_9 kq_3 (by decide) rfl (by decide) rfl ?_
        refine V_iload (pc := 67) C (dk k_R_readNumbers 39 rfl) rfl ?_
        refine V_iload (pc := 69) C (dk k_R_readNumbers 40 rfl) rfl ?_
        refine V_callS0 (pc := 71) C (dk k_R_readNumbers 41 rfl) lk_R_42 cm_F_put sm_F_put (c_put _ _ _ (4) 4 (acc.length : Int) v kq_4 (by decide) (by omega) (by omega) ⟨by omega, by omega⟩) rfl rfl (Nat.le_of_ble_eq_true rfl) (Rm.mono hRm (by decide) (by decide)) ?_
        refine V_R (fun hR => ?_)
        refine V_aload_n (pc := 74) C (dk k_R_readNumbers 42 rfl) rfl ?_
        refine V_iload (pc := 75) C (dk k_R_readNumbers 43 rfl) rfl ?_
        refine V_iconst (pc := 77) C (dk k_R_readNumbers 44 rfl) rfl ?_
        refine V_iadd (pc := 78) C (dk k_R_readNumbers 45 rfl) ?_
        refine V_puti (pc := 79) (ji := 1) C (dk k_R_readNumbers 46 rfl) fl_R_46 fw_6_1 kq_3 (by decide) rfl rfl ⟨by omega, by omega⟩ ?_
        refine V_R (fun hR => ?_)
        have hT3 : TxR (up (up τ 4 (acc.length : Int) v) 3 1 ((acc.length : Int) + 1)) tx := hTt.fr (by rw [up_row _ _ _ (by decide), up_row _ _ _ (by decide)]) (by rw [up_row _ _ _ (by decide), up_row _ _ _ (by decide)])
        have hfr2 : Fr 3 2 σ (up (up τ 4 (acc.length : Int) v) 3 1 ((acc.length : Int) + 1)) := (hfr.up _ _ (by omega) (by omega)).up _ _ (by omega) (by omega)
        have hrow2 : ∀ (k : Nat) (u : Int), (acc ++ [v])[k]? = some u → up (up τ 4 (acc.length : Int) v) 3 1 ((acc.length : Int) + 1) 4 k = u ∧ 0 ≤ u ∧ u ≤ 99 := fun k u hk => by (rcases rowApp hk with ⟨a, b⟩ | ⟨a, b⟩; (simp (disch := omega) only [up_ne1, up_ne2]; exact hrow k u b); (subst b; rw [a]; simp (disch := omega) only [up_ne1, up_at]; exact ⟨trivial, nb3, nb4⟩))
        have cb2 := chr_b hTt i1
        refine V_aload_n (pc := 82) C (dk k_R_readNumbers 47 rfl) rfl ?_
        refine V_iload_n (pc := 83) C (dk k_R_readNumbers 48 rfl) rfl ?_
        refine V_callV (pc := 84) C (dk k_R_readNumbers 49 rfl) lk_R_30 cm_L_letter vm_L_letter (c_let _ _ _ tx i1 hT3 (by omega)) kq_1 rfl rfl rfl (Nat.le_of_ble_eq_true rfl) (Rm.mono hRm (by decide) (by decide)) ?_
        refine V_istore (pc := 87) C (dk k_R_readNumbers 50 rfl) (by rw [hXN]; decide) ?_
        dsimp only [lst, lstL, lz, kill, Fin.val, Nat.reduceAdd]
        refine V_iinc (pc := 89) C (dk k_R_readNumbers 51 rfl) (by rw [hXN]; decide) rfl ?_
        dsimp only [lst, lstL, lz, kill, Fin.val, Nat.reduceAdd]
        refine V_iload (pc := 92) C (dk k_R_readNumbers 52 rfl) rfl ?_
        refine V_bipush (pc := 94) (n' := 59) C (dk k_R_readNumbers 53 rfl) rfl ?_
        refine V_icmpne (pc := 96) C (dk k_R_readNumbers 54 rfl) 101 rfl (by first | exact hR _ _ | with_reducible assumption | exact ⟨by omega, by omega⟩) (by first | exact hR _ _ | with_reducible assumption | exact ⟨by omega, by omega⟩) (fun h6 => ?_) (fun h6 => ?_)
        · skip
          refine V_iload (pc := 101) C (dk k_R_readNumbers 57 rfl) rfl ?_
          refine V_bipush (pc := 103) (n' := 44) C (dk k_R_readNumbers 58 rfl) rfl ?_
          refine V_icmpeq (pc := 105) C (dk k_R_readNumbers 59 rfl) 110 rfl (by first | exact hR _ _ | with_reducible assumption | exact ⟨by omega, by omega⟩) (by first | exact hR _ _ | with_reducible assumption | exact ⟨by omega, by omega⟩) (fun h7 => ?_) (fun h7 => ?_)
          · skip
            refine V_iinc (pc := 110) C (dk k_R_readNumbers 62 rfl) (by rw [hXN]; decide) rfl ?_
            dsimp only [lst, lstL, lz, kill, Fin.val, Nat.reduceAdd]
            refine V_goto (pc := 113) C (dk k_R_readNumbers 63 rfl) 5 rfl ?_
            refine V_fg 5 ?_
            dsimp only [fg]
            refine V_fg 6 ?_
            dsimp only [fg]
            refine V_eq (ih (acc ++ [v], (i1 + 1, up (up τ 4 (acc.length : Int) v) 3 1 ((acc.length : Int) + 1))) ⟨by simp only [List.length_append, List.length_singleton]; omega, by simp only [List.length_append, List.length_singleton]; omega, hrow2, hfr2, ?_⟩ (by simp only [List.length_append, List.length_singleton]; omega)) (by simp only [List.length_append, List.length_singleton]; rfl) rfl rfl
            dsimp only
            rw [hrd, show 4 - acc.length = (4 - (acc.length + 1)) + 1 by omega, rdN_s, hn0]
            dsimp only
            rw [if_neg (by assumption), if_pos (by assumption), List.length_append, List.length_singleton]
          · skip
            refine V_iconst (pc := 108) C (dk k_R_readNumbers 60 rfl) rfl ?_
            refine V_iret (pc := 109) C E (dk k_R_readNumbers 61 rfl) ?_
            rw [hrd, show 4 - acc.length = (4 - (acc.length + 1)) + 1 by omega, rdN_s, hn0]
            dsimp only
            rw [if_neg (by assumption), if_neg (by assumption)]
            exact ⟨rfl, hfr2, fun ns n h => by cases h⟩
        · skip
          refine V_iload_n (pc := 99) C (dk k_R_readNumbers 55 rfl) rfl ?_
          refine V_iret (pc := 100) C E (dk k_R_readNumbers 56 rfl) ?_
          rw [hrd, show 4 - acc.length = (4 - (acc.length + 1)) + 1 by omega, rdN_s, hn0]
          dsimp only
          rw [if_pos (by assumption)]
          refine ⟨rfl, hfr2, fun ns n h => ?_⟩
          cases h
          exact ⟨by rw [up_at, List.length_append]; rfl, by rw [List.length_append, List.length_singleton]; omega, hrow2⟩
    · skip
      refine V_iconst (pc := 20) C (dk k_R_readNumbers 12 rfl) rfl ?_
      refine V_iret (pc := 21) C E (dk k_R_readNumbers 13 rfl) ?_
      have hn0 : num tx q = none := num_0 (by assumption)
      rw [hrd, show 4 - acc.length = (4 - (acc.length + 1)) + 1 by omega, rdN_s, hn0]
      exact ⟨rfl, hfr, fun ns n h => by cases h⟩

theorem NsR.row {σ σ' : Wd} {ns : List Int} (h : NsR σ ns) (h3 : σ' 3 = σ 3) (h4 : σ' 4 = σ 4) : NsR σ' ns := by
  unfold NsR; rw [h3, h4]; exact h

def i_R_tell : List (Nat × (Instr × Nat)) := [(0, (.aload_n 0, 1)), (1, (.getfield 9, 3)), (4, (.iconst 0, 1)), (5, (.invokestatic 53, 3)), (8, (.istore_n 3, 1)), (9, (.aload_n 0, 1)), (10, (.getfield 9, 3)), (13, (.iconst 1, 1)), (14, (.invokestatic 53, 3)), (17, (.istore 4, 2)), (19, (.iload_n 2, 1)), (20, (.lookupswitch 152 #[(97, 44), (115, 128), (117, 66), (120, 106)], 44)), (64, (.aload_n 0, 1)), (65, (.getfield 46, 3)), (68, (.iconst 1, 1)), (69, (.if_icmp .ne 15, 3)), (72, (.aload_n 1, 1)), (73, (.iload_n 3, 1)), (74, (.invokevirtual 57, 3)), (77, (.ifCond .eq 7, 3)), (80, (.iconst 1, 1)), (81, (.goto 4, 3)), (84, (.iconst 0, 1)), (85, (.ireturn, 1)), (86, (.aload_n 0, 1)), (87, (.getfield 46, 3)), (90, (.iconst 4, 1)), (91, (.if_icmp .ne 33, 3)), (94, (.aload_n 1, 1)), (95, (.iload_n 3, 1)), (96, (.iload 4, 2)), (98, (.aload_n 0, 1)), (99, (.getfield 9, 3)), (102, (.iconst 2, 1)), (103, (.invokestatic 53, 3)), (106, (.aload_n 0, 1)), (107, (.getfield 9, 3)), (110, (.iconst 3, 1)), (111, (.invokestatic 53, 3)), (114, (.invokevirtual 61, 3)), (117, (.ifCond .eq 7, 3)), (120, (.iconst 1, 1)), (121, (.goto 4, 3)), (124, (.iconst 0, 1)), (125, (.ireturn, 1)), (126, (.aload_n 0, 1)), (127, (.getfield 46, 3)), (130, (.iconst 1, 1)), (131, (.if_icmp .ne 15, 3)), (134, (.aload_n 1, 1)), (135, (.iload_n 3, 1)), (136, (.invokevirtual 65, 3)), (139, (.ifCond .eq 7, 3)), (142, (.iconst 1, 1)), (143, (.goto 4, 3)), (146, (.iconst 0, 1)), (147, (.ireturn, 1)), (148, (.aload_n 0, 1)), (149, (.getfield 46, 3)), (152, (.iconst 2, 1)), (153, (.if_icmp .ne 17, 3)), (156, (.aload_n 1, 1)), (157, (.iload_n 3, 1)), (158, (.iload 4, 2)), (160, (.invokevirtual 68, 3)), (163, (.ifCond .eq 7, 3)), (166, (.iconst 1, 1)), (167, (.goto 4, 3)), (170, (.iconst 0, 1)), (171, (.ireturn, 1)), (172, (.iconst 0, 1)), (173, (.ireturn, 1))]
theorem k_R_tell : i_R_tell.all (fun q => decide (decode b_R_tell q.1 = .ok q.2)) = true := by decide +kernel

set_option maxHeartbeats 1000000 in
set_option maxRecDepth 20000 in
theorem c_R_tell (l : Launch) (G : GE) (σ : Wd) (p : Nat) (d : DS) (c : Int) (ns : List Int) (hd : DR σ p d) (hN : NsR σ ns) (hc : inR c) : Ct l G y_R_tell b_R_tell 5 (some (.boolean)) 2 47 [vR 3, vR p, vI c] σ (Rt (some (vI (if (tell d c ns).isSome = true then 1 else 0))) (fun σ' => (∀ d', tell d c ns = some d' → DR σ' p d') ∧ Fr p 7 σ σ')) := by
  refine Ct.of cm_R_tell (Nat.le_of_ble_eq_true rfl) ?_
  intro X hXl hXG hXN hRm C E
  subst hXl; subst hXG
  have ⟨hc_1, hc_2⟩ := hc
  show V X 0 [some (vR 3), some (vR p), some (vI c), none, none] [] σ
  refine V_R (fun hR => ?_)
  obtain ⟨hp, ⟨a0, a1⟩, ⟨b0, b1⟩, ⟨c0, c1⟩, ⟨s0, s1⟩, r1, r2, r3⟩ := id hd
  obtain ⟨hp_1, hp_2, hp_3, hp_4, hp_5, hp_6⟩ := kd_P hp
  obtain ⟨n1, n2, n3⟩ := id hN
  refine V_aload_n (pc := 0) C (dk k_R_tell 0 rfl) rfl ?_
  refine V_getr (pc := 1) (o2 := 4) C (dk k_R_tell 1 rfl) fl_R_9 kq_3 (by decide) rfl (by decide) rfl ?_
  refine V_iconst (pc := 4) C (dk k_R_tell 2 rfl) rfl ?_
  refine V_callS (pc := 5) C (dk k_R_tell 3 rfl) lk_R_53 cm_F_at sm_F_at (c_at _ _ _ (4) 4 0 kq_4 (by decide) (by omega) (by omega)) rfl rfl (Nat.le_of_ble_eq_true rfl) (Rm.mono hRm (by decide) (by decide)) ?_
  refine V_istore_n (pc := 8) C (dk k_R_tell 4 rfl) (by rw [hXN]; decide) ?_
  dsimp only [lst, lstL, lz, kill, Fin.val, Nat.reduceAdd]
  refine V_aload_n (pc := 9) C (dk k_R_tell 5 rfl) rfl ?_
  refine V_getr (pc := 10) (o2 := 4) C (dk k_R_tell 6 rfl) fl_R_9 kq_3 (by decide) rfl (by decide) rfl ?_
  refine V_iconst (pc := 13) C (dk k_R_tell 7 rfl) rfl ?_
  refine V_callS (pc := 14) C (dk k_R_tell 8 rfl) lk_R_53 cm_F_at sm_F_at (c_at _ _ _ (4) 4 1 kq_4 (by decide) (by omega) (by omega)) rfl rfl (Nat.le_of_ble_eq_true rfl) (Rm.mono hRm (by decide) (by decide)) ?_
  refine V_istore (pc := 17) C (dk k_R_tell 9 rfl) (by rw [hXN]; decide) ?_
  dsimp only [lst, lstL, lz, kill, Fin.val, Nat.reduceAdd]
  refine V_iload_n (pc := 19) C (dk k_R_tell 10 rfl) rfl ?_
  refine V_lookup (pc := 20) C (dk k_R_tell 11 rfl) (by decide) (by first | exact hR _ _ | with_reducible assumption | exact ⟨by omega, by omega⟩) ?_
  by_cases h2 : c = 97
  · refine ⟨44, 64, by rw [h2]; rfl, rfl, ?_⟩
    refine V_aload_n (pc := 64) C (dk k_R_tell 12 rfl) rfl ?_
    refine V_geti (pc := 65) (ji := 1) C (dk k_R_tell 13 rfl) fl_R_46 kq_3 (by decide) rfl rfl ?_
    refine V_iconst (pc := 68) C (dk k_R_tell 14 rfl) rfl ?_
    refine V_icmpne (pc := 69) C (dk k_R_tell 15 rfl) 84 rfl (by first | exact hR _ _ | with_reducible assumption | exact ⟨by omega, by omega⟩) (by first | exact hR _ _ | with_reducible assumption | exact ⟨by omega, by omega⟩) (fun h3 => ?_) (fun h3 => ?_)
    · skip
      refine V_iconst (pc := 84) C (dk k_R_tell 22 rfl) rfl ?_
      refine V_zret (pc := 85) C (by first | exact Or.inl rfl | exact Or.inr rfl | (split <;> first | exact Or.inl rfl | exact Or.inr rfl) | omega) E (dk k_R_tell 23 rfl) ?_
      first | (have ht : tell d c ns = none := by (unfold tell; rw [if_pos (by omega), if_neg (fun z => by omega)])) | (have ht : tell d c ns = some (dM d ++ [ns.getD 0 0], d.2) := by (unfold tell; rw [if_pos (by omega), if_pos (by omega)]))
      rw [ht]
      refine ⟨rfl, ?_, ?_⟩
      · intro d' h
        first | (cases h; done) | (cases h; exact hq1.1 (by omega))
      · first | exact hq1.2 | exact Fr.rf _ _ _
    · skip
      have ⟨g1, g2, g3⟩ := hN.at (k := 0) (by omega)
      have g1 : σ 4 0 = ns.getD 0 0 := g1
      rw [g1]
      refine V_aload_n (pc := 72) C (dk k_R_tell 16 rfl) rfl ?_
      refine V_iload_n (pc := 73) C (dk k_R_tell 17 rfl) rfl ?_
      refine V_callVr (pc := 74) C (dk k_R_tell 18 rfl) lk_R_57 cm_P_addPerson vm_P_addPerson (c_P_addPerson _ _ _ p d (ns.getD 0 0) hd ⟨by omega, by omega⟩) hp rfl rfl rfl (Nat.le_of_ble_eq_true rfl) (Rm.mono hRm (by decide) (by decide)) (fun τ1 hq1 => ?_)
      refine V_R (fun hR => ?_)
      refine V_ifeqB (pc := 77) C (dk k_R_tell 19 rfl) 84 rfl (fun h4 => ?_) (fun h4 => ?_)
      · skip
        refine V_iconst (pc := 84) C (dk k_R_tell 22 rfl) rfl ?_
        refine V_zret (pc := 85) C (by first | exact Or.inl rfl | exact Or.inr rfl | (split <;> first | exact Or.inl rfl | exact Or.inr rfl) | omega) E (dk k_R_tell 23 rfl) ?_
        first | (have ht : tell d c ns = none := by (unfold tell; rw [if_pos (by omega), if_neg (fun z => by omega)])) | (have ht : tell d c ns = some (dM d ++ [ns.getD 0 0], d.2) := by (unfold tell; rw [if_pos (by omega), if_pos (by omega)]))
        rw [ht]
        refine ⟨rfl, ?_, ?_⟩
        · intro d' h
          first | (cases h; done) | (cases h; exact hq1.1 (by omega))
        · first | exact hq1.2 | exact Fr.rf _ _ _
      · skip
        refine V_iconst (pc := 80) C (dk k_R_tell 20 rfl) rfl ?_
        refine V_goto (pc := 81) C (dk k_R_tell 21 rfl) 85 rfl ?_
        refine V_zret (pc := 85) C (by first | exact Or.inl rfl | exact Or.inr rfl | (split <;> first | exact Or.inl rfl | exact Or.inr rfl) | omega) E (dk k_R_tell 23 rfl) ?_
        first | (have ht : tell d c ns = none := by (unfold tell; rw [if_pos (by omega), if_neg (fun z => by omega)])) | (have ht : tell d c ns = some (dM d ++ [ns.getD 0 0], d.2) := by (unfold tell; rw [if_pos (by omega), if_pos (by omega)]))
        rw [ht]
        refine ⟨rfl, ?_, ?_⟩
        · intro d' h
          first | (cases h; done) | (cases h; exact hq1.1 (by omega))
        · first | exact hq1.2 | exact Fr.rf _ _ _
  by_cases h5 : c = 115
  · refine ⟨128, 148, by rw [h5]; rfl, rfl, ?_⟩
    refine V_aload_n (pc := 148) C (dk k_R_tell 57 rfl) rfl ?_
    refine V_geti (pc := 149) (ji := 1) C (dk k_R_tell 58 rfl) fl_R_46 kq_3 (by decide) rfl rfl ?_
    refine V_iconst (pc := 152) C (dk k_R_tell 59 rfl) rfl ?_
    refine V_icmpne (pc := 153) C (dk k_R_tell 60 rfl) 170 rfl (by first | exact hR _ _ | with_reducible assumption | exact ⟨by omega, by omega⟩) (by first | exact hR _ _ | with_reducible assumption | exact ⟨by omega, by omega⟩) (fun h6 => ?_) (fun h6 => ?_)
    · skip
      refine V_iconst (pc := 170) C (dk k_R_tell 68 rfl) rfl ?_
      refine V_zret (pc := 171) C (by first | exact Or.inl rfl | exact Or.inr rfl | (split <;> first | exact Or.inl rfl | exact Or.inr rfl) | omega) E (dk k_R_tell 69 rfl) ?_
      first | (have ht : tell d c ns = none := by (unfold tell; rw [if_neg (by omega), if_neg (by omega), if_neg (by omega), if_pos (by omega), if_neg (fun z => by omega)])) | (have ht : tell d c ns = some (dM d, (dT d, (dX d, (ns.getD 0 0, ns.getD 1 0)))) := by (unfold tell; rw [if_neg (by omega), if_neg (by omega), if_neg (by omega), if_pos (by omega), if_pos (by omega)]))
      rw [ht]
      refine ⟨rfl, ?_, ?_⟩
      · intro d' h
        first | (cases h; done) | (cases h; exact hq1.1 (by omega))
      · first | exact hq1.2 | exact Fr.rf _ _ _
    · skip
      have ⟨g1, g2, g3⟩ := hN.at (k := 0) (by omega)
      have ⟨g4, g5, g6⟩ := hN.at (k := 1) (by omega)
      have g1 : σ 4 0 = ns.getD 0 0 := g1
      have g4 : σ 4 1 = ns.getD 1 0 := g4
      rw [g1, g4]
      refine V_aload_n (pc := 156) C (dk k_R_tell 61 rfl) rfl ?_
      refine V_iload_n (pc := 157) C (dk k_R_tell 62 rfl) rfl ?_
      refine V_iload (pc := 158) C (dk k_R_tell 63 rfl) rfl ?_
      refine V_callVr (pc := 160) C (dk k_R_tell 64 rfl) lk_R_68 cm_P_setShop vm_P_setShop (c_P_setShop _ _ _ p d (ns.getD 0 0) (ns.getD 1 0) hd ⟨by omega, by omega⟩ ⟨by omega, by omega⟩) hp rfl rfl rfl (Nat.le_of_ble_eq_true rfl) (Rm.mono hRm (by decide) (by decide)) (fun τ1 hq1 => ?_)
      refine V_R (fun hR => ?_)
      refine V_ifeqB (pc := 163) C (dk k_R_tell 65 rfl) 170 rfl (fun h7 => ?_) (fun h7 => ?_)
      · skip
        refine V_iconst (pc := 170) C (dk k_R_tell 68 rfl) rfl ?_
        refine V_zret (pc := 171) C (by first | exact Or.inl rfl | exact Or.inr rfl | (split <;> first | exact Or.inl rfl | exact Or.inr rfl) | omega) E (dk k_R_tell 69 rfl) ?_
        first | (have ht : tell d c ns = none := by (unfold tell; rw [if_neg (by omega), if_neg (by omega), if_neg (by omega), if_pos (by omega), if_neg (fun z => by omega)])) | (have ht : tell d c ns = some (dM d, (dT d, (dX d, (ns.getD 0 0, ns.getD 1 0)))) := by (unfold tell; rw [if_neg (by omega), if_neg (by omega), if_neg (by omega), if_pos (by omega), if_pos (by omega)]))
        rw [ht]
        refine ⟨rfl, ?_, ?_⟩
        · intro d' h
          first | (cases h; done) | (cases h; exact hq1.1 (by omega))
        · first | exact hq1.2 | exact Fr.rf _ _ _
      · skip
        refine V_iconst (pc := 166) C (dk k_R_tell 66 rfl) rfl ?_
        refine V_goto (pc := 167) C (dk k_R_tell 67 rfl) 171 rfl ?_
        refine V_zret (pc := 171) C (by first | exact Or.inl rfl | exact Or.inr rfl | (split <;> first | exact Or.inl rfl | exact Or.inr rfl) | omega) E (dk k_R_tell 69 rfl) ?_
        first | (have ht : tell d c ns = none := by (unfold tell; rw [if_neg (by omega), if_neg (by omega), if_neg (by omega), if_pos (by omega), if_neg (fun z => by omega)])) | (have ht : tell d c ns = some (dM d, (dT d, (dX d, (ns.getD 0 0, ns.getD 1 0)))) := by (unfold tell; rw [if_neg (by omega), if_neg (by omega), if_neg (by omega), if_pos (by omega), if_pos (by omega)]))
        rw [ht]
        refine ⟨rfl, ?_, ?_⟩
        · intro d' h
          first | (cases h; done) | (cases h; exact hq1.1 (by omega))
        · first | exact hq1.2 | exact Fr.rf _ _ _
  by_cases h8 : c = 117
  · refine ⟨66, 86, by rw [h8]; rfl, rfl, ?_⟩
    refine V_aload_n (pc := 86) C (dk k_R_tell 24 rfl) rfl ?_
    refine V_geti (pc := 87) (ji := 1) C (dk k_R_tell 25 rfl) fl_R_46 kq_3 (by decide) rfl rfl ?_
    refine V_iconst (pc := 90) C (dk k_R_tell 26 rfl) rfl ?_
    refine V_icmpne (pc := 91) C (dk k_R_tell 27 rfl) 124 rfl (by first | exact hR _ _ | with_reducible assumption | exact ⟨by omega, by omega⟩) (by first | exact hR _ _ | with_reducible assumption | exact ⟨by omega, by omega⟩) (fun h9 => ?_) (fun h9 => ?_)
    · skip
      refine V_iconst (pc := 124) C (dk k_R_tell 43 rfl) rfl ?_
      refine V_zret (pc := 125) C (by first | exact Or.inl rfl | exact Or.inr rfl | (split <;> first | exact Or.inl rfl | exact Or.inr rfl) | omega) E (dk k_R_tell 44 rfl) ?_
      first | (have ht : tell d c ns = none := by (unfold tell; rw [if_neg (by omega), if_pos (by omega), if_neg (fun z => by omega)])) | (have ht : tell d c ns = some (dM d, (dT d ++ [(ns.getD 0 0, (ns.getD 1 0, (ns.getD 2 0, ns.getD 3 0)))], d.2.2)) := by (unfold tell; rw [if_neg (by omega), if_pos (by omega), if_pos (by omega)]))
      rw [ht]
      refine ⟨rfl, ?_, ?_⟩
      · intro d' h
        first | (cases h; done) | (cases h; exact hq1.1 (by omega))
      · first | exact hq1.2 | exact Fr.rf _ _ _
    · skip
      have ⟨g1, g2, g3⟩ := hN.at (k := 0) (by omega)
      have ⟨g4, g5, g6⟩ := hN.at (k := 1) (by omega)
      have ⟨g7, g8, g9⟩ := hN.at (k := 2) (by omega)
      have ⟨u1, u2, u3⟩ := hN.at (k := 3) (by omega)
      have g1 : σ 4 0 = ns.getD 0 0 := g1
      have g4 : σ 4 1 = ns.getD 1 0 := g4
      have g7 : σ 4 2 = ns.getD 2 0 := g7
      have u1 : σ 4 3 = ns.getD 3 0 := u1
      rw [g1, g4]
      refine V_aload_n (pc := 94) C (dk k_R_tell 28 rfl) rfl ?_
      refine V_iload_n (pc := 95) C (dk k_R_tell 29 rfl) rfl ?_
      refine V_iload (pc := 96) C (dk k_R_tell 30 rfl) rfl ?_
      refine V_aload_n (pc := 98) C (dk k_R_tell 31 rfl) rfl ?_
      refine V_getr (pc := 99) (o2 := 4) C (dk k_R_tell 32 rfl) fl_R_9 kq_3 (by decide) rfl (by decide) rfl ?_
      refine V_iconst (pc := 102) C (dk k_R_tell 33 rfl) rfl ?_
      refine V_callS (pc := 103) C (dk k_R_tell 34 rfl) lk_R_53 cm_F_at sm_F_at (c_at _ _ _ (4) 4 2 kq_4 (by decide) (by omega) (by omega)) rfl rfl (Nat.le_of_ble_eq_true rfl) (Rm.mono hRm (by decide) (by decide)) ?_
      rw [g7]
      refine V_aload_n (pc := 106) C (dk k_R_tell 35 rfl) rfl ?_
      refine V_getr (pc := 107) (o2 := 4) C (dk k_R_tell 36 rfl) fl_R_9 kq_3 (by decide) rfl (by decide) rfl ?_
      refine V_iconst (pc := 110) C (dk k_R_tell 37 rfl) rfl ?_
      refine V_callS (pc := 111) C (dk k_R_tell 38 rfl) lk_R_53 cm_F_at sm_F_at (c_at _ _ _ (4) 4 3 kq_4 (by decide) (by omega) (by omega)) rfl rfl (Nat.le_of_ble_eq_true rfl) (Rm.mono hRm (by decide) (by decide)) ?_
      rw [u1]
      refine V_callVr (pc := 114) C (dk k_R_tell 39 rfl) lk_R_61 cm_P_addThing vm_P_addThing (c_P_addThing _ _ _ p d (ns.getD 0 0) (ns.getD 1 0) (ns.getD 2 0) (ns.getD 3 0) hd ⟨by omega, by omega⟩ ⟨by omega, by omega⟩ ⟨by omega, by omega⟩ ⟨by omega, by omega⟩) hp rfl rfl rfl (Nat.le_of_ble_eq_true rfl) (Rm.mono hRm (by decide) (by decide)) (fun τ1 hq1 => ?_)
      refine V_R (fun hR => ?_)
      refine V_ifeqB (pc := 117) C (dk k_R_tell 40 rfl) 124 rfl (fun h10 => ?_) (fun h10 => ?_)
      · skip
        refine V_iconst (pc := 124) C (dk k_R_tell 43 rfl) rfl ?_
        refine V_zret (pc := 125) C (by first | exact Or.inl rfl | exact Or.inr rfl | (split <;> first | exact Or.inl rfl | exact Or.inr rfl) | omega) E (dk k_R_tell 44 rfl) ?_
        first | (have ht : tell d c ns = none := by (unfold tell; rw [if_neg (by omega), if_pos (by omega), if_neg (fun z => by omega)])) | (have ht : tell d c ns = some (dM d, (dT d ++ [(ns.getD 0 0, (ns.getD 1 0, (ns.getD 2 0, ns.getD 3 0)))], d.2.2)) := by (unfold tell; rw [if_neg (by omega), if_pos (by omega), if_pos (by omega)]))
        rw [ht]
        refine ⟨rfl, ?_, ?_⟩
        · intro d' h
          first | (cases h; done) | (cases h; exact hq1.1 (by omega))
        · first | exact hq1.2 | exact Fr.rf _ _ _
      · skip
        refine V_iconst (pc := 120) C (dk k_R_tell 41 rfl) rfl ?_
        refine V_goto (pc := 121) C (dk k_R_tell 42 rfl) 125 rfl ?_
        refine V_zret (pc := 125) C (by first | exact Or.inl rfl | exact Or.inr rfl | (split <;> first | exact Or.inl rfl | exact Or.inr rfl) | omega) E (dk k_R_tell 44 rfl) ?_
        first | (have ht : tell d c ns = none := by (unfold tell; rw [if_neg (by omega), if_pos (by omega), if_neg (fun z => by omega)])) | (have ht : tell d c ns = some (dM d, (dT d ++ [(ns.getD 0 0, (ns.getD 1 0, (ns.getD 2 0, ns.getD 3 0)))], d.2.2)) := by (unfold tell; rw [if_neg (by omega), if_pos (by omega), if_pos (by omega)]))
        rw [ht]
        refine ⟨rfl, ?_, ?_⟩
        · intro d' h
          first | (cases h; done) | (cases h; exact hq1.1 (by omega))
        · first | exact hq1.2 | exact Fr.rf _ _ _
  by_cases h11 : c = 120
  · refine ⟨106, 126, by rw [h11]; rfl, rfl, ?_⟩
    refine V_aload_n (pc := 126) C (dk k_R_tell 45 rfl) rfl ?_
    refine V_geti (pc := 127) (ji := 1) C (dk k_R_tell 46 rfl) fl_R_46 kq_3 (by decide) rfl rfl ?_
    refine V_iconst (pc := 130) C (dk k_R_tell 47 rfl) rfl ?_
    refine V_icmpne (pc := 131) C (dk k_R_tell 48 rfl) 146 rfl (by first | exact hR _ _ | with_reducible assumption | exact ⟨by omega, by omega⟩) (by first | exact hR _ _ | with_reducible assumption | exact ⟨by omega, by omega⟩) (fun h12 => ?_) (fun h12 => ?_)
    · skip
      refine V_iconst (pc := 146) C (dk k_R_tell 55 rfl) rfl ?_
      refine V_zret (pc := 147) C (by first | exact Or.inl rfl | exact Or.inr rfl | (split <;> first | exact Or.inl rfl | exact Or.inr rfl) | omega) E (dk k_R_tell 56 rfl) ?_
      first | (have ht : tell d c ns = none := by (unfold tell; rw [if_neg (by omega), if_neg (by omega), if_pos (by omega), if_neg (fun z => by omega)])) | (have ht : tell d c ns = some (dM d, (dT d, (dX d ++ [ns.getD 0 0], d.2.2.2))) := by (unfold tell; rw [if_neg (by omega), if_neg (by omega), if_pos (by omega), if_pos (by omega)]))
      rw [ht]
      refine ⟨rfl, ?_, ?_⟩
      · intro d' h
        first | (cases h; done) | (cases h; exact hq1.1 (by omega))
      · first | exact hq1.2 | exact Fr.rf _ _ _
    · skip
      have ⟨g1, g2, g3⟩ := hN.at (k := 0) (by omega)
      have g1 : σ 4 0 = ns.getD 0 0 := g1
      rw [g1]
      refine V_aload_n (pc := 134) C (dk k_R_tell 49 rfl) rfl ?_
      refine V_iload_n (pc := 135) C (dk k_R_tell 50 rfl) rfl ?_
      refine V_callVr (pc := 136) C (dk k_R_tell 51 rfl) lk_R_65 cm_P_addRate vm_P_addRate (c_P_addRate _ _ _ p d (ns.getD 0 0) hd ⟨by omega, by omega⟩) hp rfl rfl rfl (Nat.le_of_ble_eq_true rfl) (Rm.mono hRm (by decide) (by decide)) (fun τ1 hq1 => ?_)
      refine V_R (fun hR => ?_)
      refine V_ifeqB (pc := 139) C (dk k_R_tell 52 rfl) 146 rfl (fun h13 => ?_) (fun h13 => ?_)
      · skip
        refine V_iconst (pc := 146) C (dk k_R_tell 55 rfl) rfl ?_
        refine V_zret (pc := 147) C (by first | exact Or.inl rfl | exact Or.inr rfl | (split <;> first | exact Or.inl rfl | exact Or.inr rfl) | omega) E (dk k_R_tell 56 rfl) ?_
        first | (have ht : tell d c ns = none := by (unfold tell; rw [if_neg (by omega), if_neg (by omega), if_pos (by omega), if_neg (fun z => by omega)])) | (have ht : tell d c ns = some (dM d, (dT d, (dX d ++ [ns.getD 0 0], d.2.2.2))) := by (unfold tell; rw [if_neg (by omega), if_neg (by omega), if_pos (by omega), if_pos (by omega)]))
        rw [ht]
        refine ⟨rfl, ?_, ?_⟩
        · intro d' h
          first | (cases h; done) | (cases h; exact hq1.1 (by omega))
        · first | exact hq1.2 | exact Fr.rf _ _ _
      · skip
        refine V_iconst (pc := 142) C (dk k_R_tell 53 rfl) rfl ?_
        refine V_goto (pc := 143) C (dk k_R_tell 54 rfl) 147 rfl ?_
        refine V_zret (pc := 147) C (by first | exact Or.inl rfl | exact Or.inr rfl | (split <;> first | exact Or.inl rfl | exact Or.inr rfl) | omega) E (dk k_R_tell 56 rfl) ?_
        first | (have ht : tell d c ns = none := by (unfold tell; rw [if_neg (by omega), if_neg (by omega), if_pos (by omega), if_neg (fun z => by omega)])) | (have ht : tell d c ns = some (dM d, (dT d, (dX d ++ [ns.getD 0 0], d.2.2.2))) := by (unfold tell; rw [if_neg (by omega), if_neg (by omega), if_pos (by omega), if_pos (by omega)]))
        rw [ht]
        refine ⟨rfl, ?_, ?_⟩
        · intro d' h
          first | (cases h; done) | (cases h; exact hq1.1 (by omega))
        · first | exact hq1.2 | exact Fr.rf _ _ _
  refine ⟨152, 172, by simp only [Op.lookupswitch.offset_cons]; (repeat rw [if_neg (by omega)]); rfl, rfl, ?_⟩
  refine V_iconst (pc := 172) C (dk k_R_tell 70 rfl) rfl ?_
  refine V_zret (pc := 173) C (by first | exact Or.inl rfl | exact Or.inr rfl | (split <;> first | exact Or.inl rfl | exact Or.inr rfl) | omega) E (dk k_R_tell 71 rfl) ?_
  have ht : tell d c ns = none := by (unfold tell; rw [if_neg (by omega), if_neg (by omega), if_neg (by omega), if_neg (by omega)])
  rw [ht]
  exact ⟨rfl, fun d' h => by (cases h), Fr.rf _ _ _⟩

theorem rdI_s (tx : List Int) (f i : Nat) (d : DS) : rdI tx (f + 1) i d = if i < tx.length then (match rdN tx 4 (i + 1) [] with
      | none => ((i : Int), d)
      | some (ns, i1) => match tell d (chr tx i) ns with
        | none => ((i : Int), d)
        | some d' => rdI tx f i1 d') else (-4, d) := rfl

def i_R_readInto : List (Nat × (Instr × Nat)) := [(0, (.aload_n 1, 1)), (1, (.invokevirtual 15, 3)), (4, (.iconst 0, 1)), (5, (.istore_n 3, 1)), (6, (.iconst 0, 1)), (7, (.istore 4, 2)), (9, (.iload 4, 2)), (11, (.sipush 200, 3)), (14, (.if_icmp .ge 51, 3)), (17, (.iload_n 3, 1)), (18, (.aload_n 2, 1)), (19, (.getfield 20, 3)), (22, (.if_icmp .ge 43, 3)), (25, (.aload_n 0, 1)), (26, (.aload_n 2, 1)), (27, (.iload_n 3, 1)), (28, (.iconst 1, 1)), (29, (.iadd, 1)), (30, (.invokevirtual 26, 3)), (33, (.istore 5, 2)), (35, (.iload 5, 2)), (37, (.iconst (-1), 1)), (38, (.if_icmp .eq 16, 3)), (41, (.aload_n 0, 1)), (42, (.aload_n 1, 1)), (43, (.aload_n 2, 1)), (44, (.iload_n 3, 1)), (45, (.invokevirtual 30, 3)), (48, (.invokevirtual 34, 3)), (51, (.ifCond .ne 5, 3)), (54, (.iload_n 3, 1)), (55, (.ireturn, 1)), (56, (.iload 5, 2)), (58, (.istore_n 3, 1)), (59, (.iinc 4 1, 3)), (62, (.goto (-53), 3)), (65, (.bipush (-4), 2)), (67, (.ireturn, 1))]
theorem k_R_readInto : i_R_readInto.all (fun q => decide (decode b_R_readInto q.1 = .ok q.2)) = true := by decide +kernel

set_option maxHeartbeats 1000000 in
set_option maxRecDepth 20000 in
theorem c_R_readInto (l : Launch) (G : GE) (σ : Wd) (p : Nat) (tx : List Int) (hp : kd p = 5) (hT : TxR σ tx) : Ct l G y_R_readInto b_R_readInto 6 (some (.int)) 3 71 [vR 3, vR p, vR 1] σ (Rt (some (vI (o_read tx).1)) (fun σ' => ((o_read tx).1 = -4 → DR σ' p (o_read tx).2) ∧ ∀ k, ¬ (3 ≤ k ∧ k < 5) → ¬ (p ≤ k ∧ k < p + 7) → σ' k = σ k)) := by
  refine Ct.of cm_R_readInto (Nat.le_of_ble_eq_true rfl) ?_
  intro X hXl hXG hXN hRm C E
  subst hXl; subst hXG
  show V X 0 [some (vR 3), some (vR p), some (vR 1), none, none, none] [] σ
  refine V_R (fun hR => ?_)
  have hp512 := kd5 hp
  have ⟨tx1, tx2, tx3⟩ := hT
  refine V_aload_n (pc := 0) C (dk k_R_readInto 0 rfl) rfl ?_
  refine V_callV0r (pc := 1) C (dk k_R_readInto 1 rfl) lk_R_15 cm_P_clear vm_P_clear (c_P_clear _ _ _ p hp) hp rfl rfl rfl (Nat.le_of_ble_eq_true rfl) (Rm.mono hRm (by decide) (by decide)) (fun τ0 hq0 => ?_)
  refine V_R (fun hR => ?_)
  refine V_iconst (pc := 4) C (dk k_R_readInto 2 rfl) rfl ?_
  refine V_istore_n (pc := 5) C (dk k_R_readInto 3 rfl) (by rw [hXN]; decide) ?_
  dsimp only [lst, lstL, lz, kill, Fin.val, Nat.reduceAdd]
  refine V_iconst (pc := 6) C (dk k_R_readInto 4 rfl) rfl ?_
  refine V_istore (pc := 7) C (dk k_R_readInto 5 rfl) (by rw [hXN]; decide) ?_
  dsimp only [lst, lstL, lz, kill, Fin.val, Nat.reduceAdd]
  refine V_eq (V_loop (fun z : Nat × (Nat × (DS × Wd)) => z.1 ≤ 200 ∧ z.2.1 ≤ 300 ∧ z.1 ≤ z.2.1 ∧ DR z.2.2.2 p z.2.2.1 ∧ o_read tx = rdI tx (200 - z.1) z.2.1 z.2.2.1 ∧ ∀ k, ¬ (3 ≤ k ∧ k < 5) → ¬ (p ≤ k ∧ k < p + 7) → z.2.2.2 k = σ k) (fun z => [some (vR 3), some (vR p), some (vR 1), some (vI (z.2.1 : Int)), some (vI (z.1 : Int)), none]) (fun z => z.2.2.2) (fun z => 200 - z.1) (fun z hz ih => ?_) (0, (0, (d0, τ0))) ⟨Nat.zero_le 200, Nat.zero_le 300, Nat.le_refl 0, hq0.1, rfl, fun k a b => hq0.2 k (by omega)⟩) rfl rfl rfl
  obtain ⟨it, q, d, τ⟩ := z
  obtain ⟨hit, hq, hitq, hd, hrd, hfr⟩ := hz
  dsimp only at hit hq hitq hd hrd hfr ih ⊢
  refine V_R (fun hR => ?_)
  have f1t : τ 1 = σ 1 := hfr 1 (by omega) (by omega)
  have hTt : TxR τ tx := hT.fr f1t (hfr 2 (by omega) (by omega))
  have cb := chr_b hTt q
  refine V_iload (pc := 9) C (dk k_R_readInto 6 rfl) rfl ?_
  refine V_sipush (pc := 11) (n' := 200) C (dk k_R_readInto 7 rfl) rfl ?_
  refine V_icmpge (pc := 14) C (dk k_R_readInto 8 rfl) 65 rfl (by first | exact hR _ _ | with_reducible assumption | exact ⟨by omega, by omega⟩) (by first | exact hR _ _ | with_reducible assumption | exact ⟨by omega, by omega⟩) (fun h1 => ?_) (fun h1 => ?_)
  · skip
    refine V_bipush (pc := 65) (n' := (-4)) C (dk k_R_readInto 36 rfl) rfl ?_
    refine V_iret (pc := 67) C E (dk k_R_readInto 37 rfl) ?_
    have hres : o_read tx = (-4, d) := by (rw [hrd]; cases hf : 200 - it with | zero => rfl | succ f => rw [rdI_s, if_neg (by omega)])
    rw [hres]
    exact ⟨rfl, fun _ => hd, hfr⟩
  · skip
    refine V_iload_n (pc := 17) C (dk k_R_readInto 9 rfl) rfl ?_
    refine V_aload_n (pc := 18) C (dk k_R_readInto 10 rfl) rfl ?_
    refine V_geti (pc := 19) (ji := 1) C (dk k_R_readInto 11 rfl) fl_R_20 kq_1 (by decide) rfl rfl ?_
    rw [f1t]
    refine V_icmpge (pc := 22) C (dk k_R_readInto 12 rfl) 65 rfl (by first | exact hR _ _ | with_reducible assumption | exact ⟨by omega, by omega⟩) (by first | exact hR _ _ | with_reducible assumption | exact ⟨by omega, by omega⟩) (fun h2 => ?_) (fun h2 => ?_)
    · skip
      refine V_bipush (pc := 65) (n' := (-4)) C (dk k_R_readInto 36 rfl) rfl ?_
      refine V_iret (pc := 67) C E (dk k_R_readInto 37 rfl) ?_
      have hres : o_read tx = (-4, d) := by (rw [hrd]; cases hf : 200 - it with | zero => rfl | succ f => rw [rdI_s, if_neg (by omega)])
      rw [hres]
      exact ⟨rfl, fun _ => hd, hfr⟩
    · skip
      refine V_aload_n (pc := 25) C (dk k_R_readInto 13 rfl) rfl ?_
      refine V_aload_n (pc := 26) C (dk k_R_readInto 14 rfl) rfl ?_
      refine V_iload_n (pc := 27) C (dk k_R_readInto 15 rfl) rfl ?_
      refine V_iconst (pc := 28) C (dk k_R_readInto 16 rfl) rfl ?_
      refine V_iadd (pc := 29) C (dk k_R_readInto 17 rfl) ?_
      refine V_callVr (pc := 30) C (dk k_R_readInto 18 rfl) lk_R_26 cm_R_readNumbers vm_R_readNumbers (c_R_readNumbers _ _ _ tx (q + 1) hTt (by omega)) kq_3 rfl rfl rfl (Nat.le_of_ble_eq_true rfl) (Rm.mono hRm (by decide) (by decide)) (fun τ2 hq2 => ?_)
      refine V_R (fun hR => ?_)
      refine V_istore (pc := 33) C (dk k_R_readInto 19 rfl) (by rw [hXN]; decide) ?_
      dsimp only [lst, lstL, lz, kill, Fin.val, Nat.reduceAdd]
      have hT2 : TxR τ2 tx := hTt.fr (hq2.1 1 (by omega)) (hq2.1 2 (by omega))
      have hd2 : DR τ2 p d := hd.fr (fun k a b => hq2.1 k (by omega))
      have hnr : inR (nr (rdN tx 4 (q + 1) [])) := nr_R (fun ns i h => by have := rdN_b tx 4 _ _ _ _ h; omega)
      refine V_iload (pc := 35) C (dk k_R_readInto 20 rfl) rfl ?_
      refine V_iconst (pc := 37) C (dk k_R_readInto 21 rfl) rfl ?_
      refine V_icmpeq (pc := 38) C (dk k_R_readInto 22 rfl) 54 rfl hnr (by first | exact hR _ _ | with_reducible assumption | exact ⟨by omega, by omega⟩) (fun h3 => ?_) (fun h3 => ?_)
      · skip
        refine V_iload_n (pc := 54) C (dk k_R_readInto 30 rfl) rfl ?_
        refine V_iret (pc := 55) C E (dk k_R_readInto 31 rfl) ?_
        first | (have hn1 := nr_none (r := rdN tx 4 (q + 1) []) (by assumption)) | (have htn := isn (o := tell d (chr tx q) ns) (by assumption))
        have hres : o_read tx = ((q : Int), d) := by (rw [hrd, show 200 - it = (200 - (it + 1)) + 1 by omega, rdI_s, if_pos (by omega)]; first | rw [hn1] | (rw [hn0]; dsimp only; rw [htn]))
        rw [hres]
        first | exact ⟨rfl, fun z => by (have : (q : Int) = -4 := z; omega), fun k a b => (hq3.2 k (by omega)).trans ((hq2.1 k (by omega)).trans (hfr k a b))⟩ | exact ⟨rfl, fun z => by (have : (q : Int) = -4 := z; omega), fun k a b => (hq2.1 k (by omega)).trans (hfr k a b)⟩
      · skip
        obtain ⟨ns, i1, hn0⟩ := nr_some (r := rdN tx 4 (q + 1) []) (by assumption)
        have hib := rdN_b tx 4 _ _ _ _ hn0
        have hNs := hq2.2 ns i1 hn0
        rw [hn0]
        show V X _ [some (vR 3), some (vR p), some (vR 1), some (vI (q : Int)), some (vI (it : Int)), some (vI (i1 : Int))] _ _
        refine V_aload_n (pc := 41) C (dk k_R_readInto 23 rfl) rfl ?_
        refine V_aload_n (pc := 42) C (dk k_R_readInto 24 rfl) rfl ?_
        refine V_aload_n (pc := 43) C (dk k_R_readInto 25 rfl) rfl ?_
        refine V_iload_n (pc := 44) C (dk k_R_readInto 26 rfl) rfl ?_
        refine V_callV (pc := 45) C (dk k_R_readInto 27 rfl) lk_R_30 cm_L_letter vm_L_letter (c_let _ _ _ tx q hT2 (by omega)) kq_1 rfl rfl rfl (Nat.le_of_ble_eq_true rfl) (Rm.mono hRm (by decide) (by decide)) ?_
        refine V_callVr (pc := 48) C (dk k_R_readInto 28 rfl) lk_R_34 cm_R_tell vm_R_tell (c_R_tell _ _ _ p d (chr tx q) ns hd2 hNs ⟨by omega, by omega⟩) kq_3 rfl rfl rfl (Nat.le_of_ble_eq_true rfl) (Rm.mono hRm (by decide) (by decide)) (fun τ3 hq3 => ?_)
        refine V_R (fun hR => ?_)
        refine V_ifneB (pc := 51) C (dk k_R_readInto 29 rfl) 56 rfl (fun h4 => ?_) (fun h4 => ?_)
        · skip
          obtain ⟨d', htl⟩ := Option.isSome_iff_exists.mp (by assumption : (tell d (chr tx q) ns).isSome = true)
          refine V_iload (pc := 56) C (dk k_R_readInto 32 rfl) rfl ?_
          refine V_istore_n (pc := 58) C (dk k_R_readInto 33 rfl) (by rw [hXN]; decide) ?_
          dsimp only [lst, lstL, lz, kill, Fin.val, Nat.reduceAdd]
          refine V_iinc (pc := 59) C (dk k_R_readInto 34 rfl) (by rw [hXN]; decide) rfl ?_
          dsimp only [lst, lstL, lz, kill, Fin.val, Nat.reduceAdd]
          refine V_goto (pc := 62) C (dk k_R_readInto 35 rfl) 9 rfl ?_
          refine V_fg 5 ?_
          dsimp only [fg]
          exact ih (it + 1, (i1, (d', τ3))) ⟨by dsimp only; omega, by dsimp only; omega, by dsimp only; omega, hq3.1 d' htl, by (dsimp only; rw [hrd, show 200 - it = (200 - (it + 1)) + 1 by omega, rdI_s, if_pos (by omega), hn0]; dsimp only; rw [htl]), fun k a b => (hq3.2 k (by omega)).trans ((hq2.1 k (by omega)).trans (hfr k a b))⟩ (by dsimp only; omega)
        · skip
          refine V_iload_n (pc := 54) C (dk k_R_readInto 30 rfl) rfl ?_
          refine V_iret (pc := 55) C E (dk k_R_readInto 31 rfl) ?_
          first | (have hn1 := nr_none (r := rdN tx 4 (q + 1) []) (by assumption)) | (have htn := isn (o := tell d (chr tx q) ns) (by assumption))
          have hres : o_read tx = ((q : Int), d) := by (rw [hrd, show 200 - it = (200 - (it + 1)) + 1 by omega, rdI_s, if_pos (by omega)]; first | rw [hn1] | (rw [hn0]; dsimp only; rw [htn]))
          rw [hres]
          first | exact ⟨rfl, fun z => by (have : (q : Int) = -4 := z; omega), fun k a b => (hq3.2 k (by omega)).trans ((hq2.1 k (by omega)).trans (hfr k a b))⟩ | exact ⟨rfl, fun z => by (have : (q : Int) = -4 := z; omega), fun k a b => (hq2.1 k (by omega)).trans (hfr k a b)⟩
