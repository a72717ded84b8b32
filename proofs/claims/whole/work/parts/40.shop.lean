/-! the shop's constructor: its parts are made, its text is written and laid -/
theorem fslN_eq {G : GE} {σ : Wd} {k : Nat} : ∀ (l : List Nat) (j0 : Nat), (∀ j d, l[j]? = some d → d ≠ 0 → σ k ((j0 + j : Nat) : Int) ≠ 0) → fslN G σ k j0 l = fsl G σ k j0 l
  | [], _, _ => rfl
  | d :: r, j0, h => by
    show fvlN _ _ _ _ _ :: _ = fvl _ _ _ _ _ :: _
    have e : fvlN G σ k j0 d = fvl G σ k j0 d := by
      unfold fvlN fvl
      by_cases hd : d = 0
      · rw [if_pos hd, if_pos hd]
      · rw [if_neg hd, if_neg hd, if_neg (by have := h 0 d rfl hd; simpa using this)]
    rw [e, fslN_eq r (j0 + 1) (fun j d hj hd => by have := h (j + 1) d (by simpa using hj) hd; rwa [show j0 + 1 + j = j0 + (j + 1) by omega])]
theorem mkl_ok : ∀ ci, ci < 8 → ∀ j, j < (flds ci).length → (flds ci).getD j 0 ≠ 0 → (j : Int) ∈ mkl ci := by decide +kernel
theorem rowF_ok : ∀ j, j < 11 → rowF ((j : Nat) : Int) ≠ 0 := by decide +kernel
theorem kd_cases : ∀ k, k < 128 → 1 ≤ k → kd k < 8 ∨ (1000 ≤ kd k ∧ kd k < 3000) ∨ kd k = 3000 := by decide +kernel
theorem mks_in {l : List Int} {i : Int} (h : i ∈ l) : mks l i = 1 := by unfold mks; rw [if_pos h]
theorem wsM_whole8 {τ : Wd} (h : Sfn 128 rowF τ) (G : GE) : wsM G τ 0 128 = wsO_8 G τ := by
  unfold wsM wsO_8
  refine List.map_congr_left (fun k hk => ?_)
  have hk : k < 128 := List.mem_range.mp hk
  rw [entM, if_neg (by omega)]
  unfold entN ent_8
  rw [kd_88 k hk]
  by_cases h0 : k = 0
  · subst h0
    rw [kq_0, if_pos (by decide), if_pos (by decide), fslN_eq (flds 8) 0 (fun j d hj hd => by
      rw [h.1, Nat.zero_add]
      exact rowF_ok j (List.getElem?_eq_some_iff.mp hj).1)]
  · have hr := h.2.1 k (by omega) hk
    rcases kd_cases k hk (by omega) with hc | hc | hc
    · rw [if_pos (by omega), if_pos (by omega), fslN_eq (flds (kd k)) 0 (fun j d hj hd => by
        rw [hr, Nat.zero_add, mks_in (mkl_ok _ hc j (List.getElem?_eq_some_iff.mp hj).1 (by rw [List.getD_eq_getElem?_getD, hj]; exact hd))]
        decide)]
    · rw [if_neg (show ¬ kd k < 1000 by omega), if_neg (show ¬ kd k < 1000 by omega)]
      by_cases h2 : kd k < 2000
      · rw [if_pos h2, if_pos h2]
      · rw [if_neg h2, if_neg h2, if_pos hc.2, if_pos hc.2]
    · rw [hc, if_neg (by decide), if_neg (by decide), if_neg (by decide), if_neg (by decide), if_neg (by decide), if_neg (by decide)]
      have e : rngN G τ k = fun j => some (gA G (k + 1 + 5 * j)) := by
        funext j
        unfold rngN
        rw [if_neg]
        rintro ⟨h1, h2⟩
        have key : ∀ j, j < 8 → ((j : Nat) : Int) ∈ mkl 3000 := by decide
        rw [hr, hc, mks_in (key j h1)] at h2
        exact absurd h2 (by decide)
      rw [e]
def πz : PL := (0, (0, (0, (0, (fun _ => 0, (fun _ => 0, (fun _ => 0, fun _ => 0)))))))
def xz : ST := (0, (0, (fun _ => 0, (fun _ => 0, (fun _ => 0, fun _ => 0)))))
/-- before its text is laid -/
theorem F_pre {τ0 τ : Wd} (h : Sfn 128 rowF τ0) (hr : ∀ a, a ≠ 1 → a ≠ 2 → τ a = τ0 a) (hT : TxR τ FT) : CR_8 τ 5 12 πz xz [] [] [] FT := by
  have e0 : τ 0 = rowF := (hr 0 (by decide) (by decide)).trans h.1
  have e5 : τ 5 = mks (mkl 5) := (hr 5 (by decide) (by decide)).trans ((h.2.1 5 (by decide) (by decide)).trans (by rw [kq_5]))
  have e19 : τ 19 = mks (mkl 7) := (hr 19 (by decide) (by decide)).trans ((h.2.1 19 (by decide) (by decide)).trans (by rw [kq_19]))
  have e29 : τ 29 = mks (mkl 4) := (hr 29 (by decide) (by decide)).trans ((h.2.1 29 (by decide) (by decide)).trans (by rw [kq_29]))
  have e71 : τ 71 = mks (mkl 4) := (hr 71 (by decide) (by decide)).trans ((h.2.1 71 (by decide) (by decide)).trans (by rw [kq_71]))
  have e113 : τ 113 = mks (mkl 3) := (hr 113 (by decide) (by decide)).trans ((h.2.1 113 (by decide) (by decide)).trans (by rw [kq_113]))
  refine ⟨⟨by rw [e0]; decide, by decide +kernel, by rw [e5]; decide, by rw [e5]; decide, by rw [e5]; decide, by rw [e5]; decide, fun t a b => ?_, fun r a b => ?_⟩, by rw [e0]; decide, by decide +kernel, by decide, ⟨by decide +kernel, by rw [e19]; decide, by rw [e19]; decide, fun q a b => ?_, fun t a b => ?_⟩, ⟨by decide +kernel, by rw [e29]; decide, by rw [e29]; decide, by rw [e29]; decide, by decide, fun k y h => by simp at h⟩, ⟨by decide +kernel, by rw [e71]; decide, by rw [e71]; decide, by rw [e71]; decide, by decide, fun k y h => by simp at h⟩, ⟨by rw [e113]; decide, by decide, fun k y h => by simp at h⟩, hT⟩
  · have b : t < ((0 : Nat) : Int) := b
    omega
  · have b : r < ((0 : Nat) : Int) := b
    omega
  · have b : q < ((0 : Nat) : Int) := b
    omega
  · have b : t < ((0 : Nat) : Int) := b
    omega
/-- the class's relation in the whole world, for a shop just laid -/
theorem CR_8.all {τ : Wd} {π : PL} {x : ST} {tx tx' : List Int} (h : CR_8 τ 12 5 π x [] [] [] tx) (hT : TxR τ tx') : CR τ 12 5 π x [] [] [] tx' := by
  obtain ⟨⟨h1, h2⟩, h3, h4, h5, h6, h7, h8, h9, -⟩ := h
  obtain ⟨g0, g1, g2, g3, g4, g5⟩ := h7
  obtain ⟨f0, f1, f2, f3, f4, f5⟩ := h8
  exact ⟨⟨h1, by decide +kernel, h2.2⟩, h3, kq_5, h5, ⟨kq_19, h6.2⟩, ⟨kq_29, g1, g2, g3, g4, fun k y h => by simp at h⟩, ⟨kq_71, f1, f2, f3, f4, fun k y h => by simp at h⟩, h9, hT⟩
theorem CR_8.rows {σ τ : Wd} {π : PL} {x : ST} {tx : List Int} (h : CR_8 σ 12 5 π x [] [] [] tx) (hf : ∀ k, k ≠ 1 → τ k = σ k) (hT : TxR τ []) : CR τ 12 5 π x [] [] [] [] := by
  obtain ⟨h1, h3, h4, h5, h6, h7, h8, h9, h10⟩ := h
  have g : CR_8 τ 12 5 π x [] [] [] [] := ⟨h1.fr (hf 0 (by decide)) (fun k a b => hf k (by omega)), by rw [hf 0 (by decide)]; exact h3, h4, h5, h6.fr (fun k a b => hf k (by omega)), h7.fr (fun k a b => hf k (by omega)), h8.fr (fun k a b => hf k (by omega)), h9.fr (fun k a b => hf k (by omega)), hT⟩
  exact g.all hT
theorem xG_x (X : KX) (a b : Nat) : xG (xset X a b) = xG X := rfl
theorem SA_x {X : KX} {b t : Nat} (h : XiA X (SX (xG X) b t)) (a c : Nat) : SA (xset X a c) b t := h
theorem Rm_x {X : KX} {rF rL : Nat} (h : Rm X rF rL) (a c : Nat) : Rm (xset X a c) rF rL := h
theorem xN_x (X : KX) (a b : Nat) : xN (xset X a b) = xN X := rfl
theorem FT_take {i : Nat} (h : i < 108) : FT.take i ++ [FT.getD i 0] = FT.take (i + 1) := by
  have hi : FT[i]? = some (FT.getD i 0) := by
    rw [List.getD_eq_getElem?_getD, List.getElem?_eq_getElem (show i < FT.length by rw [FT_len]; exact h)]; rfl
  first
    | rw [List.take_add_one, hi]; rfl
    | rw [List.take_succ, hi]; rfl
def FX (G : GE) (b t : Nat) : State → Prop := fun U => AO U ∧ SX G b t U
theorem FT_ok : (o_read FT).1 = -4 ∧ dM (o_read FT).2 ≠ [] := by
  rw [FT_read]; exact ⟨rfl, by decide⟩
def Fpost (σ' : Wd) : Prop := CR σ' 12 5 (piO FD) (stO FD) [] [] [] [] ∧ ∀ a, 128 ≤ a → ∀ i, σ' a i = 0
set_option maxHeartbeats 1000000 in
set_option maxRecDepth 20000 in
theorem c_F_init (l : Launch) (G : GE) (b t : Nat) (σ : Wd) (s0 : Sfn 1 (mks []) σ) : CtN (FX G b t) l G y_F_init b_F_init 2 5 117 127 1624 128 [vR 0] 0 1 128 128 σ Fpost := by
  refine CtN.of cm_F_init (show 1 ≤ 2 by decide) rfl ?_
  intro X hXl hXG hXN hRm C hr I E hX
  subst hXG
  have hAO : XiA X AO := by
    obtain ⟨p, l, e, R, s, m, args, below, meth, c, G, nL, ck, sk, Q⟩ := X
    exact hX.1
  have hSX : XiA X (SX (xG X) b t) := by
    obtain ⟨p, l, e, R, s, m, args, below, meth, c, G, nL, ck, sk, Q⟩ := X
    exact hX.2
  refine F_first hRm C hr I hAO s0 (fun τ0 hs => ?_)
  refine VN_V8 (fun G => wsM_whole8 hs G) (fun hz0 => ?_)
  have C8 := C.x8 (wc := 127) (wq := 1624) hr
  have S := SA_x hSX 127 1624
  have hR8 := Rm_x hRm 127 1624
  have e1 : τ0 1 = mks [0] := (hs.2.1 1 (by decide) (by decide)).trans (by rw [kq_1]; rfl)
  refine V_iconst_8 (pc := 125) C8 (dk k_F_init 57 rfl) rfl ?_
  refine V_istore_n_8 (pc := 126) C8 (dk k_F_init 58 rfl) (by rw [xN_x, hXN]; decide) ?_
  refine V_eq_8 (V_loop_8 (fun z : Nat × Wd => z.1 ≤ 108 ∧ TxR z.2 (FT.take z.1) ∧ ∀ a, a ≠ 1 → a ≠ 2 → z.2 a = τ0 a) (fun z => [some (vR 0), some (vI (z.1 : Int))]) (fun z => z.2) (fun z => 108 - z.1) (fun z hz ih => ?_) (0, τ0) (show 0 ≤ 108 ∧ TxR τ0 (FT.take 0) ∧ ∀ a, a ≠ 1 → a ≠ 2 → τ0 a = τ0 a from ⟨by decide, ⟨by rw [e1]; decide, by decide, fun k c h => by simp at h⟩, fun _ _ _ => rfl⟩)) rfl rfl rfl
  obtain ⟨i, τ⟩ := z
  obtain ⟨hi, hT, hf⟩ := hz
  have hi : i ≤ 108 := hi
  have hT : TxR τ (FT.take i) := hT
  have hf : ∀ a, a ≠ 1 → a ≠ 2 → τ a = τ0 a := hf
  show V_8 _ _ [some (vR 0), some (vI (i : Int))] [] τ
  refine V_iload_n_8 (pc := 127) C8 (dk k_F_init 59 rfl) rfl ?_
  refine VX_ldc (pc := 128) C8 S (dk k_F_init 60 rfl) ?_
  refine VX_callV (pc := 130) (as := []) C8 S (dk k_F_init 61 rfl) (Or.inl (gw_in (82 + 248) (by decide +kernel) rfl)) cmj_length vmj_length (cj_length b t _ _ τ) rfl rfl rfl (Nat.le_of_ble_eq_true rfl) (hR8.mono (by decide) (by decide)) ?_
  refine V_icmpge_8 (pc := 133) C8 (dk k_F_init 62 rfl) 156 rfl ⟨by omega, by omega⟩ ⟨by decide, by decide⟩ (fun h => ?_) (fun h => ?_)
  · have hi2 : i = 108 := by omega
    subst hi2
    have hT : TxR τ FT := by rw [List.take_of_length_le (show FT.length ≤ 108 by rw [FT_len]; decide)] at hT; exact hT
    refine V_aload_n_8 (pc := 156) C8 (dk k_F_init 72 rfl) rfl ?_
    refine V_callVr_8 (pc := 157) C8 (dk k_F_init 73 rfl) lk_F_90 cm_F_layText vm_F_layText (c_F_layTextU_8 _ _ _ 5 12 πz xz [] [] [] FT (F_pre hs hf hT) FT_ok) kq_0_8 rfl rfl rfl (Nat.le_of_ble_eq_true rfl) (hR8.mono (by decide) (by decide)) (fun τ1 q1 => ?_)
    obtain ⟨q1, q2⟩ := q1
    rw [FT_read] at q1
    refine V_popI_8 (pc := 160) C8 (dk k_F_init 74 rfl) ?_
    refine V_aload_n_8 (pc := 161) C8 (dk k_F_init 75 rfl) rfl ?_
    refine V_getr_8 (pc := 162) (o2 := 1) C8 (dk k_F_init 76 rfl) fl_F_10 kq_0_8 (by decide) rfl (by decide) rfl ?_
    refine V_iconst_8 (pc := 165) C8 (dk k_F_init 77 rfl) rfl ?_
    refine V_puti_8 (pc := 166) (ji := 1) C8 (dk k_F_init 78 rfl) fl_F_94 fw_2_1 kq_1_8 (by decide) rfl rfl R0 ?_
    refine V_retN8 (pc := 169) C E hz0 (dk k_F_init 79 rfl) ⟨q1.rows (fun k a => up_row _ _ _ a) ⟨by rw [up_at]; rfl, by decide, fun k c h => by simp at h⟩, fun a h i => ?_⟩
    exact (congrFun ((up_row _ _ _ (by omega)).trans ((q2 a h).trans (hf a (by omega) (by omega)))) i).trans (hs.2.2 a h i)
  · have hi2 : i < 108 := by omega
    have h11 : τ 1 1 = i := by rw [hT.1, List.length_take, FT_len, Nat.min_eq_left (by omega)]
    have hc := FT_c hi2
    refine V_aload_n_8 (pc := 136) C8 (dk k_F_init 63 rfl) rfl ?_
    refine V_getr_8 (pc := 137) (o2 := 1) C8 (dk k_F_init 64 rfl) fl_F_10 kq_0_8 (by decide) rfl (by decide) rfl ?_
    refine VX_ldc (pc := 140) C8 S (dk k_F_init 65 rfl) ?_
    refine V_iload_n_8 (pc := 142) C8 (dk k_F_init 66 rfl) rfl ?_
    refine VX_callV (pc := 143) (as := [vI (i : Int)]) C8 S (dk k_F_init 67 rfl) (Or.inl (gw_in (82 + 258) (by decide +kernel) rfl)) cmj_charAt vmj_charAt (cj_charAt b t _ _ τ (i : Int) (by omega) (by omega)) rfl rfl rfl (Nat.le_of_ble_eq_true rfl) (hR8.mono (by decide) (by decide)) ?_
    rw [Int.toNat_natCast]
    have hL := c_L_add_8 (xL (xset X 127 1624)) (xG (xset X 127 1624)) τ (FT.getD i 0) (by omega) (by omega) (by omega) (by omega)
    rw [if_pos (show τ 1 1 < 200 by omega), if_pos (show τ 1 1 < 200 by omega)] at hL
    refine V_callV_8 (pc := 146) (as := [vI (FT.getD i 0)]) C8 (dk k_F_init 68 rfl) lk_F_86 cm_L_add vm_L_add hL kq_1_8 rfl rfl rfl (Nat.le_of_ble_eq_true rfl) (hR8.mono (by decide) (by decide)) ?_
    refine V_popI_8 (pc := 149) C8 (dk k_F_init 69 rfl) ?_
    refine V_iinc_8 (pc := 150) C8 (dk k_F_init 70 rfl) (by rw [xN_x, hXN]; decide) rfl ?_
    refine V_goto_8 (pc := 153) C8 (dk k_F_init 71 rfl) 127 rfl ?_
    have hT2 := hT.add hc.1 hc.2 (by rw [List.length_take, FT_len]; omega)
    rw [FT_take hi2] at hT2
    exact ih (i + 1, up (up τ 2 (τ 1 1) (FT.getD i 0)) 1 1 (τ 1 1 + 1)) ⟨hi2, hT2, fun a x y => by
      show up (up τ 2 (τ 1 1) (FT.getD i 0)) 1 1 (τ 1 1 + 1) a = _
      rw [up_row _ _ _ x, up_row _ _ _ y]; exact hf a x y⟩ (by show 108 - (i + 1) < 108 - i; omega)
