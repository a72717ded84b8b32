/-! the model's constructor -/
theorem low_up {σ τ : Wd} {x y : Int} (h : ∀ a, a < 128 → τ a = σ a) : ∀ a, a < 128 → up τ 128 x y a = σ a := fun a ha => (up_row _ _ _ (by omega)).trans (h a ha)
theorem up_ge {f g : Wd} {k : Nat} {i x : Int} (h : ∀ a, 128 ≤ a → f a = g a) : ∀ a, 128 ≤ a → up f k i x a = up g k i x a := fun a ha => by
  funext b
  have e := h a ha
  unfold up
  rw [e]
theorem up_le {f g : Wd} {k : Nat} {i x : Int} (h : ∀ a, a < 128 → f a = g a) (hk : 128 ≤ k) : ∀ a, a < 128 → up f k i x a = g a := fun a ha => (up_row _ _ _ (by omega)).trans (h a ha)
/-- the model's relation speaks of the model's rows alone -/
theorem MR.fc {σ σ' : Wd} {π : PL} {x : ST} {us ks : List ST} {lk : List (Int × (Int × Int))} {tx : List Int} (h : MR σ π x us ks lk tx) (e : Fc σ σ') : MR σ' π x us ks lk tx := by
  have e : ∀ k, 128 ≤ k → σ' k = σ k := e
  unfold MR PlM StM UsM KsM LkM TxM BkR at h ⊢
  simp (disch := omega) only [e]
  exact h
def Zrow : Int → Int := mks [37, 36, 35, 34, 32, 30, 28, 27, 26, 18, 17, 16, 15, 13, 12, 11, 10, 7, 6, 5, 4]
def Zb : Wd := fun a => if a = 128 then Zrow else fun _ => 0
def Zc : Wd := up (up (up (up (up (up (up (up (up (up (up (up (up (up (up (up (up (up (up (up (up (up (up (up (up (up (up (up (up (up (up (up (up (up (up (up (up (up (up (up (up (up (up (up (up (up (up (up (up (up (up (up Zb 128 0 4) 133 0 5) 133 2 12) 133 3 30) 130 0 0) 131 0 0) 135 0 6) 132 0 2) 136 0 0) 130 1 0) 131 1 1) 135 1 9) 132 1 7) 136 1 0) 130 2 1) 131 2 3) 135 2 14) 132 2 0) 136 2 0) 130 3 1) 131 3 2) 135 3 8) 132 3 3) 136 3 0) 130 4 2) 131 4 0) 135 4 3) 132 4 1) 136 4 0) 130 5 2) 131 5 1) 135 5 12) 132 5 15) 136 5 0) 130 6 3) 131 6 0) 135 6 10) 132 6 4) 136 6 0) 130 7 3) 131 7 2) 135 7 5) 132 7 5) 136 7 0) 128 1 8) 129 0 3) 129 1 2) 129 2 5) 129 3 1) 128 2 4) 128 9 80) 128 3 5
theorem Zc_MR : MR Zc (piO FD) (stO FD) [] [] [] [] := by
  refine ⟨⟨by decide +kernel, by decide +kernel, by decide +kernel, by decide +kernel, fun t h0 h1 => ?_, fun r h0 h1 => ?_⟩, ⟨by decide +kernel, by decide +kernel, fun q h0 h1 => ?_, fun t h0 h1 => ?_⟩, ⟨by decide +kernel, by decide, fun k y h => by simp at h⟩, ⟨by decide +kernel, by decide, fun k y h => by simp at h⟩, ⟨by decide +kernel, by decide, fun k y h => by simp at h⟩, ⟨by decide +kernel, by decide, fun k y h => by simp at h⟩⟩
  · have h1 : t < ((8 : Nat) : Int) := h1
    obtain ⟨n, rfl⟩ := Int.eq_ofNat_of_zero_le h0
    have key : ∀ n : Nat, n < 8 → Zc 130 (n : Int) = pO (piO FD) (n : Int) ∧ Zc 131 (n : Int) = pK (piO FD) (n : Int) ∧ Zc 132 (n : Int) = pU (piO FD) (n : Int) := by decide +kernel
    exact key n (by omega)
  · have h1 : r < ((4 : Nat) : Int) := h1
    obtain ⟨n, rfl⟩ := Int.eq_ofNat_of_zero_le h0
    have key : ∀ n : Nat, n < 4 → Zc 129 (n : Int) = pX (piO FD) (n : Int) := by decide +kernel
    exact key n (by omega)
  · have h1 : q < ((4 : Nat) : Int) := h1
    obtain ⟨n, rfl⟩ := Int.eq_ofNat_of_zero_le h0
    have key : ∀ n : Nat, n < 4 → Zc 133 (n : Int) = sG (stO FD) (n : Int) ∧ Zc 134 (n : Int) = sR (stO FD) (n : Int) := by decide +kernel
    exact key n (by omega)
  · have h1 : t < ((8 : Nat) : Int) := h1
    obtain ⟨n, rfl⟩ := Int.eq_ofNat_of_zero_le h0
    have key : ∀ n : Nat, n < 8 → Zc 135 (n : Int) = sN (stO FD) (n : Int) ∧ Zc 136 (n : Int) = sP (stO FD) (n : Int) := by decide +kernel
    exact key n (by omega)
theorem Zb_eq {ρ : Wd} (h0 : ρ 128 = Zrow) (hz : ∀ a, 128 < a → ∀ i, ρ a i = 0) : ∀ a, 128 ≤ a → ρ a = Zb a := by
  intro a ha
  unfold Zb
  by_cases h : a = 128
  · rw [h, if_pos rfl]; exact h0
  · rw [if_neg h]; funext i; exact hz a (by omega) i
abbrev Zchain (ρ : Wd) : Wd := up (up (up (up (up (up (up (up (up (up (up (up (up (up (up (up (up (up (up (up (up (up (up (up (up (up (up (up (up (up (up (up (up (up (up (up (up (up (up (up (up (up (up (up (up (up (up (up (up (up (up (up ρ 128 0 4) 133 0 5) 133 2 12) 133 3 30) 130 0 0) 131 0 0) 135 0 6) 132 0 2) 136 0 0) 130 1 0) 131 1 1) 135 1 9) 132 1 7) 136 1 0) 130 2 1) 131 2 3) 135 2 14) 132 2 0) 136 2 0) 130 3 1) 131 3 2) 135 3 8) 132 3 3) 136 3 0) 130 4 2) 131 4 0) 135 4 3) 132 4 1) 136 4 0) 130 5 2) 131 5 1) 135 5 12) 132 5 15) 136 5 0) 130 6 3) 131 6 0) 135 6 10) 132 6 4) 136 6 0) 130 7 3) 131 7 2) 135 7 5) 132 7 5) 136 7 0) 128 1 8) 129 0 3) 129 1 2) 129 2 5) 129 3 1) 128 2 4) 128 9 80) 128 3 5
theorem Zchain_hi {ρ : Wd} (h0 : ρ 128 = Zrow) (hz : ∀ a, 128 < a → ∀ i, ρ a i = 0) {k : Nat} (h : 128 ≤ k) : Zchain ρ k = Zc k := by
  have key : ∀ a, 128 ≤ a → Zchain ρ a = Zc a := by
    unfold Zchain Zc
    repeat (first | exact Zb_eq h0 hz | refine up_ge ?_)
  exact key k h
theorem Zchain_lo {ρ σ : Wd} (h : ∀ a, a < 128 → ρ a = σ a) {k : Nat} (hk : k < 128) : Zchain ρ k = σ k := by
  have key : ∀ a, a < 128 → Zchain ρ a = σ a := by
    unfold Zchain
    repeat (first | exact h | refine up_le ?_ (by decide))
  exact key k hk
theorem flds9_ok : ∀ j, j < (flds 9).length → (flds 9).getD j 0 ≠ 0 → Zrow ((j : Nat) : Int) ≠ 0 := by decide +kernel
theorem kd_Z : ∀ k, k < 150 → 128 < k → 1000 ≤ kd k ∧ kd k < 2000 := by decide +kernel
theorem wsM_wholeZ {ρ : Wd} (h0 : ρ 128 = Zrow) (G : GE) : wsM G ρ 128 150 = wsO G ρ := by
  unfold wsM wsO
  refine List.map_congr_left (fun k hk => ?_)
  have hk : k < 150 := List.mem_range.mp hk
  unfold entM
  by_cases h1 : k < 128
  · rw [if_pos h1]
  · rw [if_neg h1]
    by_cases h2 : k = 128
    · subst h2
      rw [entN_obj G ρ kq_128 (by decide), ent_obj G ρ kq_128 (by decide), fslN_eq (flds 9) 0 (fun j d hj hd => by
        rw [h0, Nat.zero_add]
        exact flds9_ok j (List.getElem?_eq_some_iff.mp hj).1 (by rw [List.getD_eq_getElem?_getD, hj]; exact hd))]
    · have hc := kd_Z k hk (by omega)
      unfold entN ent
      rw [if_neg (show ¬ kd k < 1000 by omega), if_neg (show ¬ kd k < 1000 by omega), if_pos hc.2, if_pos hc.2]
def Zpost (σ σ' : Wd) : Prop := MR σ' (piO FD) (stO FD) [] [] [] [] ∧ ∀ a, a < 128 → σ' a = σ a
set_option maxHeartbeats 2000000 in
set_option maxRecDepth 20000 in
theorem Z_rest {X : KX} {l : Launch} {G : GE} {σ : Wd} (hXl : xL X = l) (hXG : xG X = G) (hXN : xN X = 1) (hRm : Rm X 1 25) (C : CN X b_Z_init y_Z_init.cls) (hr : RN X 21 909) (E : EN X 150 150 150 21 909 (Zpost σ)) (ρ : Wd) : (∀ a, 128 < a → ∀ i, ρ a i = 0) → ρ 128 = mks [37, 36, 35, 34, 32, 30, 28, 27, 26, 18, 17, 16, 15, 13, 12, 11, 10, 7, 6, 5, 4] → (∀ a, a < 128 → ρ a = σ a) → VN X 150 128 150 21 909 172 (ents 1 [vR 128]) [] ρ := by
  intro hz h0 hc
  refine VN_V (fun G => wsM_wholeZ h0 G) (fun hz0 => ?_)
  have K := C.x (wc := 21) (wq := 909) hr
  have hR2 := Rm_x hRm 21 909
  refine V_aload_n (pc := 172) (z := 128) K (dk k_Z_init 86 rfl) rfl ?_
  refine V_iconst (pc := 173) K (dk k_Z_init 87 rfl) rfl ?_
  refine V_puti (pc := 174) (ji := 0) K (dk k_Z_init 88 rfl) fl_Z_73 fw_9_0 kq_128 (by decide) rfl rfl ⟨by decide, by decide⟩ ?_
  refine V_aload_n (pc := 177) (z := 128) K (dk k_Z_init 89 rfl) rfl ?_
  refine V_getr (pc := 178) (o2 := 133) K (dk k_Z_init 90 rfl) fl_Z_22 kq_128 (by decide) rfl (by decide) rfl ?_
  refine V_iconst (pc := 181) K (dk k_Z_init 91 rfl) rfl ?_
  refine V_iconst (pc := 182) K (dk k_Z_init 92 rfl) rfl ?_
  refine V_iast (pc := 183) (n := 5) K (dk k_Z_init 93 rfl) kq_133 (by decide) (by decide) (by decide) ⟨by decide, by decide⟩ ?_
  refine V_aload_n (pc := 184) (z := 128) K (dk k_Z_init 94 rfl) rfl ?_
  refine V_getr (pc := 185) (o2 := 133) K (dk k_Z_init 95 rfl) fl_Z_22 kq_128 (by decide) rfl (by decide) rfl ?_
  refine V_iconst (pc := 188) K (dk k_Z_init 96 rfl) rfl ?_
  refine V_bipush (pc := 189) (n' := 12) K (dk k_Z_init 97 rfl) rfl ?_
  refine V_iast (pc := 191) (n := 5) K (dk k_Z_init 98 rfl) kq_133 (by decide) (by decide) (by decide) ⟨by decide, by decide⟩ ?_
  refine V_aload_n (pc := 192) (z := 128) K (dk k_Z_init 99 rfl) rfl ?_
  refine V_getr (pc := 193) (o2 := 133) K (dk k_Z_init 100 rfl) fl_Z_22 kq_128 (by decide) rfl (by decide) rfl ?_
  refine V_iconst (pc := 196) K (dk k_Z_init 101 rfl) rfl ?_
  refine V_bipush (pc := 197) (n' := 30) K (dk k_Z_init 102 rfl) rfl ?_
  refine V_iast (pc := 199) (n := 5) K (dk k_Z_init 103 rfl) kq_133 (by decide) (by decide) (by decide) ⟨by decide, by decide⟩ ?_
  refine V_aload_n (pc := 200) (z := 128) K (dk k_Z_init 104 rfl) rfl ?_
  refine V_iconst (pc := 201) K (dk k_Z_init 105 rfl) rfl ?_
  refine V_iconst (pc := 202) K (dk k_Z_init 106 rfl) rfl ?_
  refine V_iconst (pc := 203) K (dk k_Z_init 107 rfl) rfl ?_
  refine V_bipush (pc := 204) (n' := 6) K (dk k_Z_init 108 rfl) rfl ?_
  refine V_iconst (pc := 206) K (dk k_Z_init 109 rfl) rfl ?_
  refine V_callV0 (pc := 207) (as := [vI 0, vI 0, vI 0, vI 6, vI 2]) K (dk k_Z_init 110 rfl) lk_Z_77 cm_Z_sets vm_Z_sets (c_Z_sets _ _ _ 0 0 0 6 2 (by decide) (by decide) ⟨by decide, by decide⟩ ⟨by decide, by decide⟩ ⟨by decide, by decide⟩ ⟨by decide, by decide⟩) kq_128 rfl rfl rfl (Nat.le_of_ble_eq_true rfl) (hR2.mono (by decide) (by decide)) ?_
  refine V_aload_n (pc := 210) (z := 128) K (dk k_Z_init 111 rfl) rfl ?_
  refine V_iconst (pc := 211) K (dk k_Z_init 112 rfl) rfl ?_
  refine V_iconst (pc := 212) K (dk k_Z_init 113 rfl) rfl ?_
  refine V_iconst (pc := 213) K (dk k_Z_init 114 rfl) rfl ?_
  refine V_bipush (pc := 214) (n' := 9) K (dk k_Z_init 115 rfl) rfl ?_
  refine V_bipush (pc := 216) (n' := 7) K (dk k_Z_init 116 rfl) rfl ?_
  refine V_callV0 (pc := 218) (as := [vI 1, vI 0, vI 1, vI 9, vI 7]) K (dk k_Z_init 117 rfl) lk_Z_77 cm_Z_sets vm_Z_sets (c_Z_sets _ _ _ 1 0 1 9 7 (by decide) (by decide) ⟨by decide, by decide⟩ ⟨by decide, by decide⟩ ⟨by decide, by decide⟩ ⟨by decide, by decide⟩) kq_128 rfl rfl rfl (Nat.le_of_ble_eq_true rfl) (hR2.mono (by decide) (by decide)) ?_
  refine V_aload_n (pc := 221) (z := 128) K (dk k_Z_init 118 rfl) rfl ?_
  refine V_iconst (pc := 222) K (dk k_Z_init 119 rfl) rfl ?_
  refine V_iconst (pc := 223) K (dk k_Z_init 120 rfl) rfl ?_
  refine V_iconst (pc := 224) K (dk k_Z_init 121 rfl) rfl ?_
  refine V_bipush (pc := 225) (n' := 14) K (dk k_Z_init 122 rfl) rfl ?_
  refine V_iconst (pc := 227) K (dk k_Z_init 123 rfl) rfl ?_
  refine V_callV0 (pc := 228) (as := [vI 2, vI 1, vI 3, vI 14, vI 0]) K (dk k_Z_init 124 rfl) lk_Z_77 cm_Z_sets vm_Z_sets (c_Z_sets _ _ _ 2 1 3 14 0 (by decide) (by decide) ⟨by decide, by decide⟩ ⟨by decide, by decide⟩ ⟨by decide, by decide⟩ ⟨by decide, by decide⟩) kq_128 rfl rfl rfl (Nat.le_of_ble_eq_true rfl) (hR2.mono (by decide) (by decide)) ?_
  refine V_aload_n (pc := 231) (z := 128) K (dk k_Z_init 125 rfl) rfl ?_
  refine V_iconst (pc := 232) K (dk k_Z_init 126 rfl) rfl ?_
  refine V_iconst (pc := 233) K (dk k_Z_init 127 rfl) rfl ?_
  refine V_iconst (pc := 234) K (dk k_Z_init 128 rfl) rfl ?_
  refine V_bipush (pc := 235) (n' := 8) K (dk k_Z_init 129 rfl) rfl ?_
  refine V_iconst (pc := 237) K (dk k_Z_init 130 rfl) rfl ?_
  refine V_callV0 (pc := 238) (as := [vI 3, vI 1, vI 2, vI 8, vI 3]) K (dk k_Z_init 131 rfl) lk_Z_77 cm_Z_sets vm_Z_sets (c_Z_sets _ _ _ 3 1 2 8 3 (by decide) (by decide) ⟨by decide, by decide⟩ ⟨by decide, by decide⟩ ⟨by decide, by decide⟩ ⟨by decide, by decide⟩) kq_128 rfl rfl rfl (Nat.le_of_ble_eq_true rfl) (hR2.mono (by decide) (by decide)) ?_
  refine V_aload_n (pc := 241) (z := 128) K (dk k_Z_init 132 rfl) rfl ?_
  refine V_iconst (pc := 242) K (dk k_Z_init 133 rfl) rfl ?_
  refine V_iconst (pc := 243) K (dk k_Z_init 134 rfl) rfl ?_
  refine V_iconst (pc := 244) K (dk k_Z_init 135 rfl) rfl ?_
  refine V_iconst (pc := 245) K (dk k_Z_init 136 rfl) rfl ?_
  refine V_iconst (pc := 246) K (dk k_Z_init 137 rfl) rfl ?_
  refine V_callV0 (pc := 247) (as := [vI 4, vI 2, vI 0, vI 3, vI 1]) K (dk k_Z_init 138 rfl) lk_Z_77 cm_Z_sets vm_Z_sets (c_Z_sets _ _ _ 4 2 0 3 1 (by decide) (by decide) ⟨by decide, by decide⟩ ⟨by decide, by decide⟩ ⟨by decide, by decide⟩ ⟨by decide, by decide⟩) kq_128 rfl rfl rfl (Nat.le_of_ble_eq_true rfl) (hR2.mono (by decide) (by decide)) ?_
  refine V_aload_n (pc := 250) (z := 128) K (dk k_Z_init 139 rfl) rfl ?_
  refine V_iconst (pc := 251) K (dk k_Z_init 140 rfl) rfl ?_
  refine V_iconst (pc := 252) K (dk k_Z_init 141 rfl) rfl ?_
  refine V_iconst (pc := 253) K (dk k_Z_init 142 rfl) rfl ?_
  refine V_bipush (pc := 254) (n' := 12) K (dk k_Z_init 143 rfl) rfl ?_
  refine V_bipush (pc := 256) (n' := 15) K (dk k_Z_init 144 rfl) rfl ?_
  refine V_callV0 (pc := 258) (as := [vI 5, vI 2, vI 1, vI 12, vI 15]) K (dk k_Z_init 145 rfl) lk_Z_77 cm_Z_sets vm_Z_sets (c_Z_sets _ _ _ 5 2 1 12 15 (by decide) (by decide) ⟨by decide, by decide⟩ ⟨by decide, by decide⟩ ⟨by decide, by decide⟩ ⟨by decide, by decide⟩) kq_128 rfl rfl rfl (Nat.le_of_ble_eq_true rfl) (hR2.mono (by decide) (by decide)) ?_
  refine V_aload_n (pc := 261) (z := 128) K (dk k_Z_init 146 rfl) rfl ?_
  refine V_bipush (pc := 262) (n' := 6) K (dk k_Z_init 147 rfl) rfl ?_
  refine V_iconst (pc := 264) K (dk k_Z_init 148 rfl) rfl ?_
  refine V_iconst (pc := 265) K (dk k_Z_init 149 rfl) rfl ?_
  refine V_bipush (pc := 266) (n' := 10) K (dk k_Z_init 150 rfl) rfl ?_
  refine V_iconst (pc := 268) K (dk k_Z_init 151 rfl) rfl ?_
  refine V_callV0 (pc := 269) (as := [vI 6, vI 3, vI 0, vI 10, vI 4]) K (dk k_Z_init 152 rfl) lk_Z_77 cm_Z_sets vm_Z_sets (c_Z_sets _ _ _ 6 3 0 10 4 (by decide) (by decide) ⟨by decide, by decide⟩ ⟨by decide, by decide⟩ ⟨by decide, by decide⟩ ⟨by decide, by decide⟩) kq_128 rfl rfl rfl (Nat.le_of_ble_eq_true rfl) (hR2.mono (by decide) (by decide)) ?_
  refine V_aload_n (pc := 272) (z := 128) K (dk k_Z_init 153 rfl) rfl ?_
  refine V_bipush (pc := 273) (n' := 7) K (dk k_Z_init 154 rfl) rfl ?_
  refine V_iconst (pc := 275) K (dk k_Z_init 155 rfl) rfl ?_
  refine V_iconst (pc := 276) K (dk k_Z_init 156 rfl) rfl ?_
  refine V_iconst (pc := 277) K (dk k_Z_init 157 rfl) rfl ?_
  refine V_iconst (pc := 278) K (dk k_Z_init 158 rfl) rfl ?_
  refine V_callV0 (pc := 279) (as := [vI 7, vI 3, vI 2, vI 5, vI 5]) K (dk k_Z_init 159 rfl) lk_Z_77 cm_Z_sets vm_Z_sets (c_Z_sets _ _ _ 7 3 2 5 5 (by decide) (by decide) ⟨by decide, by decide⟩ ⟨by decide, by decide⟩ ⟨by decide, by decide⟩ ⟨by decide, by decide⟩) kq_128 rfl rfl rfl (Nat.le_of_ble_eq_true rfl) (hR2.mono (by decide) (by decide)) ?_
  refine V_aload_n (pc := 282) (z := 128) K (dk k_Z_init 160 rfl) rfl ?_
  refine V_bipush (pc := 283) (n' := 8) K (dk k_Z_init 161 rfl) rfl ?_
  refine V_puti (pc := 285) (ji := 1) K (dk k_Z_init 162 rfl) fl_Z_81 fw_9_1 kq_128 (by decide) rfl rfl ⟨by decide, by decide⟩ ?_
  refine V_aload_n (pc := 288) (z := 128) K (dk k_Z_init 163 rfl) rfl ?_
  refine V_getr (pc := 289) (o2 := 129) K (dk k_Z_init 164 rfl) fl_Z_9 kq_128 (by decide) rfl (by decide) rfl ?_
  refine V_iconst (pc := 292) K (dk k_Z_init 165 rfl) rfl ?_
  refine V_iconst (pc := 293) K (dk k_Z_init 166 rfl) rfl ?_
  refine V_iast (pc := 294) (n := 12) K (dk k_Z_init 167 rfl) kq_129 (by decide) (by decide) (by decide) ⟨by decide, by decide⟩ ?_
  refine V_aload_n (pc := 295) (z := 128) K (dk k_Z_init 168 rfl) rfl ?_
  refine V_getr (pc := 296) (o2 := 129) K (dk k_Z_init 169 rfl) fl_Z_9 kq_128 (by decide) rfl (by decide) rfl ?_
  refine V_iconst (pc := 299) K (dk k_Z_init 170 rfl) rfl ?_
  refine V_iconst (pc := 300) K (dk k_Z_init 171 rfl) rfl ?_
  refine V_iast (pc := 301) (n := 12) K (dk k_Z_init 172 rfl) kq_129 (by decide) (by decide) (by decide) ⟨by decide, by decide⟩ ?_
  refine V_aload_n (pc := 302) (z := 128) K (dk k_Z_init 173 rfl) rfl ?_
  refine V_getr (pc := 303) (o2 := 129) K (dk k_Z_init 174 rfl) fl_Z_9 kq_128 (by decide) rfl (by decide) rfl ?_
  refine V_iconst (pc := 306) K (dk k_Z_init 175 rfl) rfl ?_
  refine V_iconst (pc := 307) K (dk k_Z_init 176 rfl) rfl ?_
  refine V_iast (pc := 308) (n := 12) K (dk k_Z_init 177 rfl) kq_129 (by decide) (by decide) (by decide) ⟨by decide, by decide⟩ ?_
  refine V_aload_n (pc := 309) (z := 128) K (dk k_Z_init 178 rfl) rfl ?_
  refine V_getr (pc := 310) (o2 := 129) K (dk k_Z_init 179 rfl) fl_Z_9 kq_128 (by decide) rfl (by decide) rfl ?_
  refine V_iconst (pc := 313) K (dk k_Z_init 180 rfl) rfl ?_
  refine V_iconst (pc := 314) K (dk k_Z_init 181 rfl) rfl ?_
  refine V_iast (pc := 315) (n := 12) K (dk k_Z_init 182 rfl) kq_129 (by decide) (by decide) (by decide) ⟨by decide, by decide⟩ ?_
  refine V_aload_n (pc := 316) (z := 128) K (dk k_Z_init 183 rfl) rfl ?_
  refine V_iconst (pc := 317) K (dk k_Z_init 184 rfl) rfl ?_
  refine V_puti (pc := 318) (ji := 2) K (dk k_Z_init 185 rfl) fl_Z_84 fw_9_2 kq_128 (by decide) rfl rfl ⟨by decide, by decide⟩ ?_
  refine V_aload_n (pc := 321) (z := 128) K (dk k_Z_init 186 rfl) rfl ?_
  refine V_bipush (pc := 322) (n' := 80) K (dk k_Z_init 187 rfl) rfl ?_
  refine V_puti (pc := 324) (ji := 9) K (dk k_Z_init 188 rfl) fl_Z_87 fw_9_9 kq_128 (by decide) rfl rfl ⟨by decide, by decide⟩ ?_
  refine V_aload_n (pc := 327) (z := 128) K (dk k_Z_init 189 rfl) rfl ?_
  refine V_iconst (pc := 328) K (dk k_Z_init 190 rfl) rfl ?_
  refine V_puti (pc := 329) (ji := 3) K (dk k_Z_init 191 rfl) fl_Z_90 fw_9_3 kq_128 (by decide) rfl rfl ⟨by decide, by decide⟩ ?_
  exact V_retN (pc := 332) C E hz0 (dk k_Z_init 192 rfl) ⟨Zc_MR.fc (fun k h => Zchain_hi h0 hz h), fun a h => Zchain_lo hc h⟩
set_option maxHeartbeats 2000000 in
set_option maxRecDepth 20000 in
theorem c_Z_init (l : Launch) (G : GE) (σ : Wd) (hzo : ∀ a, 128 ≤ a → ∀ i, σ a i = 0) : CtN NoX l G y_Z_init b_Z_init 1 1 25 21 909 150 [vR 128] 128 129 150 150 σ (Zpost σ) := by
  refine CtN.of cm_Z_init (Nat.le_refl 1) rfl ?_
  intro X hXl hXG hXN hRm C hr I E hX
  have hz0 : ∀ a, 128 < a → ∀ i, σ a i = 0 := fun a h => hzo a (by omega)
  have h0_0 : σ 128 = mks [] := mks_nil (hzo 128 (Nat.le_refl _))
  have hc0 : ∀ a, a < 128 → σ a = σ a := fun _ _ => rfl
  refine VN_aload_n (pc := 0) (z := 128) C (dk k_Z_init 0 rfl) rfl ?_
  refine VN_obj (pc := 1) C (dk k_Z_init 1 rfl) ol_Z (by decide) (hRm.mono (by decide) (by decide)) ?_
  refine VN_aload_n (pc := 4) (z := 128) C (dk k_Z_init 2 rfl) rfl ?_
  refine VN_bipush (pc := 5) (n' := 12) C (dk k_Z_init 3 rfl) rfl ?_
  refine VN_newI (pc := 7) (len := 12) (wn := 129) (wn' := 130) (wc' := 1) (wq' := 12) C (dk k_Z_init 4 rfl) kq_129 (by decide) (Or.inl (by decide)) (by decide) (hz0 129 (by decide)) rfl rfl rfl (hr.le (by decide) (by decide)) ?_
  refine VN_putF (pc := 9) C I (dk k_Z_init 5 rfl) fo_Z_9 kq_128 (by decide) rfl ⟨by decide, by decide⟩ (by decide) (by decide) (by decide) rfl ?_
  have hz1 := zr_up (x := ((4 : Nat) : Int)) (y := 1) hz0
  have h0_1 := up_mks (x := ((4 : Nat) : Int)) h0_0
  have hc1 := low_up (x := ((4 : Nat) : Int)) (y := 1) hc0
  refine VN_aload_n (pc := 12) (z := 128) C (dk k_Z_init 6 rfl) rfl ?_
  refine VN_bipush (pc := 13) (n' := 8) C (dk k_Z_init 7 rfl) rfl ?_
  refine VN_newI (pc := 15) (len := 8) (wn := 130) (wn' := 131) (wc' := 2) (wq' := 20) C (dk k_Z_init 8 rfl) kq_130 (by decide) (Or.inl (by decide)) (by decide) (hz1 130 (by decide)) rfl rfl rfl (hr.le (by decide) (by decide)) ?_
  refine VN_putF (pc := 17) C I (dk k_Z_init 9 rfl) fo_Z_13 kq_128 (by decide) rfl ⟨by decide, by decide⟩ (by decide) (by decide) (by decide) rfl ?_
  have hz2 := zr_up (x := ((5 : Nat) : Int)) (y := 1) hz1
  have h0_2 := up_mks (x := ((5 : Nat) : Int)) h0_1
  have hc2 := low_up (x := ((5 : Nat) : Int)) (y := 1) hc1
  refine VN_aload_n (pc := 20) (z := 128) C (dk k_Z_init 10 rfl) rfl ?_
  refine VN_bipush (pc := 21) (n' := 8) C (dk k_Z_init 11 rfl) rfl ?_
  refine VN_newI (pc := 23) (len := 8) (wn := 131) (wn' := 132) (wc' := 3) (wq' := 28) C (dk k_Z_init 12 rfl) kq_131 (by decide) (Or.inl (by decide)) (by decide) (hz2 131 (by decide)) rfl rfl rfl (hr.le (by decide) (by decide)) ?_
  refine VN_putF (pc := 25) C I (dk k_Z_init 13 rfl) fo_Z_16 kq_128 (by decide) rfl ⟨by decide, by decide⟩ (by decide) (by decide) (by decide) rfl ?_
  have hz3 := zr_up (x := ((6 : Nat) : Int)) (y := 1) hz2
  have h0_3 := up_mks (x := ((6 : Nat) : Int)) h0_2
  have hc3 := low_up (x := ((6 : Nat) : Int)) (y := 1) hc2
  refine VN_aload_n (pc := 28) (z := 128) C (dk k_Z_init 14 rfl) rfl ?_
  refine VN_bipush (pc := 29) (n' := 8) C (dk k_Z_init 15 rfl) rfl ?_
  refine VN_newI (pc := 31) (len := 8) (wn := 132) (wn' := 133) (wc' := 4) (wq' := 36) C (dk k_Z_init 16 rfl) kq_132 (by decide) (Or.inl (by decide)) (by decide) (hz3 132 (by decide)) rfl rfl rfl (hr.le (by decide) (by decide)) ?_
  refine VN_putF (pc := 33) C I (dk k_Z_init 17 rfl) fo_Z_19 kq_128 (by decide) rfl ⟨by decide, by decide⟩ (by decide) (by decide) (by decide) rfl ?_
  have hz4 := zr_up (x := ((7 : Nat) : Int)) (y := 1) hz3
  have h0_4 := up_mks (x := ((7 : Nat) : Int)) h0_3
  have hc4 := low_up (x := ((7 : Nat) : Int)) (y := 1) hc3
  refine VN_aload_n (pc := 36) (z := 128) C (dk k_Z_init 18 rfl) rfl ?_
  refine VN_iconst (pc := 37) C (dk k_Z_init 19 rfl) rfl ?_
  refine VN_newI (pc := 38) (len := 5) (wn := 133) (wn' := 134) (wc' := 5) (wq' := 41) C (dk k_Z_init 20 rfl) kq_133 (by decide) (Or.inl (by decide)) (by decide) (hz4 133 (by decide)) rfl rfl rfl (hr.le (by decide) (by decide)) ?_
  refine VN_putF (pc := 40) C I (dk k_Z_init 21 rfl) fo_Z_22 kq_128 (by decide) rfl ⟨by decide, by decide⟩ (by decide) (by decide) (by decide) rfl ?_
  have hz5 := zr_up (x := ((10 : Nat) : Int)) (y := 1) hz4
  have h0_5 := up_mks (x := ((10 : Nat) : Int)) h0_4
  have hc5 := low_up (x := ((10 : Nat) : Int)) (y := 1) hc4
  refine VN_aload_n (pc := 43) (z := 128) C (dk k_Z_init 22 rfl) rfl ?_
  refine VN_iconst (pc := 44) C (dk k_Z_init 23 rfl) rfl ?_
  refine VN_newI (pc := 45) (len := 5) (wn := 134) (wn' := 135) (wc' := 6) (wq' := 46) C (dk k_Z_init 24 rfl) kq_134 (by decide) (Or.inl (by decide)) (by decide) (hz5 134 (by decide)) rfl rfl rfl (hr.le (by decide) (by decide)) ?_
  refine VN_putF (pc := 47) C I (dk k_Z_init 25 rfl) fo_Z_25 kq_128 (by decide) rfl ⟨by decide, by decide⟩ (by decide) (by decide) (by decide) rfl ?_
  have hz6 := zr_up (x := ((11 : Nat) : Int)) (y := 1) hz5
  have h0_6 := up_mks (x := ((11 : Nat) : Int)) h0_5
  have hc6 := low_up (x := ((11 : Nat) : Int)) (y := 1) hc5
  refine VN_aload_n (pc := 50) (z := 128) C (dk k_Z_init 26 rfl) rfl ?_
  refine VN_bipush (pc := 51) (n' := 8) C (dk k_Z_init 27 rfl) rfl ?_
  refine VN_newI (pc := 53) (len := 8) (wn := 135) (wn' := 136) (wc' := 7) (wq' := 54) C (dk k_Z_init 28 rfl) kq_135 (by decide) (Or.inl (by decide)) (by decide) (hz6 135 (by decide)) rfl rfl rfl (hr.le (by decide) (by decide)) ?_
  refine VN_putF (pc := 55) C I (dk k_Z_init 29 rfl) fo_Z_28 kq_128 (by decide) rfl ⟨by decide, by decide⟩ (by decide) (by decide) (by decide) rfl ?_
  have hz7 := zr_up (x := ((12 : Nat) : Int)) (y := 1) hz6
  have h0_7 := up_mks (x := ((12 : Nat) : Int)) h0_6
  have hc7 := low_up (x := ((12 : Nat) : Int)) (y := 1) hc6
  refine VN_aload_n (pc := 58) (z := 128) C (dk k_Z_init 30 rfl) rfl ?_
  refine VN_bipush (pc := 59) (n' := 8) C (dk k_Z_init 31 rfl) rfl ?_
  refine VN_newI (pc := 61) (len := 8) (wn := 136) (wn' := 137) (wc' := 8) (wq' := 62) C (dk k_Z_init 32 rfl) kq_136 (by decide) (Or.inl (by decide)) (by decide) (hz7 136 (by decide)) rfl rfl rfl (hr.le (by decide) (by decide)) ?_
  refine VN_putF (pc := 63) C I (dk k_Z_init 33 rfl) fo_Z_31 kq_128 (by decide) rfl ⟨by decide, by decide⟩ (by decide) (by decide) (by decide) rfl ?_
  have hz8 := zr_up (x := ((13 : Nat) : Int)) (y := 1) hz7
  have h0_8 := up_mks (x := ((13 : Nat) : Int)) h0_7
  have hc8 := low_up (x := ((13 : Nat) : Int)) (y := 1) hc7
  refine VN_aload_n (pc := 66) (z := 128) C (dk k_Z_init 34 rfl) rfl ?_
  refine VN_bipush (pc := 67) (n' := 6) C (dk k_Z_init 35 rfl) rfl ?_
  refine VN_newI (pc := 69) (len := 6) (wn := 137) (wn' := 138) (wc' := 9) (wq' := 68) C (dk k_Z_init 36 rfl) kq_137 (by decide) (Or.inl (by decide)) (by decide) (hz8 137 (by decide)) rfl rfl rfl (hr.le (by decide) (by decide)) ?_
  refine VN_putF (pc := 71) C I (dk k_Z_init 37 rfl) fo_Z_34 kq_128 (by decide) rfl ⟨by decide, by decide⟩ (by decide) (by decide) (by decide) rfl ?_
  have hz9 := zr_up (x := ((15 : Nat) : Int)) (y := 1) hz8
  have h0_9 := up_mks (x := ((15 : Nat) : Int)) h0_8
  have hc9 := low_up (x := ((15 : Nat) : Int)) (y := 1) hc8
  refine VN_aload_n (pc := 74) (z := 128) C (dk k_Z_init 38 rfl) rfl ?_
  refine VN_bipush (pc := 75) (n' := 6) C (dk k_Z_init 39 rfl) rfl ?_
  refine VN_newI (pc := 77) (len := 6) (wn := 138) (wn' := 139) (wc' := 10) (wq' := 74) C (dk k_Z_init 40 rfl) kq_138 (by decide) (Or.inl (by decide)) (by decide) (hz9 138 (by decide)) rfl rfl rfl (hr.le (by decide) (by decide)) ?_
  refine VN_putF (pc := 79) C I (dk k_Z_init 41 rfl) fo_Z_37 kq_128 (by decide) rfl ⟨by decide, by decide⟩ (by decide) (by decide) (by decide) rfl ?_
  have hz10 := zr_up (x := ((16 : Nat) : Int)) (y := 1) hz9
  have h0_10 := up_mks (x := ((16 : Nat) : Int)) h0_9
  have hc10 := low_up (x := ((16 : Nat) : Int)) (y := 1) hc9
  refine VN_aload_n (pc := 82) (z := 128) C (dk k_Z_init 42 rfl) rfl ?_
  refine VN_bipush (pc := 83) (n' := 6) C (dk k_Z_init 43 rfl) rfl ?_
  refine VN_newI (pc := 85) (len := 6) (wn := 139) (wn' := 140) (wc' := 11) (wq' := 80) C (dk k_Z_init 44 rfl) kq_139 (by decide) (Or.inl (by decide)) (by decide) (hz10 139 (by decide)) rfl rfl rfl (hr.le (by decide) (by decide)) ?_
  refine VN_putF (pc := 87) C I (dk k_Z_init 45 rfl) fo_Z_40 kq_128 (by decide) rfl ⟨by decide, by decide⟩ (by decide) (by decide) (by decide) rfl ?_
  have hz11 := zr_up (x := ((17 : Nat) : Int)) (y := 1) hz10
  have h0_11 := up_mks (x := ((17 : Nat) : Int)) h0_10
  have hc11 := low_up (x := ((17 : Nat) : Int)) (y := 1) hc10
  refine VN_aload_n (pc := 90) (z := 128) C (dk k_Z_init 46 rfl) rfl ?_
  refine VN_sipush (pc := 91) (n' := 200) C (dk k_Z_init 47 rfl) rfl ?_
  refine VN_newI (pc := 94) (len := 200) (wn := 140) (wn' := 141) (wc' := 12) (wq' := 280) C (dk k_Z_init 48 rfl) kq_140 (by decide) (Or.inl (by decide)) (by decide) (hz11 140 (by decide)) rfl rfl rfl (hr.le (by decide) (by decide)) ?_
  refine VN_putF (pc := 96) C I (dk k_Z_init 49 rfl) fo_Z_43 kq_128 (by decide) rfl ⟨by decide, by decide⟩ (by decide) (by decide) (by decide) rfl ?_
  have hz12 := zr_up (x := ((18 : Nat) : Int)) (y := 1) hz11
  have h0_12 := up_mks (x := ((18 : Nat) : Int)) h0_11
  have hc12 := low_up (x := ((18 : Nat) : Int)) (y := 1) hc11
  refine VN_aload_n (pc := 99) (z := 128) C (dk k_Z_init 50 rfl) rfl ?_
  refine VN_iconst (pc := 100) C (dk k_Z_init 51 rfl) rfl ?_
  refine VN_newI (pc := 101) (len := 5) (wn := 141) (wn' := 142) (wc' := 13) (wq' := 285) C (dk k_Z_init 52 rfl) kq_141 (by decide) (Or.inl (by decide)) (by decide) (hz12 141 (by decide)) rfl rfl rfl (hr.le (by decide) (by decide)) ?_
  refine VN_putF (pc := 103) C I (dk k_Z_init 53 rfl) fo_Z_46 kq_128 (by decide) rfl ⟨by decide, by decide⟩ (by decide) (by decide) (by decide) rfl ?_
  have hz13 := zr_up (x := ((26 : Nat) : Int)) (y := 1) hz12
  have h0_13 := up_mks (x := ((26 : Nat) : Int)) h0_12
  have hc13 := low_up (x := ((26 : Nat) : Int)) (y := 1) hc12
  refine VN_aload_n (pc := 106) (z := 128) C (dk k_Z_init 54 rfl) rfl ?_
  refine VN_bipush (pc := 107) (n' := 32) C (dk k_Z_init 55 rfl) rfl ?_
  refine VN_newI (pc := 109) (len := 32) (wn := 142) (wn' := 143) (wc' := 14) (wq' := 317) C (dk k_Z_init 56 rfl) kq_142 (by decide) (Or.inl (by decide)) (by decide) (hz13 142 (by decide)) rfl rfl rfl (hr.le (by decide) (by decide)) ?_
  refine VN_putF (pc := 111) C I (dk k_Z_init 57 rfl) fo_Z_49 kq_128 (by decide) rfl ⟨by decide, by decide⟩ (by decide) (by decide) (by decide) rfl ?_
  have hz14 := zr_up (x := ((27 : Nat) : Int)) (y := 1) hz13
  have h0_14 := up_mks (x := ((27 : Nat) : Int)) h0_13
  have hc14 := low_up (x := ((27 : Nat) : Int)) (y := 1) hc13
  refine VN_aload_n (pc := 114) (z := 128) C (dk k_Z_init 58 rfl) rfl ?_
  refine VN_bipush (pc := 115) (n' := 12) C (dk k_Z_init 59 rfl) rfl ?_
  refine VN_newI (pc := 117) (len := 12) (wn := 143) (wn' := 144) (wc' := 15) (wq' := 329) C (dk k_Z_init 60 rfl) kq_143 (by decide) (Or.inl (by decide)) (by decide) (hz14 143 (by decide)) rfl rfl rfl (hr.le (by decide) (by decide)) ?_
  refine VN_putF (pc := 119) C I (dk k_Z_init 61 rfl) fo_Z_52 kq_128 (by decide) rfl ⟨by decide, by decide⟩ (by decide) (by decide) (by decide) rfl ?_
  have hz15 := zr_up (x := ((28 : Nat) : Int)) (y := 1) hz14
  have h0_15 := up_mks (x := ((28 : Nat) : Int)) h0_14
  have hc15 := low_up (x := ((28 : Nat) : Int)) (y := 1) hc14
  refine VN_aload_n (pc := 122) (z := 128) C (dk k_Z_init 62 rfl) rfl ?_
  refine VN_sipush (pc := 123) (n' := 224) C (dk k_Z_init 63 rfl) rfl ?_
  refine VN_newI (pc := 126) (len := 224) (wn := 144) (wn' := 145) (wc' := 16) (wq' := 553) C (dk k_Z_init 64 rfl) kq_144 (by decide) (Or.inl (by decide)) (by decide) (hz15 144 (by decide)) rfl rfl rfl (hr.le (by decide) (by decide)) ?_
  refine VN_putF (pc := 128) C I (dk k_Z_init 65 rfl) fo_Z_55 kq_128 (by decide) rfl ⟨by decide, by decide⟩ (by decide) (by decide) (by decide) rfl ?_
  have hz16 := zr_up (x := ((30 : Nat) : Int)) (y := 1) hz15
  have h0_16 := up_mks (x := ((30 : Nat) : Int)) h0_15
  have hc16 := low_up (x := ((30 : Nat) : Int)) (y := 1) hc15
  refine VN_aload_n (pc := 131) (z := 128) C (dk k_Z_init 66 rfl) rfl ?_
  refine VN_bipush (pc := 132) (n' := 28) C (dk k_Z_init 67 rfl) rfl ?_
  refine VN_newI (pc := 134) (len := 28) (wn := 145) (wn' := 146) (wc' := 17) (wq' := 581) C (dk k_Z_init 68 rfl) kq_145 (by decide) (Or.inl (by decide)) (by decide) (hz16 145 (by decide)) rfl rfl rfl (hr.le (by decide) (by decide)) ?_
  refine VN_putF (pc := 136) C I (dk k_Z_init 69 rfl) fo_Z_58 kq_128 (by decide) rfl ⟨by decide, by decide⟩ (by decide) (by decide) (by decide) rfl ?_
  have hz17 := zr_up (x := ((32 : Nat) : Int)) (y := 1) hz16
  have h0_17 := up_mks (x := ((32 : Nat) : Int)) h0_16
  have hc17 := low_up (x := ((32 : Nat) : Int)) (y := 1) hc16
  refine VN_aload_n (pc := 139) (z := 128) C (dk k_Z_init 70 rfl) rfl ?_
  refine VN_bipush (pc := 140) (n' := 8) C (dk k_Z_init 71 rfl) rfl ?_
  refine VN_newI (pc := 142) (len := 8) (wn := 146) (wn' := 147) (wc' := 18) (wq' := 589) C (dk k_Z_init 72 rfl) kq_146 (by decide) (Or.inl (by decide)) (by decide) (hz17 146 (by decide)) rfl rfl rfl (hr.le (by decide) (by decide)) ?_
  refine VN_putF (pc := 144) C I (dk k_Z_init 73 rfl) fo_Z_61 kq_128 (by decide) rfl ⟨by decide, by decide⟩ (by decide) (by decide) (by decide) rfl ?_
  have hz18 := zr_up (x := ((34 : Nat) : Int)) (y := 1) hz17
  have h0_18 := up_mks (x := ((34 : Nat) : Int)) h0_17
  have hc18 := low_up (x := ((34 : Nat) : Int)) (y := 1) hc17
  refine VN_aload_n (pc := 147) (z := 128) C (dk k_Z_init 74 rfl) rfl ?_
  refine VN_bipush (pc := 148) (n' := 8) C (dk k_Z_init 75 rfl) rfl ?_
  refine VN_newI (pc := 150) (len := 8) (wn := 147) (wn' := 148) (wc' := 19) (wq' := 597) C (dk k_Z_init 76 rfl) kq_147 (by decide) (Or.inl (by decide)) (by decide) (hz18 147 (by decide)) rfl rfl rfl (hr.le (by decide) (by decide)) ?_
  refine VN_putF (pc := 152) C I (dk k_Z_init 77 rfl) fo_Z_64 kq_128 (by decide) rfl ⟨by decide, by decide⟩ (by decide) (by decide) (by decide) rfl ?_
  have hz19 := zr_up (x := ((35 : Nat) : Int)) (y := 1) hz18
  have h0_19 := up_mks (x := ((35 : Nat) : Int)) h0_18
  have hc19 := low_up (x := ((35 : Nat) : Int)) (y := 1) hc18
  refine VN_aload_n (pc := 155) (z := 128) C (dk k_Z_init 78 rfl) rfl ?_
  refine VN_sipush (pc := 156) (n' := 256) C (dk k_Z_init 79 rfl) rfl ?_
  refine VN_newI (pc := 159) (len := 256) (wn := 148) (wn' := 149) (wc' := 20) (wq' := 853) C (dk k_Z_init 80 rfl) kq_148 (by decide) (Or.inl (by decide)) (by decide) (hz19 148 (by decide)) rfl rfl rfl (hr.le (by decide) (by decide)) ?_
  refine VN_putF (pc := 161) C I (dk k_Z_init 81 rfl) fo_Z_67 kq_128 (by decide) rfl ⟨by decide, by decide⟩ (by decide) (by decide) (by decide) rfl ?_
  have hz20 := zr_up (x := ((36 : Nat) : Int)) (y := 1) hz19
  have h0_20 := up_mks (x := ((36 : Nat) : Int)) h0_19
  have hc20 := low_up (x := ((36 : Nat) : Int)) (y := 1) hc19
  refine VN_aload_n (pc := 164) (z := 128) C (dk k_Z_init 82 rfl) rfl ?_
  refine VN_bipush (pc := 165) (n' := 56) C (dk k_Z_init 83 rfl) rfl ?_
  refine VN_newI (pc := 167) (len := 56) (wn := 149) (wn' := 150) (wc' := 21) (wq' := 909) C (dk k_Z_init 84 rfl) kq_149 (by decide) (Or.inl (by decide)) (by decide) (hz20 149 (by decide)) rfl rfl rfl (hr.le (by decide) (by decide)) ?_
  refine VN_putF (pc := 169) C I (dk k_Z_init 85 rfl) fo_Z_70 kq_128 (by decide) rfl ⟨by decide, by decide⟩ (by decide) (by decide) (by decide) rfl ?_
  have hz21 := zr_up (x := ((37 : Nat) : Int)) (y := 1) hz20
  have h0_21 := up_mks (x := ((37 : Nat) : Int)) h0_20
  have hc21 := low_up (x := ((37 : Nat) : Int)) (y := 1) hc20
  revert hz21 h0_21 hc21
  exact Z_rest hXl hXG hXN hRm C hr E _
