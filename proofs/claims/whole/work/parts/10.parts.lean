theorem kq_0 : kd 0 = 8 := by decide +kernel
theorem kq_1 : kd 1 = 2 := by decide +kernel
theorem kq_2 : kd 2 = 2000 + 200 := by decide +kernel
theorem kq_3 : kd 3 = 6 := by decide +kernel
theorem kq_4 : kd 4 = 1000 + 4 := by decide +kernel
theorem kq_5 : kd 5 = 5 := by decide +kernel
theorem kq_6 : kd 6 = 1000 + 5 := by decide +kernel
theorem kq_7 : kd 7 = 1000 + 8 := by decide +kernel
theorem kq_8 : kd 8 = 1000 + 8 := by decide +kernel
theorem kq_9 : kd 9 = 1000 + 8 := by decide +kernel
theorem kq_10 : kd 10 = 1000 + 8 := by decide +kernel
theorem kq_11 : kd 11 = 1000 + 12 := by decide +kernel
theorem kq_12 : kd 12 = 5 := by decide +kernel
theorem kq_13 : kd 13 = 1000 + 5 := by decide +kernel
theorem kq_14 : kd 14 = 1000 + 8 := by decide +kernel
theorem kq_15 : kd 15 = 1000 + 8 := by decide +kernel
theorem kq_16 : kd 16 = 1000 + 8 := by decide +kernel
theorem kq_17 : kd 17 = 1000 + 8 := by decide +kernel
theorem kq_18 : kd 18 = 1000 + 12 := by decide +kernel
theorem kq_19 : kd 19 = 7 := by decide +kernel
theorem kq_20 : kd 20 = 1000 + 5 := by decide +kernel
theorem kq_21 : kd 21 = 1000 + 5 := by decide +kernel
theorem kq_22 : kd 22 = 1000 + 8 := by decide +kernel
theorem kq_23 : kd 23 = 1000 + 8 := by decide +kernel
theorem kq_24 : kd 24 = 7 := by decide +kernel
theorem kq_25 : kd 25 = 1000 + 5 := by decide +kernel
theorem kq_26 : kd 26 = 1000 + 5 := by decide +kernel
theorem kq_27 : kd 27 = 1000 + 8 := by decide +kernel
theorem kq_28 : kd 28 = 1000 + 8 := by decide +kernel
theorem kq_29 : kd 29 = 4 := by decide +kernel
theorem kq_30 : kd 30 = 3000 := by decide +kernel
theorem kq_31 : kd 31 = 7 := by decide +kernel
theorem kq_32 : kd 32 = 1000 + 5 := by decide +kernel
theorem kq_33 : kd 33 = 1000 + 5 := by decide +kernel
theorem kq_34 : kd 34 = 1000 + 8 := by decide +kernel
theorem kq_35 : kd 35 = 1000 + 8 := by decide +kernel
theorem kq_36 : kd 36 = 7 := by decide +kernel
theorem kq_37 : kd 37 = 1000 + 5 := by decide +kernel
theorem kq_38 : kd 38 = 1000 + 5 := by decide +kernel
theorem kq_39 : kd 39 = 1000 + 8 := by decide +kernel
theorem kq_40 : kd 40 = 1000 + 8 := by decide +kernel
theorem kq_41 : kd 41 = 7 := by decide +kernel
theorem kq_42 : kd 42 = 1000 + 5 := by decide +kernel
theorem kq_43 : kd 43 = 1000 + 5 := by decide +kernel
theorem kq_44 : kd 44 = 1000 + 8 := by decide +kernel
theorem kq_45 : kd 45 = 1000 + 8 := by decide +kernel
theorem kq_46 : kd 46 = 7 := by decide +kernel
theorem kq_47 : kd 47 = 1000 + 5 := by decide +kernel
theorem kq_48 : kd 48 = 1000 + 5 := by decide +kernel
theorem kq_49 : kd 49 = 1000 + 8 := by decide +kernel
theorem kq_50 : kd 50 = 1000 + 8 := by decide +kernel
theorem kq_51 : kd 51 = 7 := by decide +kernel
theorem kq_52 : kd 52 = 1000 + 5 := by decide +kernel
theorem kq_53 : kd 53 = 1000 + 5 := by decide +kernel
theorem kq_54 : kd 54 = 1000 + 8 := by decide +kernel
theorem kq_55 : kd 55 = 1000 + 8 := by decide +kernel
theorem kq_56 : kd 56 = 7 := by decide +kernel
theorem kq_57 : kd 57 = 1000 + 5 := by decide +kernel
theorem kq_58 : kd 58 = 1000 + 5 := by decide +kernel
theorem kq_59 : kd 59 = 1000 + 8 := by decide +kernel
theorem kq_60 : kd 60 = 1000 + 8 := by decide +kernel
theorem kq_61 : kd 61 = 7 := by decide +kernel
theorem kq_62 : kd 62 = 1000 + 5 := by decide +kernel
theorem kq_63 : kd 63 = 1000 + 5 := by decide +kernel
theorem kq_64 : kd 64 = 1000 + 8 := by decide +kernel
theorem kq_65 : kd 65 = 1000 + 8 := by decide +kernel
theorem kq_66 : kd 66 = 7 := by decide +kernel
theorem kq_67 : kd 67 = 1000 + 5 := by decide +kernel
theorem kq_68 : kd 68 = 1000 + 5 := by decide +kernel
theorem kq_69 : kd 69 = 1000 + 8 := by decide +kernel
theorem kq_70 : kd 70 = 1000 + 8 := by decide +kernel
theorem kq_71 : kd 71 = 4 := by decide +kernel
theorem kq_72 : kd 72 = 3000 := by decide +kernel
theorem kq_73 : kd 73 = 7 := by decide +kernel
theorem kq_74 : kd 74 = 1000 + 5 := by decide +kernel
theorem kq_75 : kd 75 = 1000 + 5 := by decide +kernel
theorem kq_76 : kd 76 = 1000 + 8 := by decide +kernel
theorem kq_77 : kd 77 = 1000 + 8 := by decide +kernel
theorem kq_78 : kd 78 = 7 := by decide +kernel
theorem kq_79 : kd 79 = 1000 + 5 := by decide +kernel
theorem kq_80 : kd 80 = 1000 + 5 := by decide +kernel
theorem kq_81 : kd 81 = 1000 + 8 := by decide +kernel
theorem kq_82 : kd 82 = 1000 + 8 := by decide +kernel
theorem kq_83 : kd 83 = 7 := by decide +kernel
theorem kq_84 : kd 84 = 1000 + 5 := by decide +kernel
theorem kq_85 : kd 85 = 1000 + 5 := by decide +kernel
theorem kq_86 : kd 86 = 1000 + 8 := by decide +kernel
theorem kq_87 : kd 87 = 1000 + 8 := by decide +kernel
theorem kq_88 : kd 88 = 7 := by decide +kernel
theorem kq_89 : kd 89 = 1000 + 5 := by decide +kernel
theorem kq_90 : kd 90 = 1000 + 5 := by decide +kernel
theorem kq_91 : kd 91 = 1000 + 8 := by decide +kernel
theorem kq_92 : kd 92 = 1000 + 8 := by decide +kernel
theorem kq_93 : kd 93 = 7 := by decide +kernel
theorem kq_94 : kd 94 = 1000 + 5 := by decide +kernel
theorem kq_95 : kd 95 = 1000 + 5 := by decide +kernel
theorem kq_96 : kd 96 = 1000 + 8 := by decide +kernel
theorem kq_97 : kd 97 = 1000 + 8 := by decide +kernel
theorem kq_98 : kd 98 = 7 := by decide +kernel
theorem kq_99 : kd 99 = 1000 + 5 := by decide +kernel
theorem kq_100 : kd 100 = 1000 + 5 := by decide +kernel
theorem kq_101 : kd 101 = 1000 + 8 := by decide +kernel
theorem kq_102 : kd 102 = 1000 + 8 := by decide +kernel
theorem kq_103 : kd 103 = 7 := by decide +kernel
theorem kq_104 : kd 104 = 1000 + 5 := by decide +kernel
theorem kq_105 : kd 105 = 1000 + 5 := by decide +kernel
theorem kq_106 : kd 106 = 1000 + 8 := by decide +kernel
theorem kq_107 : kd 107 = 1000 + 8 := by decide +kernel
theorem kq_108 : kd 108 = 7 := by decide +kernel
theorem kq_109 : kd 109 = 1000 + 5 := by decide +kernel
theorem kq_110 : kd 110 = 1000 + 5 := by decide +kernel
theorem kq_111 : kd 111 = 1000 + 8 := by decide +kernel
theorem kq_112 : kd 112 = 1000 + 8 := by decide +kernel
theorem kq_113 : kd 113 = 3 := by decide +kernel
theorem kq_114 : kd 114 = 1000 + 6 := by decide +kernel
theorem kq_115 : kd 115 = 1000 + 6 := by decide +kernel
theorem kq_116 : kd 116 = 1000 + 6 := by decide +kernel
theorem kq_117 : kd 117 = 0 := by decide +kernel
theorem kq_118 : kd 118 = 1000 + 8 := by decide +kernel
theorem kq_119 : kd 119 = 1000 + 8 := by decide +kernel
theorem kq_120 : kd 120 = 1000 + 256 := by decide +kernel
theorem kq_121 : kd 121 = 1000 + 256 := by decide +kernel
theorem kq_122 : kd 122 = 1 := by decide +kernel
theorem kq_123 : kd 123 = 1000 + 8 := by decide +kernel
theorem kq_124 : kd 124 = 1000 + 5 := by decide +kernel
theorem kq_125 : kd 125 = 1000 + 5 := by decide +kernel
theorem kq_126 : kd 126 = 1000 + 108 := by decide +kernel
theorem kq_127 : kd 127 = 1000 + 8 := by decide +kernel
theorem kq_128 : kd 128 = 9 := by decide +kernel
theorem kq_129 : kd 129 = 1000 + 12 := by decide +kernel
theorem kq_130 : kd 130 = 1000 + 8 := by decide +kernel
theorem kq_131 : kd 131 = 1000 + 8 := by decide +kernel
theorem kq_132 : kd 132 = 1000 + 8 := by decide +kernel
theorem kq_133 : kd 133 = 1000 + 5 := by decide +kernel
theorem kq_134 : kd 134 = 1000 + 5 := by decide +kernel
theorem kq_135 : kd 135 = 1000 + 8 := by decide +kernel
theorem kq_136 : kd 136 = 1000 + 8 := by decide +kernel
theorem kq_137 : kd 137 = 1000 + 6 := by decide +kernel
theorem kq_138 : kd 138 = 1000 + 6 := by decide +kernel
theorem kq_139 : kd 139 = 1000 + 6 := by decide +kernel
theorem kq_140 : kd 140 = 1000 + 200 := by decide +kernel
theorem kq_141 : kd 141 = 1000 + 5 := by decide +kernel
theorem kq_142 : kd 142 = 1000 + 32 := by decide +kernel
theorem kq_143 : kd 143 = 1000 + 12 := by decide +kernel
theorem kq_144 : kd 144 = 1000 + 224 := by decide +kernel
theorem kq_145 : kd 145 = 1000 + 28 := by decide +kernel
theorem kq_146 : kd 146 = 1000 + 8 := by decide +kernel
theorem kq_147 : kd 147 = 1000 + 8 := by decide +kernel
theorem kq_148 : kd 148 = 1000 + 256 := by decide +kernel
theorem kq_149 : kd 149 = 1000 + 56 := by decide +kernel
/-- a row with 0 in it, as far as n -/
def zpw (σ : Wd) (b : Nat) (n : Int) : Wd := fun k i => if k = b ∧ 0 ≤ i ∧ i < n then 0 else σ k i
theorem zpw_0 (σ : Wd) (b : Nat) : zpw σ b 0 = σ := by
  funext k i; unfold zpw; rw [if_neg (by omega)]
theorem zpw_s (σ : Wd) (b : Nat) (i : Int) (h0 : 0 ≤ i) : up (zpw σ b i) b i 0 = zpw σ b (i + 1) := by
  funext k j
  unfold up zpw
  by_cases hk : k = b
  · by_cases hj : j = i
    · rw [if_pos ⟨hk, hj⟩, if_pos ⟨hk, by omega, by omega⟩]
    · rw [if_neg (fun q => hj q.2)]
      by_cases h2 : 0 ≤ j ∧ j < i
      · rw [if_pos ⟨hk, h2⟩, if_pos ⟨hk, by omega, by omega⟩]
      · rw [if_neg (fun q => h2 q.2), if_neg (fun q => h2 ⟨q.2.1, by omega⟩)]
  · rw [if_neg (fun q => hk q.1), if_neg (fun q => hk q.1), if_neg (fun q => hk q.1)]
theorem zpw_ne (σ : Wd) (b k : Nat) (n i : Int) (h : k ≠ b) : zpw σ b n k i = σ k i := by
  unfold zpw; rw [if_neg (fun q => h q.1)]
theorem zpw_in (σ : Wd) (b : Nat) (n i : Int) (h0 : 0 ≤ i) (h1 : i < n) : zpw σ b n b i = 0 := by
  unfold zpw; rw [if_pos ⟨rfl, h0, h1⟩]
theorem p2_b {i : Int} (h0 : 0 ≤ i) (h : i ≤ 8) : 1 ≤ (2 : Int) ^ i.toNat ∧ (2 : Int) ^ i.toNat ≤ 256 := by
  have key : ∀ n : Fin 9, 1 ≤ (2 : Int) ^ n.val ∧ (2 : Int) ^ n.val ≤ 256 := by decide
  have := key ⟨i.toNat, by omega⟩
  exact this
/-- a set of the first things, as bits -/
def bs (c : Int → Bool) (n : Nat) : Int := sm (fun t => if c t then 2 ^ t.toNat else 0) n
theorem bs_b (c : Int → Bool) : ∀ n : Nat, 0 ≤ bs c n ∧ bs c n < 2 ^ n
  | 0 => by simp [bs, sm]
  | n + 1 => by
    obtain ⟨h1, h2⟩ := bs_b c n
    have e : bs c (n + 1) = bs c n + (if c n then 2 ^ (n : Int).toNat else 0) := rfl
    rw [e, Int.pow_succ, Int.toNat_natCast]
    split <;> omega
theorem bs_s (c : Int → Bool) (n : Nat) : bs c (n + 1) = bs c n + (if c n then 2 ^ n else 0) := by
  show sm _ n + (if c n then 2 ^ (n : Int).toNat else 0) = sm _ n + _
  rw [Int.toNat_natCast]
theorem bs_or (c : Int → Bool) (n : Nat) : (((bs c n).toNat ||| ((1 : Int) * 2 ^ (n : Int).toNat).toNat : Nat) : Int) = bs c n + 2 ^ n := by
  obtain ⟨h1, h2⟩ := bs_b c n
  obtain ⟨b, hb⟩ := Int.eq_ofNat_of_zero_le h1
  rw [hb] at h2 ⊢
  have h3 : b < 2 ^ n := by
    have : ((b : Nat) : Int) < ((2 ^ n : Nat) : Int) := by rw [Int.natCast_pow]; exact h2
    omega
  have h4 : ((1 : Int) * 2 ^ (n : Int).toNat).toNat = 2 ^ n := by
    rw [Int.one_mul, Int.toNat_natCast]
    have : (2 : Int) ^ n = ((2 ^ n : Nat) : Int) := by rw [Int.natCast_pow]; rfl
    rw [this, Int.toNat_natCast]
  rw [h4, Int.toNat_natCast, Nat.or_comm]
  have h5 := Nat.two_pow_add_eq_or_of_lt h3 1
  rw [Nat.mul_one] at h5
  rw [← h5, Int.natCast_add, Int.natCast_pow, Int.add_comm]; rfl
theorem bs_p8 {n : Nat} (h : n < 8) : (1 : Int) * 2 ^ (n : Int).toNat < 2147483648 ∧ 0 ≤ (1 : Int) * 2 ^ (n : Int).toNat := by
  have := p2_b (i := n) (by omega) (by omega)
  omega
theorem bs_256 (c : Int → Bool) {n : Nat} (h : n ≤ 8) : 0 ≤ bs c n ∧ bs c n < 256 := by
  have h1 := bs_b c n
  have h2 := p2_b (i := n) (by omega) (by omega)
  rw [Int.toNat_natCast] at h2
  omega

def i_S_begin : List (Nat × (Instr × Nat)) := [(0, (.aload_n 0, 1)), (1, (.iconst 0, 1)), (2, (.putfield 24, 3)), (5, (.aload_n 0, 1)), (6, (.aload_n 1, 1)), (7, (.getfield 28, 3)), (10, (.putfield 33, 3)), (13, (.aload_n 1, 1)), (14, (.getfield 34, 3)), (17, (.aload_n 0, 1)), (18, (.getfield 9, 3)), (21, (.invokestatic 35, 3)), (24, (.aload_n 1, 1)), (25, (.getfield 39, 3)), (28, (.aload_n 0, 1)), (29, (.getfield 18, 3)), (32, (.invokestatic 35, 3)), (35, (.iconst 0, 1)), (36, (.istore_n 2, 1)), (37, (.iload_n 2, 1)), (38, (.iconst 5, 1)), (39, (.if_icmp .ge 18, 3)), (42, (.aload_n 0, 1)), (43, (.getfield 15, 3)), (46, (.iload_n 2, 1)), (47, (.iconst 0, 1)), (48, (.invokestatic 40, 3)), (51, (.iinc 2 1, 3)), (54, (.goto (-17), 3)), (57, (.iconst 0, 1)), (58, (.istore_n 2, 1)), (59, (.iload_n 2, 1)), (60, (.bipush 8, 2)), (62, (.if_icmp .ge 18, 3)), (65, (.aload_n 0, 1)), (66, (.getfield 21, 3)), (69, (.iload_n 2, 1)), (70, (.iconst 0, 1)), (71, (.invokestatic 40, 3)), (74, (.iinc 2 1, 3)), (77, (.goto (-18), 3)), (80, (.return_, 1))]
theorem k_S_begin : i_S_begin.all (fun q => decide (decode b_S_begin q.1 = .ok q.2)) = true := by decide +kernel

set_option maxHeartbeats 1000000 in
set_option maxRecDepth 20000 in
theorem c_S_begin (l : Launch) (G : GE) (σ : Wd) (s p : Nat) (hs : kd s = 7) (hp : kd p = 5) : Ct l G y_S_begin b_S_begin 3 (none) 2 44 [vR s, vR p] σ (Rt none (fun σ' => (σ' s 0 = 0 ∧ σ' s 1 = σ p 9 ∧ (∀ i : Int, 0 ≤ i → i < 5 → σ' (s + 1) i = σ (p + 1) i ∧ σ' (s + 2) i = 0) ∧ (∀ i : Int, 0 ≤ i → i < 8 → σ' (s + 3) i = σ (p + 4) i ∧ σ' (s + 4) i = 0)) ∧ Fr s 5 σ σ')) := by
  refine Ct.of cm_S_begin (Nat.le_of_ble_eq_true rfl) ?_
  intro X hXl hXG hXN hRm C E
  subst hXl; subst hXG
  show V X 0 [some (vR s), some (vR p), none] [] σ
  refine V_R (fun hR => ?_)
  obtain ⟨hs_1, hs_2, hs_3, hs_4⟩ := kd_S hs
  obtain ⟨hp_1, hp_2, hp_3, hp_4, hp_5, hp_6⟩ := kd_P hp
  have hd := kd_PS hp hs
  refine V_aload_n (pc := 0) C (dk k_S_begin 0 rfl) rfl ?_
  refine V_iconst (pc := 1) C (dk k_S_begin 1 rfl) rfl ?_
  refine V_puti (pc := 2) (ji := 0) C (dk k_S_begin 2 rfl) fl_S_24 fw_7_0 hs (by decide) rfl rfl R0 ?_
  refine V_R (fun hR => ?_)
  refine V_aload_n (pc := 5) C (dk k_S_begin 3 rfl) rfl ?_
  refine V_aload_n (pc := 6) C (dk k_S_begin 4 rfl) rfl ?_
  refine V_geti (pc := 7) (ji := 9) C (dk k_S_begin 5 rfl) fl_S_28 hp (by decide) rfl rfl ?_
  refine V_puti (pc := 10) (ji := 1) C (dk k_S_begin 6 rfl) fl_S_33 fw_7_1 hs (by decide) rfl rfl (hR _ _) ?_
  refine V_R (fun hR => ?_)
  refine V_aload_n (pc := 13) C (dk k_S_begin 7 rfl) rfl ?_
  refine V_getr (pc := 14) (o2 := p + 1) C (dk k_S_begin 8 rfl) fl_S_34 hp (by decide) rfl (by decide) rfl ?_
  refine V_aload_n (pc := 17) C (dk k_S_begin 9 rfl) rfl ?_
  refine V_getr (pc := 18) (o2 := s + 1) C (dk k_S_begin 10 rfl) fl_S_9 hs (by decide) rfl (by decide) rfl ?_
  refine V_callS0 (pc := 21) C (dk k_S_begin 11 rfl) lk_S_35 cm_F_copyRow sm_F_copyRow (c_F_copyRow _ _ _ (p + 1) (s + 1) 5 hp_1 hs_1 (by decide) (by omega)) rfl rfl (Nat.le_of_ble_eq_true rfl) (Rm.mono hRm (by decide) (by decide)) ?_
  refine V_R (fun hR => ?_)
  refine V_aload_n (pc := 24) C (dk k_S_begin 12 rfl) rfl ?_
  refine V_getr (pc := 25) (o2 := p + 4) C (dk k_S_begin 13 rfl) fl_S_39 hp (by decide) rfl (by decide) rfl ?_
  refine V_aload_n (pc := 28) C (dk k_S_begin 14 rfl) rfl ?_
  refine V_getr (pc := 29) (o2 := s + 3) C (dk k_S_begin 15 rfl) fl_S_18 hs (by decide) rfl (by decide) rfl ?_
  refine V_callS0 (pc := 32) C (dk k_S_begin 16 rfl) lk_S_35 cm_F_copyRow sm_F_copyRow (c_F_copyRow _ _ _ (p + 4) (s + 3) 8 hp_4 hs_3 (by decide) (by omega)) rfl rfl (Nat.le_of_ble_eq_true rfl) (Rm.mono hRm (by decide) (by decide)) ?_
  refine V_R (fun hR => ?_)
  generalize hτ : cpw _ (p + 4) (s + 3) _ = τ at hR ⊢
  refine V_iconst (pc := 35) C (dk k_S_begin 17 rfl) rfl ?_
  refine V_istore_n (pc := 36) C (dk k_S_begin 18 rfl) (by rw [hXN]; decide) ?_
  dsimp only [lst, lstL, lz, kill, Fin.val, Nat.reduceAdd]
  refine V_eq (V_loop (fun i : Int => 0 ≤ i ∧ i ≤ 5) (fun i => [some (vR s), some (vR p), some (vI i)]) (fun i => zpw τ (s + 2) i) (fun i => (5 - i).toNat) (fun i hi ih => ?_) 0 ⟨by omega, by omega⟩) rfl rfl (zpw_0 τ (s + 2)).symm
  obtain ⟨hi0, hi1⟩ := hi
  refine V_iload_n (pc := 37) C (dk k_S_begin 19 rfl) rfl ?_
  refine V_iconst (pc := 38) C (dk k_S_begin 20 rfl) rfl ?_
  refine V_icmpge (pc := 39) C (dk k_S_begin 21 rfl) 57 rfl (by first | exact hR _ _ | with_reducible assumption | exact ⟨by omega, by omega⟩) (by first | exact hR _ _ | with_reducible assumption | exact ⟨by omega, by omega⟩) (fun h1 => ?_) (fun h1 => ?_)
  · skip
    obtain rfl : i = 5 := by omega
    refine V_iconst (pc := 57) C (dk k_S_begin 29 rfl) rfl ?_
    refine V_istore_n (pc := 58) C (dk k_S_begin 30 rfl) (by rw [hXN]; decide) ?_
    dsimp only [lst, lstL, lz, kill, Fin.val, Nat.reduceAdd]
    refine V_eq (V_loop (fun i : Int => 0 ≤ i ∧ i ≤ 8) (fun i => [some (vR s), some (vR p), some (vI i)]) (fun i => zpw (zpw τ (s + 2) 5) (s + 4) i) (fun i => (8 - i).toNat) (fun i hi ih => ?_) 0 ⟨by omega, by omega⟩) rfl rfl (zpw_0 _ (s + 4)).symm
    obtain ⟨hi0, hi1⟩ := hi
    refine V_iload_n (pc := 59) C (dk k_S_begin 31 rfl) rfl ?_
    refine V_bipush (pc := 60) (n' := 8) C (dk k_S_begin 32 rfl) rfl ?_
    refine V_icmpge (pc := 62) C (dk k_S_begin 33 rfl) 80 rfl (by first | exact hR _ _ | with_reducible assumption | exact ⟨by omega, by omega⟩) (by first | exact hR _ _ | with_reducible assumption | exact ⟨by omega, by omega⟩) (fun h2 => ?_) (fun h2 => ?_)
    · skip
      refine V_vret (pc := 80) C E (dk k_S_begin 41 rfl) ?_
      obtain rfl : i = 8 := by omega
      subst hτ
      refine ⟨rfl, ⟨?_, ?_, fun i a b => ⟨?_, ?_⟩, fun i a b => ⟨?_, ?_⟩⟩, fun k hk => ?_⟩
      all_goals (first | (simp (disch := omega) only [zpw_ne, zpw_in, cpw_ne, cpw_in, up_ne1, up_ne2, up_at]; done) | (funext i; simp (disch := omega) only [zpw_ne, cpw_ne, up_ne1, up_ne2]; done))
    · skip
      refine V_aload_n (pc := 65) C (dk k_S_begin 34 rfl) rfl ?_
      refine V_getr (pc := 66) (o2 := s + 4) C (dk k_S_begin 35 rfl) fl_S_21 hs (by decide) rfl (by decide) rfl ?_
      refine V_iload_n (pc := 69) C (dk k_S_begin 36 rfl) rfl ?_
      refine V_iconst (pc := 70) C (dk k_S_begin 37 rfl) rfl ?_
      refine V_callS0 (pc := 71) C (dk k_S_begin 38 rfl) lk_S_40 cm_F_put sm_F_put (c_put _ _ _ (s + 4) 8 i 0 hs_4 (by decide) hi0 (by omega) R0) rfl rfl (Nat.le_of_ble_eq_true rfl) (Rm.mono hRm (by decide) (by decide)) ?_
      refine V_R (fun hR => ?_)
      refine V_iinc (pc := 74) C (dk k_S_begin 39 rfl) (by rw [hXN]; decide) rfl ?_
      dsimp only [lst, lstL, lz, kill, Fin.val, Nat.reduceAdd]
      refine V_goto (pc := 77) C (dk k_S_begin 40 rfl) 59 rfl ?_
      rw [zpw_s _ (s + 4) i hi0]
      exact ih (i + 1) ⟨by omega, by omega⟩ (by omega)
  · skip
    refine V_aload_n (pc := 42) C (dk k_S_begin 22 rfl) rfl ?_
    refine V_getr (pc := 43) (o2 := s + 2) C (dk k_S_begin 23 rfl) fl_S_15 hs (by decide) rfl (by decide) rfl ?_
    refine V_iload_n (pc := 46) C (dk k_S_begin 24 rfl) rfl ?_
    refine V_iconst (pc := 47) C (dk k_S_begin 25 rfl) rfl ?_
    refine V_callS0 (pc := 48) C (dk k_S_begin 26 rfl) lk_S_40 cm_F_put sm_F_put (c_put _ _ _ (s + 2) 5 i 0 hs_2 (by decide) hi0 (by omega) R0) rfl rfl (Nat.le_of_ble_eq_true rfl) (Rm.mono hRm (by decide) (by decide)) ?_
    refine V_R (fun hR => ?_)
    refine V_iinc (pc := 51) C (dk k_S_begin 27 rfl) (by rw [hXN]; decide) rfl ?_
    dsimp only [lst, lstL, lz, kill, Fin.val, Nat.reduceAdd]
    refine V_goto (pc := 54) C (dk k_S_begin 28 rfl) 37 rfl ?_
    rw [zpw_s τ (s + 2) i hi0]
    exact ih (i + 1) ⟨by omega, by omega⟩ (by omega)

def i_S_thingsWith : List (Nat × (Instr × Nat)) := [(0, (.iconst 0, 1)), (1, (.istore_n 3, 1)), (2, (.iconst 0, 1)), (3, (.istore 4, 2)), (5, (.iload 4, 2)), (7, (.aload_n 1, 1)), (8, (.getfield 70, 3)), (11, (.if_icmp .ge 41, 3)), (14, (.aload_n 1, 1)), (15, (.getfield 63, 3)), (18, (.iload 4, 2)), (20, (.invokestatic 44, 3)), (23, (.iload_n 2, 1)), (24, (.if_icmp .ne 22, 3)), (27, (.aload_n 0, 1)), (28, (.getfield 21, 3)), (31, (.iload 4, 2)), (33, (.invokestatic 44, 3)), (36, (.ifCond .ne 10, 3)), (39, (.iload_n 3, 1)), (40, (.iconst 1, 1)), (41, (.iload 4, 2)), (43, (.ishl, 1)), (44, (.ior, 1)), (45, (.istore_n 3, 1)), (46, (.iinc 4 1, 3)), (49, (.goto (-44), 3)), (52, (.iload_n 3, 1)), (53, (.ireturn, 1))]
theorem k_S_thingsWith : i_S_thingsWith.all (fun q => decide (decode b_S_thingsWith q.1 = .ok q.2)) = true := by decide +kernel

set_option maxHeartbeats 1000000 in
set_option maxRecDepth 20000 in
theorem c_S_thingsWith (l : Launch) (G : GE) (σ : Wd) (s p : Nat) (π : PL) (x : ST) (j : Int) (hπ : PlR σ p π) (ok : PLok π) (hx : StR σ s π x) (xk : STok π x j) (hj : j ≤ 200) (q : Int) (hq : inR q) : Ct l G y_S_thingsWith b_S_thingsWith 5 (some (.int)) 1 21 [vR s, vR p, vI q] σ (Dt (some (vI (bs (fun t => decide (pO π t = q ∧ sP x t = 0)) (pN π)))) σ) := by
  refine Ct.of cm_S_thingsWith (Nat.le_of_ble_eq_true rfl) ?_
  intro X hXl hXG hXN hRm C E
  subst hXl; subst hXG
  have ⟨hq_1, hq_2⟩ := hq
  show V X 0 [some (vR s), some (vR p), some (vI q), none, none] [] σ
  refine V_R (fun hR => ?_)
  have hπ0 := hπ
  have hx0 := hx
  obtain ⟨hp, e0, e2, e7, e10, eT, eX⟩ := hπ
  obtain ⟨hp_1, hp_2, hp_3, hp_4, hp_5, hp_6⟩ := kd_P hp
  have ⟨k1, k2, k3, k4, k5, k6, kT, kX⟩ := ok
  obtain ⟨hs, f0, f1, fQ, fT⟩ := hx
  obtain ⟨hs_1, hs_2, hs_3, hs_4⟩ := kd_S hs
  have ⟨x1, x2, x3, x4, xQ, xT⟩ := xk
  refine V_iconst (pc := 0) C (dk k_S_thingsWith 0 rfl) rfl ?_
  refine V_istore_n (pc := 1) C (dk k_S_thingsWith 1 rfl) (by rw [hXN]; decide) ?_
  dsimp only [lst, lstL, lz, kill, Fin.val, Nat.reduceAdd]
  refine V_iconst (pc := 2) C (dk k_S_thingsWith 2 rfl) rfl ?_
  refine V_istore (pc := 3) C (dk k_S_thingsWith 3 rfl) (by rw [hXN]; decide) ?_
  dsimp only [lst, lstL, lz, kill, Fin.val, Nat.reduceAdd]
  refine V_eq (V_loop (fun i : Nat => i ≤ pN π) (fun i => [some (vR s), some (vR p), some (vI q), some (vI (bs (fun t => decide (pO π t = q ∧ sP x t = 0)) i)), some (vI (i : Int))]) (fun _ => σ) (fun i => pN π - i) (fun i hi ih => ?_) 0 (Nat.zero_le _)) rfl rfl rfl
  have hb := bs_256 (fun t => decide (pO π t = q ∧ sP x t = 0)) (show i ≤ 8 by omega)
  refine V_iload (pc := 5) C (dk k_S_thingsWith 4 rfl) rfl ?_
  refine V_aload_n (pc := 7) C (dk k_S_thingsWith 5 rfl) rfl ?_
  refine V_geti (pc := 8) (ji := 2) C (dk k_S_thingsWith 6 rfl) fl_S_70 hp (by decide) rfl rfl ?_
  refine V_icmpge (pc := 11) C (dk k_S_thingsWith 7 rfl) 52 rfl (by first | exact hR _ _ | with_reducible assumption | exact ⟨by omega, by omega⟩) (by first | exact hR _ _ | with_reducible assumption | exact ⟨by omega, by omega⟩) (fun h1 => ?_) (fun h1 => ?_)
  · skip
    refine V_iload_n (pc := 52) C (dk k_S_thingsWith 27 rfl) rfl ?_
    refine V_iret (pc := 53) C E (dk k_S_thingsWith 28 rfl) ?_
    obtain rfl : i = pN π := by omega
    exact ⟨rfl, rfl⟩
  · skip
    obtain ⟨gN, gP⟩ := fT i (by omega) (by omega)
    obtain ⟨gO, gK, gU⟩ := eT i (by omega) (by omega)
    have hp8 := bs_p8 (show i < 8 by omega)
    refine V_aload_n (pc := 14) C (dk k_S_thingsWith 8 rfl) rfl ?_
    refine V_getr (pc := 15) (o2 := p + 2) C (dk k_S_thingsWith 9 rfl) fl_S_63 hp (by decide) rfl (by decide) rfl ?_
    refine V_iload (pc := 18) C (dk k_S_thingsWith 10 rfl) rfl ?_
    refine V_callS (pc := 20) C (dk k_S_thingsWith 11 rfl) lk_S_44 cm_F_at sm_F_at (c_at _ _ _ (p + 2) 8 i hp_2 (by decide) (by omega) (by omega)) rfl rfl (Nat.le_of_ble_eq_true rfl) (Rm.mono hRm (by decide) (by decide)) ?_
    refine V_iload_n (pc := 23) C (dk k_S_thingsWith 12 rfl) rfl ?_
    refine V_icmpne (pc := 24) C (dk k_S_thingsWith 13 rfl) 46 rfl (by first | exact hR _ _ | with_reducible assumption | exact ⟨by omega, by omega⟩) (by first | exact hR _ _ | with_reducible assumption | exact ⟨by omega, by omega⟩) (fun h2 => ?_) (fun h2 => ?_)
    · skip
      refine V_iinc (pc := 46) C (dk k_S_thingsWith 25 rfl) (by rw [hXN]; decide) rfl ?_
      dsimp only [lst, lstL, lz, kill, Fin.val, Nat.reduceAdd]
      refine V_goto (pc := 49) C (dk k_S_thingsWith 26 rfl) 5 rfl ?_
      refine V_eq (ih (i + 1) (by omega) (by omega)) ?_ rfl rfl
      show _ = [some (vR s), some (vR p), some (vI q), some (vI (bs (fun t => decide (pO π t = q ∧ sP x t = 0)) (i + 1))), some (vI ((i : Int) + 1))]
      rw [bs_s]
      first | rw [if_pos (decide_eq_true ⟨by omega, by omega⟩), bs_or] | rw [if_neg (fun z => by have := of_decide_eq_true z; omega), Int.add_zero]
    · skip
      refine V_aload_n (pc := 27) C (dk k_S_thingsWith 14 rfl) rfl ?_
      refine V_getr (pc := 28) (o2 := s + 4) C (dk k_S_thingsWith 15 rfl) fl_S_21 hs (by decide) rfl (by decide) rfl ?_
      refine V_iload (pc := 31) C (dk k_S_thingsWith 16 rfl) rfl ?_
      refine V_callS (pc := 33) C (dk k_S_thingsWith 17 rfl) lk_S_44 cm_F_at sm_F_at (c_at _ _ _ (s + 4) 8 i hs_4 (by decide) (by omega) (by omega)) rfl rfl (Nat.le_of_ble_eq_true rfl) (Rm.mono hRm (by decide) (by decide)) ?_
      refine V_ifne (pc := 36) C (dk k_S_thingsWith 18 rfl) 46 rfl (by first | exact hR _ _ | with_reducible assumption | exact ⟨by omega, by omega⟩) (fun h3 => ?_) (fun h3 => ?_)
      · skip
        refine V_iinc (pc := 46) C (dk k_S_thingsWith 25 rfl) (by rw [hXN]; decide) rfl ?_
        dsimp only [lst, lstL, lz, kill, Fin.val, Nat.reduceAdd]
        refine V_goto (pc := 49) C (dk k_S_thingsWith 26 rfl) 5 rfl ?_
        refine V_eq (ih (i + 1) (by omega) (by omega)) ?_ rfl rfl
        show _ = [some (vR s), some (vR p), some (vI q), some (vI (bs (fun t => decide (pO π t = q ∧ sP x t = 0)) (i + 1))), some (vI ((i : Int) + 1))]
        rw [bs_s]
        first | rw [if_pos (decide_eq_true ⟨by omega, by omega⟩), bs_or] | rw [if_neg (fun z => by have := of_decide_eq_true z; omega), Int.add_zero]
      · skip
        refine V_iload_n (pc := 39) C (dk k_S_thingsWith 19 rfl) rfl ?_
        refine V_iconst (pc := 40) C (dk k_S_thingsWith 20 rfl) rfl ?_
        refine V_iload (pc := 41) C (dk k_S_thingsWith 21 rfl) rfl ?_
        refine V_ishl (pc := 43) C (dk k_S_thingsWith 22 rfl) (by omega) (by omega) (by omega) hp8.1 ?_
        refine V_ior (pc := 44) C (dk k_S_thingsWith 23 rfl) ⟨by omega, by omega⟩ ⟨by omega, by omega⟩ (by omega) (by omega) ?_
        refine V_istore_n (pc := 45) C (dk k_S_thingsWith 24 rfl) (by rw [hXN]; decide) ?_
        dsimp only [lst, lstL, lz, kill, Fin.val, Nat.reduceAdd]
        refine V_iinc (pc := 46) C (dk k_S_thingsWith 25 rfl) (by rw [hXN]; decide) rfl ?_
        dsimp only [lst, lstL, lz, kill, Fin.val, Nat.reduceAdd]
        refine V_goto (pc := 49) C (dk k_S_thingsWith 26 rfl) 5 rfl ?_
        refine V_eq (ih (i + 1) (by omega) (by omega)) ?_ rfl rfl
        show _ = [some (vR s), some (vR p), some (vI q), some (vI (bs (fun t => decide (pO π t = q ∧ sP x t = 0)) (i + 1))), some (vI ((i : Int) + 1))]
        rw [bs_s]
        first | rw [if_pos (decide_eq_true ⟨by omega, by omega⟩), bs_or] | rw [if_neg (fun z => by have := of_decide_eq_true z; omega), Int.add_zero]

def i_L_add : List (Nat × (Instr × Nat)) := [(0, (.aload_n 0, 1)), (1, (.getfield 15, 3)), (4, (.ifCond .lt 15, 3)), (7, (.aload_n 0, 1)), (8, (.getfield 15, 3)), (11, (.aload_n 0, 1)), (12, (.getfield 9, 3)), (15, (.arraylength, 1)), (16, (.if_icmp .lt 5, 3)), (19, (.iconst 0, 1)), (20, (.ireturn, 1)), (21, (.aload_n 0, 1)), (22, (.getfield 9, 3)), (25, (.aload_n 0, 1)), (26, (.getfield 15, 3)), (29, (.iload_n 1, 1)), (30, (.castore, 1)), (31, (.aload_n 0, 1)), (32, (.dup, 1)), (33, (.getfield 15, 3)), (36, (.iconst 1, 1)), (37, (.iadd, 1)), (38, (.putfield 15, 3)), (41, (.iconst 1, 1)), (42, (.ireturn, 1))]
theorem k_L_add : i_L_add.all (fun q => decide (decode b_L_add q.1 = .ok q.2)) = true := by decide +kernel

set_option maxHeartbeats 1000000 in
set_option maxRecDepth 20000 in
theorem c_L_add (l : Launch) (G : GE) (σ : Wd) (z : Int) (hz0 : 0 ≤ z) (hz1 : z < 65536) (h0 : 0 ≤ σ 1 1) (h1 : σ 1 1 ≤ 200) : Ct l G y_L_add b_L_add 2 (some (.boolean)) 0 0 [vR 1, vI z] σ (Dt (some (vI (if σ 1 1 < 200 then 1 else 0))) (if σ 1 1 < 200 then up (up σ 2 (σ 1 1) z) 1 1 (σ 1 1 + 1) else σ)) := by
  refine Ct.of cm_L_add (Nat.le_of_ble_eq_true rfl) ?_
  intro X hXl hXG hXN hRm C E
  subst hXl; subst hXG
  show V X 0 [some (vR 1), some (vI z)] [] σ
  refine V_R (fun hR => ?_)
  refine V_aload_n (pc := 0) C (dk k_L_add 0 rfl) rfl ?_
  refine V_geti (pc := 1) (ji := 1) C (dk k_L_add 1 rfl) fl_L_15 kq_1 (by decide) rfl rfl ?_
  refine V_iflt (pc := 4) C (dk k_L_add 2 rfl) 19 rfl (by first | exact hR _ _ | with_reducible assumption | exact ⟨by omega, by omega⟩) (fun h1 => ?_) (fun h1 => ?_)
  · skip
    refine V_iconst (pc := 19) C (dk k_L_add 9 rfl) rfl ?_
    refine V_zret (pc := 20) C (by first | exact Or.inl rfl | exact Or.inr rfl | (split <;> first | exact Or.inl rfl | exact Or.inr rfl) | omega) E (dk k_L_add 10 rfl) ?_
    first | (rw [if_pos (by assumption), if_pos (by assumption)]; exact ⟨rfl, rfl⟩) | (exfalso; omega) | (rw [if_neg (by omega), if_neg (by omega)]; exact ⟨rfl, rfl⟩)
  · skip
    refine V_aload_n (pc := 7) C (dk k_L_add 3 rfl) rfl ?_
    refine V_geti (pc := 8) (ji := 1) C (dk k_L_add 4 rfl) fl_L_15 kq_1 (by decide) rfl rfl ?_
    refine V_aload_n (pc := 11) C (dk k_L_add 5 rfl) rfl ?_
    refine V_getr (pc := 12) (o2 := 2) C (dk k_L_add 6 rfl) fl_L_9 kq_1 (by decide) rfl (by decide) rfl ?_
    refine V_alen (pc := 15) C (dk k_L_add 7 rfl) (n := 200) (Or.inr (Or.inl kq_2)) (by decide) rfl ?_
    refine V_icmplt (pc := 16) C (dk k_L_add 8 rfl) 21 rfl (by first | exact hR _ _ | with_reducible assumption | exact ⟨by omega, by omega⟩) (by first | exact hR _ _ | with_reducible assumption | exact ⟨by omega, by omega⟩) (fun h2 => ?_) (fun h2 => ?_)
    · skip
      refine V_aload_n (pc := 21) C (dk k_L_add 11 rfl) rfl ?_
      refine V_getr (pc := 22) (o2 := 2) C (dk k_L_add 12 rfl) fl_L_9 kq_1 (by decide) rfl (by decide) rfl ?_
      refine V_aload_n (pc := 25) C (dk k_L_add 13 rfl) rfl ?_
      refine V_geti (pc := 26) (ji := 1) C (dk k_L_add 14 rfl) fl_L_15 kq_1 (by decide) rfl rfl ?_
      refine V_iload_n (pc := 29) C (dk k_L_add 15 rfl) rfl ?_
      refine V_cast (pc := 30) C (dk k_L_add 16 rfl) kq_2 (by decide) (by omega) (by omega) (by omega) (by omega) ?_
      refine V_R (fun hR => ?_)
      refine V_aload_n (pc := 31) C (dk k_L_add 17 rfl) rfl ?_
      refine V_dupR (pc := 32) C (dk k_L_add 18 rfl) ?_
      refine V_geti (pc := 33) (ji := 1) C (dk k_L_add 19 rfl) fl_L_15 kq_1 (by decide) rfl rfl ?_
      have e1 : up σ 2 (σ 1 1) z 1 1 = σ 1 1 := up_ne1 _ _ _ _ (by decide)
      rw [e1]
      refine V_iconst (pc := 36) C (dk k_L_add 20 rfl) rfl ?_
      refine V_iadd (pc := 37) C (dk k_L_add 21 rfl) ?_
      refine V_puti (pc := 38) (ji := 1) C (dk k_L_add 22 rfl) fl_L_15 fw_2_1 kq_1 (by decide) rfl rfl ⟨by omega, by omega⟩ ?_
      refine V_R (fun hR => ?_)
      refine V_iconst (pc := 41) C (dk k_L_add 23 rfl) rfl ?_
      refine V_zret (pc := 42) C (by first | exact Or.inl rfl | exact Or.inr rfl | (split <;> first | exact Or.inl rfl | exact Or.inr rfl) | omega) E (dk k_L_add 24 rfl) ?_
      first | (rw [if_pos (by assumption), if_pos (by assumption)]; exact ⟨rfl, rfl⟩) | (exfalso; omega) | (rw [if_neg (by omega), if_neg (by omega)]; exact ⟨rfl, rfl⟩)
    · skip
      refine V_iconst (pc := 19) C (dk k_L_add 9 rfl) rfl ?_
      refine V_zret (pc := 20) C (by first | exact Or.inl rfl | exact Or.inr rfl | (split <;> first | exact Or.inl rfl | exact Or.inr rfl) | omega) E (dk k_L_add 10 rfl) ?_
      first | (rw [if_pos (by assumption), if_pos (by assumption)]; exact ⟨rfl, rfl⟩) | (exfalso; omega) | (rw [if_neg (by omega), if_neg (by omega)]; exact ⟨rfl, rfl⟩)

def i_L_letter : List (Nat × (Instr × Nat)) := [(0, (.iload_n 1, 1)), (1, (.ifCond .lt 29, 3)), (4, (.iload_n 1, 1)), (5, (.aload_n 0, 1)), (6, (.getfield 15, 3)), (9, (.if_icmp .ge 21, 3)), (12, (.iload_n 1, 1)), (13, (.aload_n 0, 1)), (14, (.getfield 9, 3)), (17, (.arraylength, 1)), (18, (.if_icmp .ge 12, 3)), (21, (.aload_n 0, 1)), (22, (.getfield 9, 3)), (25, (.iload_n 1, 1)), (26, (.caload, 1)), (27, (.goto 4, 3)), (30, (.iconst 0, 1)), (31, (.ireturn, 1))]
theorem k_L_letter : i_L_letter.all (fun q => decide (decode b_L_letter q.1 = .ok q.2)) = true := by decide +kernel

set_option maxHeartbeats 1000000 in
set_option maxRecDepth 20000 in
theorem c_L_letter (l : Launch) (G : GE) (σ : Wd) (i : Int) (hi : inR i) (h0 : 0 ≤ σ 1 1) (h1 : σ 1 1 ≤ 200) (hc : ∀ k : Int, 0 ≤ k → k < σ 1 1 → 0 ≤ σ 2 k ∧ σ 2 k < 65536) : Ct l G y_L_letter b_L_letter 2 (some (.char)) 0 0 [vR 1, vI i] σ (Dt (some (vI (if 0 ≤ i ∧ i < σ 1 1 then σ 2 i else 0))) σ) := by
  refine Ct.of cm_L_letter (Nat.le_of_ble_eq_true rfl) ?_
  intro X hXl hXG hXN hRm C E
  subst hXl; subst hXG
  have ⟨hi_1, hi_2⟩ := hi
  show V X 0 [some (vR 1), some (vI i)] [] σ
  refine V_R (fun hR => ?_)
  refine V_iload_n (pc := 0) C (dk k_L_letter 0 rfl) rfl ?_
  refine V_iflt (pc := 1) C (dk k_L_letter 1 rfl) 30 rfl (by first | exact hR _ _ | with_reducible assumption | exact ⟨by omega, by omega⟩) (fun h1 => ?_) (fun h1 => ?_)
  · skip
    refine V_iconst (pc := 30) C (dk k_L_letter 16 rfl) rfl ?_
    refine V_cret (pc := 31) C (by omega) (by omega) E (dk k_L_letter 17 rfl) ?_
    first | exact ⟨rfl, rfl⟩ | (refine ⟨?_, rfl⟩; first | (rw [if_pos (by omega)]; done) | (rw [if_neg (by omega)]; done))
  · skip
    refine V_iload_n (pc := 4) C (dk k_L_letter 2 rfl) rfl ?_
    refine V_aload_n (pc := 5) C (dk k_L_letter 3 rfl) rfl ?_
    refine V_geti (pc := 6) (ji := 1) C (dk k_L_letter 4 rfl) fl_L_15 kq_1 (by decide) rfl rfl ?_
    refine V_icmpge (pc := 9) C (dk k_L_letter 5 rfl) 30 rfl (by first | exact hR _ _ | with_reducible assumption | exact ⟨by omega, by omega⟩) (by first | exact hR _ _ | with_reducible assumption | exact ⟨by omega, by omega⟩) (fun h2 => ?_) (fun h2 => ?_)
    · skip
      refine V_iconst (pc := 30) C (dk k_L_letter 16 rfl) rfl ?_
      refine V_cret (pc := 31) C (by omega) (by omega) E (dk k_L_letter 17 rfl) ?_
      first | exact ⟨rfl, rfl⟩ | (refine ⟨?_, rfl⟩; first | (rw [if_pos (by omega)]; done) | (rw [if_neg (by omega)]; done))
    · skip
      refine V_iload_n (pc := 12) C (dk k_L_letter 6 rfl) rfl ?_
      refine V_aload_n (pc := 13) C (dk k_L_letter 7 rfl) rfl ?_
      refine V_getr (pc := 14) (o2 := 2) C (dk k_L_letter 8 rfl) fl_L_9 kq_1 (by decide) rfl (by decide) rfl ?_
      refine V_alen (pc := 17) C (dk k_L_letter 9 rfl) (n := 200) (Or.inr (Or.inl kq_2)) (by decide) rfl ?_
      refine V_icmpge (pc := 18) C (dk k_L_letter 10 rfl) 30 rfl (by first | exact hR _ _ | with_reducible assumption | exact ⟨by omega, by omega⟩) (by first | exact hR _ _ | with_reducible assumption | exact ⟨by omega, by omega⟩) (fun h3 => ?_) (fun h3 => ?_)
      · skip
        refine V_iconst (pc := 30) C (dk k_L_letter 16 rfl) rfl ?_
        refine V_cret (pc := 31) C (by omega) (by omega) E (dk k_L_letter 17 rfl) ?_
        first | exact ⟨rfl, rfl⟩ | (refine ⟨?_, rfl⟩; first | (rw [if_pos (by omega)]; done) | (rw [if_neg (by omega)]; done))
      · skip
        refine V_aload_n (pc := 21) C (dk k_L_letter 11 rfl) rfl ?_
        refine V_getr (pc := 22) (o2 := 2) C (dk k_L_letter 12 rfl) fl_L_9 kq_1 (by decide) rfl (by decide) rfl ?_
        refine V_iload_n (pc := 25) C (dk k_L_letter 13 rfl) rfl ?_
        refine V_cald (pc := 26) C (dk k_L_letter 14 rfl) kq_2 (by decide) (by omega) (by omega) ?_
        have hc2 := hc i (by omega) (by omega)
        refine V_goto (pc := 27) C (dk k_L_letter 15 rfl) 31 rfl ?_
        refine V_cret (pc := 31) C (by omega) (by omega) E (dk k_L_letter 17 rfl) ?_
        first | exact ⟨rfl, rfl⟩ | (refine ⟨?_, rfl⟩; first | (rw [if_pos (by omega)]; done) | (rw [if_neg (by omega)]; done))

def i_K_add : List (Nat × (Instr × Nat)) := [(0, (.aload_n 0, 1)), (1, (.getfield 21, 3)), (4, (.bipush 6, 2)), (6, (.if_icmp .lt 5, 3)), (9, (.iconst 0, 1)), (10, (.ireturn, 1)), (11, (.aload_n 0, 1)), (12, (.getfield 9, 3)), (15, (.aload_n 0, 1)), (16, (.getfield 21, 3)), (19, (.iload_n 1, 1)), (20, (.invokestatic 25, 3)), (23, (.aload_n 0, 1)), (24, (.getfield 15, 3)), (27, (.aload_n 0, 1)), (28, (.getfield 21, 3)), (31, (.iload_n 2, 1)), (32, (.invokestatic 25, 3)), (35, (.aload_n 0, 1)), (36, (.getfield 18, 3)), (39, (.aload_n 0, 1)), (40, (.getfield 21, 3)), (43, (.iload_n 3, 1)), (44, (.invokestatic 25, 3)), (47, (.aload_n 0, 1)), (48, (.dup, 1)), (49, (.getfield 21, 3)), (52, (.iconst 1, 1)), (53, (.iadd, 1)), (54, (.putfield 21, 3)), (57, (.iconst 1, 1)), (58, (.ireturn, 1))]
theorem k_K_add : i_K_add.all (fun q => decide (decode b_K_add q.1 = .ok q.2)) = true := by decide +kernel

set_option maxHeartbeats 1000000 in
set_option maxRecDepth 20000 in
theorem c_K_add (l : Launch) (G : GE) (σ : Wd) (t n v : Int) (ht : inR t) (hn : inR n) (hv : inR v) (h0 : 0 ≤ σ 113 3) (h1 : σ 113 3 ≤ 6) : Ct l G y_K_add b_K_add 4 (some (.boolean)) 1 22 [vR 113, vI t, vI n, vI v] σ (Dt (some (vI (if σ 113 3 < 6 then 1 else 0))) (if σ 113 3 < 6 then up (up (up (up σ 114 (σ 113 3) t) 115 (σ 113 3) n) 116 (σ 113 3) v) 113 3 (σ 113 3 + 1) else σ)) := by
  refine Ct.of cm_K_add (Nat.le_of_ble_eq_true rfl) ?_
  intro X hXl hXG hXN hRm C E
  subst hXl; subst hXG
  have ⟨ht_1, ht_2⟩ := ht
  have ⟨hn_1, hn_2⟩ := hn
  have ⟨hv_1, hv_2⟩ := hv
  show V X 0 [some (vR 113), some (vI t), some (vI n), some (vI v)] [] σ
  refine V_R (fun hR => ?_)
  refine V_aload_n (pc := 0) C (dk k_K_add 0 rfl) rfl ?_
  refine V_geti (pc := 1) (ji := 3) C (dk k_K_add 1 rfl) fl_K_21 kq_113 (by decide) rfl rfl ?_
  refine V_bipush (pc := 4) (n' := 6) C (dk k_K_add 2 rfl) rfl ?_
  refine V_icmplt (pc := 6) C (dk k_K_add 3 rfl) 11 rfl (by first | exact hR _ _ | with_reducible assumption | exact ⟨by omega, by omega⟩) (by first | exact hR _ _ | with_reducible assumption | exact ⟨by omega, by omega⟩) (fun h1 => ?_) (fun h1 => ?_)
  · skip
    refine V_aload_n (pc := 11) C (dk k_K_add 6 rfl) rfl ?_
    refine V_getr (pc := 12) (o2 := 114) C (dk k_K_add 7 rfl) fl_K_9 kq_113 (by decide) rfl (by decide) rfl ?_
    refine V_aload_n (pc := 15) C (dk k_K_add 8 rfl) rfl ?_
    refine V_geti (pc := 16) (ji := 3) C (dk k_K_add 9 rfl) fl_K_21 kq_113 (by decide) rfl rfl ?_
    refine V_iload_n (pc := 19) C (dk k_K_add 10 rfl) rfl ?_
    refine V_callS0 (pc := 20) C (dk k_K_add 11 rfl) lk_K_25 cm_F_put sm_F_put (c_put _ _ _ (114) 6 _ _ kq_114 (by decide) (by omega) (by omega) ht) rfl rfl (Nat.le_of_ble_eq_true rfl) (Rm.mono hRm (by decide) (by decide)) ?_
    refine V_R (fun hR => ?_)
    refine V_aload_n (pc := 23) C (dk k_K_add 12 rfl) rfl ?_
    refine V_getr (pc := 24) (o2 := 115) C (dk k_K_add 13 rfl) fl_K_15 kq_113 (by decide) rfl (by decide) rfl ?_
    refine V_aload_n (pc := 27) C (dk k_K_add 14 rfl) rfl ?_
    refine V_geti (pc := 28) (ji := 3) C (dk k_K_add 15 rfl) fl_K_21 kq_113 (by decide) rfl rfl ?_
    have e1 : up σ 114 (σ 113 3) t 113 3 = σ 113 3 := up_ne1 _ _ _ _ (by decide)
    rw [e1]
    refine V_iload_n (pc := 31) C (dk k_K_add 16 rfl) rfl ?_
    refine V_callS0 (pc := 32) C (dk k_K_add 17 rfl) lk_K_25 cm_F_put sm_F_put (c_put _ _ _ (115) 6 _ _ kq_115 (by decide) (by omega) (by omega) hn) rfl rfl (Nat.le_of_ble_eq_true rfl) (Rm.mono hRm (by decide) (by decide)) ?_
    refine V_R (fun hR => ?_)
    refine V_aload_n (pc := 35) C (dk k_K_add 18 rfl) rfl ?_
    refine V_getr (pc := 36) (o2 := 116) C (dk k_K_add 19 rfl) fl_K_18 kq_113 (by decide) rfl (by decide) rfl ?_
    refine V_aload_n (pc := 39) C (dk k_K_add 20 rfl) rfl ?_
    refine V_geti (pc := 40) (ji := 3) C (dk k_K_add 21 rfl) fl_K_21 kq_113 (by decide) rfl rfl ?_
    have e2 : up (up σ 114 (σ 113 3) t) 115 (σ 113 3) n 113 3 = σ 113 3 := (up_ne1 _ _ _ _ (by decide)).trans e1
    rw [e2]
    refine V_iload_n (pc := 43) C (dk k_K_add 22 rfl) rfl ?_
    refine V_callS0 (pc := 44) C (dk k_K_add 23 rfl) lk_K_25 cm_F_put sm_F_put (c_put _ _ _ (116) 6 _ _ kq_116 (by decide) (by omega) (by omega) hv) rfl rfl (Nat.le_of_ble_eq_true rfl) (Rm.mono hRm (by decide) (by decide)) ?_
    refine V_R (fun hR => ?_)
    refine V_aload_n (pc := 47) C (dk k_K_add 24 rfl) rfl ?_
    refine V_dupR (pc := 48) C (dk k_K_add 25 rfl) ?_
    refine V_geti (pc := 49) (ji := 3) C (dk k_K_add 26 rfl) fl_K_21 kq_113 (by decide) rfl rfl ?_
    have e3 : up (up (up σ 114 (σ 113 3) t) 115 (σ 113 3) n) 116 (σ 113 3) v 113 3 = σ 113 3 := (up_ne1 _ _ _ _ (by decide)).trans e2
    rw [e3]
    refine V_iconst (pc := 52) C (dk k_K_add 27 rfl) rfl ?_
    refine V_iadd (pc := 53) C (dk k_K_add 28 rfl) ?_
    refine V_puti (pc := 54) (ji := 3) C (dk k_K_add 29 rfl) fl_K_21 fw_3_3 kq_113 (by decide) rfl rfl ⟨by omega, by omega⟩ ?_
    refine V_R (fun hR => ?_)
    refine V_iconst (pc := 57) C (dk k_K_add 30 rfl) rfl ?_
    refine V_zret (pc := 58) C (by first | exact Or.inl rfl | exact Or.inr rfl | (split <;> first | exact Or.inl rfl | exact Or.inr rfl) | omega) E (dk k_K_add 31 rfl) ?_
    first | (rw [if_pos (by assumption), if_pos (by assumption)]; exact ⟨rfl, rfl⟩) | (rw [if_neg (by omega), if_neg (by omega)]; exact ⟨rfl, rfl⟩)
  · skip
    refine V_iconst (pc := 9) C (dk k_K_add 4 rfl) rfl ?_
    refine V_zret (pc := 10) C (by first | exact Or.inl rfl | exact Or.inr rfl | (split <;> first | exact Or.inl rfl | exact Or.inr rfl) | omega) E (dk k_K_add 5 rfl) ?_
    first | (rw [if_pos (by assumption), if_pos (by assumption)]; exact ⟨rfl, rfl⟩) | (rw [if_neg (by omega), if_neg (by omega)]; exact ⟨rfl, rfl⟩)

def i_M_slotAt : List (Nat × (Instr × Nat)) := [(0, (.iload_n 1, 1)), (1, (.ifCond .lt 21, 3)), (4, (.iload_n 1, 1)), (5, (.aload_n 0, 1)), (6, (.getfield 11, 3)), (9, (.arraylength, 1)), (10, (.if_icmp .ge 12, 3)), (13, (.aload_n 0, 1)), (14, (.getfield 11, 3)), (17, (.iload_n 1, 1)), (18, (.aaload, 1)), (19, (.goto 4, 3)), (22, (.aconst_null, 1)), (23, (.areturn, 1))]
theorem k_M_slotAt : i_M_slotAt.all (fun q => decide (decode b_M_slotAt q.1 = .ok q.2)) = true := by decide +kernel

set_option maxHeartbeats 1000000 in
set_option maxRecDepth 20000 in
theorem c_M_slotAt (l : Launch) (G : GE) (σ : Wd) (m : Nat) (i : Int) (hm : kd m = 4) (hi0 : 0 ≤ i) (hi1 : i < 8) : Ct l G y_M_slotAt b_M_slotAt 2 (some (.object "ForgoneShop$Stand")) 0 0 [vR m, vI i] σ (Dt (some (vR (m + 2 + 5 * i.toNat))) σ) := by
  refine Ct.of cm_M_slotAt (Nat.le_of_ble_eq_true rfl) ?_
  intro X hXl hXG hXN hRm C E
  subst hXl; subst hXG
  show V X 0 [some (vR m), some (vI i)] [] σ
  refine V_R (fun hR => ?_)
  obtain ⟨hm_1, hmj⟩ := kd_M hm
  refine V_iload_n (pc := 0) C (dk k_M_slotAt 0 rfl) rfl ?_
  refine V_iflt (pc := 1) C (dk k_M_slotAt 1 rfl) 22 rfl (by first | exact hR _ _ | with_reducible assumption | exact ⟨by omega, by omega⟩) (fun h1 => ?_) (fun h1 => ?_)
  · skip
    exfalso; omega
  · skip
    refine V_iload_n (pc := 4) C (dk k_M_slotAt 2 rfl) rfl ?_
    refine V_aload_n (pc := 5) C (dk k_M_slotAt 3 rfl) rfl ?_
    refine V_getr (pc := 6) (o2 := m + 1) C (dk k_M_slotAt 4 rfl) fl_M_11 hm (by decide) rfl (by decide) rfl ?_
    refine V_alen (pc := 9) C (dk k_M_slotAt 5 rfl) (n := 8) (Or.inr (Or.inr ⟨hm_1, rfl⟩)) (by decide) rfl ?_
    refine V_icmpge (pc := 10) C (dk k_M_slotAt 6 rfl) 22 rfl (by first | exact hR _ _ | with_reducible assumption | exact ⟨by omega, by omega⟩) (by first | exact hR _ _ | with_reducible assumption | exact ⟨by omega, by omega⟩) (fun h2 => ?_) (fun h2 => ?_)
    · skip
      exfalso; omega
    · skip
      refine V_aload_n (pc := 13) C (dk k_M_slotAt 7 rfl) rfl ?_
      refine V_getr (pc := 14) (o2 := m + 1) C (dk k_M_slotAt 8 rfl) fl_M_11 hm (by decide) rfl (by decide) rfl ?_
      refine V_iload_n (pc := 17) C (dk k_M_slotAt 9 rfl) rfl ?_
      refine V_aald (pc := 18) (o2 := m + 2 + 5 * i.toNat) C (dk k_M_slotAt 10 rfl) hm_1 (by omega) (by omega) (by omega) ?_
      refine V_goto (pc := 19) C (dk k_M_slotAt 11 rfl) 23 rfl ?_
      refine V_aret (pc := 23) C E (dk k_M_slotAt 13 rfl) ?_
      exact ⟨rfl, rfl⟩
