theorem c_X10_mixPerson (l : Launch) (Γ : Ev) (d : Nat) (S : Sx) (A : Av) (lt : Int) (hQ : CQ S A lt) (h p : Int) (hp : 0 ≤ p ∧ p ≤ (aN A : Int) - 1) : Ctr l Γ (d + 6) mX10_mixPerson [rf Γ 0, vL h, vI p] S (pL (fun r S2 => r = dgP A h p ∧ frK S S2)) := by
  refine Ctr.of (by decide) rfl rfl (Nat.le_of_ble_eq_true rfl) ?_
  intro κ hl hk hr
  subst hl
  have hQ0 := hQ
  obtain ⟨hC, hW, hWt, h09, h010⟩ := hQ
  obtain ⟨h15, n8, h62, n12, h132, m12⟩ := cl_n hC
  have f9 := hC.1.2.2.2.2.2.2.1
  have u1 : a_person A p 0 = a0 A p.toNat := by unfold a_person; rw [if_neg (by omega), if_neg (by decide), if_pos rfl]
  have u2 : a_person A p 1 = aTw A p.toNat := by unfold a_person; rw [if_neg (by omega), if_neg (by decide), if_neg (by decide)]
  have u3 : ∀ w, 0 ≤ w ∧ w ≤ 1 → a_whole A 9 p 50 (-1) w = a_wholeOf A 9 p 50 (-1) w := fun w hw => by unfold a_whole; rw [if_neg (by omega), if_neg (by omega), if_neg (by omega), if_neg (by omega), if_neg (by omega)]
  have u4 : a_spy A 9 p 3 = a_spyOf A 9 p 3 := by unfold a_spy; rw [if_neg (by omega), if_neg (by omega), if_neg (by omega)]
  have u5 : ∀ w, 0 ≤ w ∧ w ≤ 1 → a_shots A 5 9 4 p 4 w = a_shotsOf A 5 9 4 p 4 w := fun w hw => by unfold a_shots; rw [if_neg (by omega), if_neg (by omega), if_neg (by omega), if_neg (by omega), if_neg (by omega), if_neg (by omega)]
  have u6 : a_plates A 7 20 p = a_platesOf A 7 20 p := by unfold a_plates; rw [if_neg (by omega), if_neg (by omega)]
  have v1 := a0_99 (A := A) p.toNat (by omega)
  have v2 := aTw_ok (A := A) p.toNat (by omega)
  refine G_lload_n hk dX10_mixPerson_0 rfl ?_
  refine G_rload_n hk dX10_mixPerson_1 rfl ?_
  refine G_iload_n hk dX10_mixPerson_2 rfl ?_
  refine G_iconst hk dX10_mixPerson_3 ?_
  refine G_cV2P hk dX10_mixPerson_4 mvX10_person mlX10_348 (by decide) rfl rfl (Nat.le_of_ble_eq_true rfl) (c_X10_person _ Γ (d + 3) _ A lt hQ0 _ _ ⟨by omega, by omega⟩ ⟨by omega, by omega⟩) ?_
  rw [u1]
  refine G_i2l hk dX10_mixPerson_7 ⟨by omega, by omega⟩ ?_
  refine G_cS2J hk dX10_mixPerson_8 msX10_mix mlX10_316 (Nat.le_of_ble_eq_true rfl) (c_X10_mix _ Γ (d + 5) _ _ _) (fun r_8 S_8 hp_8 => ?_)
  obtain ⟨e_8, s_8⟩ := hp_8
  rw [e_8, s_8]
  refine G_lstore hk dX10_mixPerson_11 (by decide) rfl ?_
  refine G_lload hk dX10_mixPerson_13 rfl ?_
  refine G_rload_n hk dX10_mixPerson_15 rfl ?_
  refine G_iload_n hk dX10_mixPerson_16 rfl ?_
  refine G_iconst hk dX10_mixPerson_17 ?_
  refine G_cV2P hk dX10_mixPerson_18 mvX10_person mlX10_348 (by decide) rfl rfl (Nat.le_of_ble_eq_true rfl) (c_X10_person _ Γ (d + 3) _ A lt hQ0 _ _ ⟨by omega, by omega⟩ ⟨by omega, by omega⟩) ?_
  rw [u2]
  refine G_i2l hk dX10_mixPerson_21 ⟨by omega, by omega⟩ ?_
  refine G_cS2J hk dX10_mixPerson_22 msX10_mix mlX10_316 (Nat.le_of_ble_eq_true rfl) (c_X10_mix _ Γ (d + 5) _ _ _) (fun r_22 S_22 hp_22 => ?_)
  obtain ⟨e_22, s_22⟩ := hp_22
  rw [e_22, s_22]
  refine G_lstore hk dX10_mixPerson_25 (by decide) rfl ?_
  refine G_lload hk dX10_mixPerson_27 rfl ?_
  refine G_rload_n hk dX10_mixPerson_29 rfl ?_
  refine G_iconst hk dX10_mixPerson_30 ?_
  refine G_iload_n hk dX10_mixPerson_31 rfl ?_
  refine G_cV2I hk dX10_mixPerson_32 mvX10_solid mlX10_351 (by decide) rfl rfl (Nat.le_of_ble_eq_true rfl) (c_X10_solid _ Γ (d + 0) _ A lt (CQ_fr hQ0 (frK_0 S)) _ _ ⟨by omega, by omega⟩ ⟨by omega, by omega⟩) (fun r_32 S_32 hp_32 => ?_)
  obtain ⟨e_32, g_32⟩ := hp_32
  have f_32 := frK_t (frK_0 S) g_32
  rw [e_32]
  refine G_i2l hk dX10_mixPerson_35 (solid_bd hC.1 _ _) ?_
  refine G_cS2J hk dX10_mixPerson_36 msX10_mix mlX10_316 (Nat.le_of_ble_eq_true rfl) (c_X10_mix _ Γ (d + 5) _ _ _) (fun r_36 S_36 hp_36 => ?_)
  obtain ⟨e_36, s_36⟩ := hp_36
  rw [e_36, s_36]
  refine G_lstore hk dX10_mixPerson_39 (by decide) rfl ?_
  refine G_lload hk dX10_mixPerson_41 rfl ?_
  refine G_rload_n hk dX10_mixPerson_43 rfl ?_
  refine G_bipush hk dX10_mixPerson_44 (by decide) ?_
  refine G_iload_n hk dX10_mixPerson_46 rfl ?_
  refine G_cV2I hk dX10_mixPerson_47 mvX10_solid mlX10_351 (by decide) rfl rfl (Nat.le_of_ble_eq_true rfl) (c_X10_solid _ Γ (d + 0) _ A lt (CQ_fr hQ0 (f_32)) _ _ ⟨by omega, by omega⟩ ⟨by omega, by omega⟩) (fun r_47 S_47 hp_47 => ?_)
  obtain ⟨e_47, g_47⟩ := hp_47
  have f_47 := frK_t (f_32) g_47
  rw [e_47]
  refine G_i2l hk dX10_mixPerson_50 (solid_bd hC.1 _ _) ?_
  refine G_cS2J hk dX10_mixPerson_51 msX10_mix mlX10_316 (Nat.le_of_ble_eq_true rfl) (c_X10_mix _ Γ (d + 5) _ _ _) (fun r_51 S_51 hp_51 => ?_)
  obtain ⟨e_51, s_51⟩ := hp_51
  rw [e_51, s_51]
  refine G_lstore hk dX10_mixPerson_54 (by decide) rfl ?_
  refine G_lload hk dX10_mixPerson_56 rfl ?_
  refine G_rload_n hk dX10_mixPerson_58 rfl ?_
  refine G_bipush hk dX10_mixPerson_59 (by decide) ?_
  refine G_iload_n hk dX10_mixPerson_61 rfl ?_
  refine G_bipush hk dX10_mixPerson_62 (by decide) ?_
  refine G_iconst hk dX10_mixPerson_64 ?_
  refine G_iconst hk dX10_mixPerson_65 ?_
  refine G_cV5I hk dX10_mixPerson_66 mvX10_whole mlX10_354 (by decide) rfl rfl (Nat.le_of_ble_eq_true rfl) (c_X10_whole _ Γ (d + 0) _ A lt (CQ_fr hQ0 (f_47)) _ _ _ _ _ ⟨by omega, by omega⟩ ⟨by omega, by omega⟩ ⟨by omega, by omega⟩ ⟨by omega, by omega⟩ ⟨by omega, by omega⟩) (fun r_66 S_66 hp_66 => ?_)
  obtain ⟨e_66, g_66⟩ := hp_66
  have f_66 := frK_t (f_47) g_66
  rw [e_66, u3 0 (by decide)]
  refine G_i2l hk dX10_mixPerson_69 (wholeOf_bd hC.1 _ _ _ _ _) ?_
  refine G_cS2J hk dX10_mixPerson_70 msX10_mix mlX10_316 (Nat.le_of_ble_eq_true rfl) (c_X10_mix _ Γ (d + 5) _ _ _) (fun r_70 S_70 hp_70 => ?_)
  obtain ⟨e_70, s_70⟩ := hp_70
  rw [e_70, s_70]
  refine G_lstore hk dX10_mixPerson_73 (by decide) rfl ?_
  refine G_lload hk dX10_mixPerson_75 rfl ?_
  refine G_rload_n hk dX10_mixPerson_77 rfl ?_
  refine G_bipush hk dX10_mixPerson_78 (by decide) ?_
  refine G_iload_n hk dX10_mixPerson_80 rfl ?_
  refine G_bipush hk dX10_mixPerson_81 (by decide) ?_
  refine G_iconst hk dX10_mixPerson_83 ?_
  refine G_iconst hk dX10_mixPerson_84 ?_
  refine G_cV5I hk dX10_mixPerson_85 mvX10_whole mlX10_354 (by decide) rfl rfl (Nat.le_of_ble_eq_true rfl) (c_X10_whole _ Γ (d + 0) _ A lt (CQ_fr hQ0 (f_66)) _ _ _ _ _ ⟨by omega, by omega⟩ ⟨by omega, by omega⟩ ⟨by omega, by omega⟩ ⟨by omega, by omega⟩ ⟨by omega, by omega⟩) (fun r_85 S_85 hp_85 => ?_)
  obtain ⟨e_85, g_85⟩ := hp_85
  have f_85 := frK_t (f_66) g_85
  rw [e_85, u3 1 (by decide)]
  refine G_i2l hk dX10_mixPerson_88 (wholeOf_bd hC.1 _ _ _ _ _) ?_
  refine G_cS2J hk dX10_mixPerson_89 msX10_mix mlX10_316 (Nat.le_of_ble_eq_true rfl) (c_X10_mix _ Γ (d + 5) _ _ _) (fun r_89 S_89 hp_89 => ?_)
  obtain ⟨e_89, s_89⟩ := hp_89
  rw [e_89, s_89]
  refine G_lstore hk dX10_mixPerson_92 (by decide) rfl ?_
  refine G_lload hk dX10_mixPerson_94 rfl ?_
  refine G_rload_n hk dX10_mixPerson_96 rfl ?_
  refine G_bipush hk dX10_mixPerson_97 (by decide) ?_
  refine G_iload_n hk dX10_mixPerson_99 rfl ?_
  refine G_iconst hk dX10_mixPerson_100 ?_
  refine G_cV3I hk dX10_mixPerson_101 mvX10_spy mlX10_358 (by decide) rfl rfl (Nat.le_of_ble_eq_true rfl) (c_X10_spy _ Γ (d + 0) _ A lt (CQ_fr hQ0 (f_85)) _ _ _ ⟨by omega, by omega⟩ ⟨by omega, by omega⟩ ⟨by omega, by omega⟩) (fun r_101 S_101 hp_101 => ?_)
  obtain ⟨e_101, g_101⟩ := hp_101
  have f_101 := frK_t (f_85) g_101
  rw [e_101, u4]
  refine G_i2l hk dX10_mixPerson_104 (spyOf_bd _ _ _ _) ?_
  refine G_cS2J hk dX10_mixPerson_105 msX10_mix mlX10_316 (Nat.le_of_ble_eq_true rfl) (c_X10_mix _ Γ (d + 5) _ _ _) (fun r_105 S_105 hp_105 => ?_)
  obtain ⟨e_105, s_105⟩ := hp_105
  rw [e_105, s_105]
  refine G_lstore hk dX10_mixPerson_108 (by decide) rfl ?_
  refine G_lload hk dX10_mixPerson_110 rfl ?_
  refine G_rload_n hk dX10_mixPerson_112 rfl ?_
  refine G_iconst hk dX10_mixPerson_113 ?_
  refine G_bipush hk dX10_mixPerson_114 (by decide) ?_
  refine G_iconst hk dX10_mixPerson_116 ?_
  refine G_iload_n hk dX10_mixPerson_117 rfl ?_
  refine G_iconst hk dX10_mixPerson_118 ?_
  refine G_iconst hk dX10_mixPerson_119 ?_
  refine G_cV6J hk dX10_mixPerson_120 mvX10_shots mlX10_361 (by decide) rfl rfl (Nat.le_of_ble_eq_true rfl) (c_X10_shots _ Γ (d + 0) _ A lt (CQ_fr hQ0 (f_101)) _ _ _ _ _ _ ⟨by omega, by omega⟩ ⟨by omega, by omega⟩ ⟨by omega, by omega⟩ ⟨by omega, by omega⟩ ⟨by omega, by omega⟩ ⟨by omega, by omega⟩) (fun r_120 S_120 hp_120 => ?_)
  obtain ⟨e_120, g_120⟩ := hp_120
  have f_120 := frK_t (f_101) g_120
  rw [e_120, u5 0 (by decide)]
  refine G_cS2J hk dX10_mixPerson_123 msX10_mix mlX10_316 (Nat.le_of_ble_eq_true rfl) (c_X10_mix _ Γ (d + 5) _ _ _) (fun r_123 S_123 hp_123 => ?_)
  obtain ⟨e_123, s_123⟩ := hp_123
  rw [e_123, s_123]
  refine G_lstore hk dX10_mixPerson_126 (by decide) rfl ?_
  refine G_lload hk dX10_mixPerson_128 rfl ?_
  refine G_rload_n hk dX10_mixPerson_130 rfl ?_
  refine G_iconst hk dX10_mixPerson_131 ?_
  refine G_bipush hk dX10_mixPerson_132 (by decide) ?_
  refine G_iconst hk dX10_mixPerson_134 ?_
  refine G_iload_n hk dX10_mixPerson_135 rfl ?_
  refine G_iconst hk dX10_mixPerson_136 ?_
  refine G_iconst hk dX10_mixPerson_137 ?_
  refine G_cV6J hk dX10_mixPerson_138 mvX10_shots mlX10_361 (by decide) rfl rfl (Nat.le_of_ble_eq_true rfl) (c_X10_shots _ Γ (d + 0) _ A lt (CQ_fr hQ0 (f_120)) _ _ _ _ _ _ ⟨by omega, by omega⟩ ⟨by omega, by omega⟩ ⟨by omega, by omega⟩ ⟨by omega, by omega⟩ ⟨by omega, by omega⟩ ⟨by omega, by omega⟩) (fun r_138 S_138 hp_138 => ?_)
  obtain ⟨e_138, g_138⟩ := hp_138
  have f_138 := frK_t (f_120) g_138
  rw [e_138, u5 1 (by decide)]
  refine G_cS2J hk dX10_mixPerson_141 msX10_mix mlX10_316 (Nat.le_of_ble_eq_true rfl) (c_X10_mix _ Γ (d + 5) _ _ _) (fun r_141 S_141 hp_141 => ?_)
  obtain ⟨e_141, s_141⟩ := hp_141
  rw [e_141, s_141]
  refine G_lstore hk dX10_mixPerson_144 (by decide) rfl ?_
  refine G_lload hk dX10_mixPerson_146 rfl ?_
  refine G_rload_n hk dX10_mixPerson_148 rfl ?_
  refine G_bipush hk dX10_mixPerson_149 (by decide) ?_
  refine G_bipush hk dX10_mixPerson_151 (by decide) ?_
  refine G_iload_n hk dX10_mixPerson_153 rfl ?_
  refine G_cV3I hk dX10_mixPerson_154 mvX10_plates mlX10_365 (by decide) rfl rfl (Nat.le_of_ble_eq_true rfl) (c_X10_plates _ Γ (d + 0) _ A lt (CQ_fr hQ0 (f_138)) _ _ _ ⟨by omega, by omega⟩ ⟨by omega, by omega⟩ ⟨by omega, by omega⟩) (fun r_154 S_154 hp_154 => ?_)
  obtain ⟨e_154, g_154⟩ := hp_154
  have f_154 := frK_t (f_138) g_154
  rw [e_154, u6]
  refine G_i2l hk dX10_mixPerson_157 (platesOf_bd hC.1 _ ⟨by omega, by omega⟩ ⟨by omega, by omega⟩) ?_
  refine G_cS2J hk dX10_mixPerson_158 msX10_mix mlX10_316 (Nat.le_of_ble_eq_true rfl) (c_X10_mix _ Γ (d + 5) _ _ _) (fun r_158 S_158 hp_158 => ?_)
  obtain ⟨e_158, s_158⟩ := hp_158
  rw [e_158, s_158]
  exact G_lret hk hr dX10_mixPerson_161 ⟨rfl, f_154⟩

theorem c_X10_mixYear (l : Launch) (Γ : Ev) (d : Nat) (S : Sx) (A : Av) (lt : Int) (hQ : CQ S A lt) (h y : Int) (hy : 0 ≤ y ∧ y ≤ 29) : Ctr l Γ (d + 6) mX10_mixYear [rf Γ 0, vL h, vI y] S (pL (fun r S2 => r = dgY A y h ∧ frK S S2)) := by
  refine Ctr.of (by decide) rfl rfl (Nat.le_of_ble_eq_true rfl) ?_
  intro κ hl hk hr
  subst hl
  have hQ0 := hQ
  obtain ⟨hC, hW, hWt, h09, h010⟩ := hQ
  obtain ⟨h15, n8, h62, n12, h132, m12⟩ := cl_n hC
  have f9 := hC.1.2.2.2.2.2.2.1
  refine G_lload_n hk dX10_mixYear_0 rfl ?_
  refine G_lstore hk dX10_mixYear_1 (by decide) rfl ?_
  refine G_iconst hk dX10_mixYear_3 ?_
  refine G_istore hk dX10_mixYear_4 (by decide) rfl ?_
  have lp6 := loop_up (P := fun k => ∀ S1 : Sx, frK S S1 → GW κ Γ 6 [some (rf Γ 0), some (vL h), none, some (vI y), some (vL (dgB A y h k)), none, some (vI (k : Int))] [] (wl Γ S1)) 3 ?_ ?_ 0 (Nat.zero_le _)
  · exact lp6 _ (frK_0 S)
  · intro S1 hf6
    refine G_iload hk dX10_mixYear_6 rfl ?_
    refine G_iconst hk dX10_mixYear_8 ?_
    refine G_icmp_gt (tgt := 33) hk dX10_mixYear_9 (by decide) ⟨by omega, by omega⟩ ⟨by omega, by omega⟩ (fun h_9 => ?_) (fun h_9 => ?_)
    · refine G_iconst hk dX10_mixYear_33 ?_
      refine G_istore hk dX10_mixYear_34 (by decide) rfl ?_
      have lp36 := loop_up (P := fun k => ∀ S1 : Sx, frK S S1 → GW κ Γ 36 [some (rf Γ 0), some (vL h), none, some (vI y), some (vL (dgD A y (dgB A y h 3) k)), none, some (vI (k : Int))] [] (wl Γ S1)) 4 ?_ ?_ 0 (Nat.zero_le _)
      · exact lp36 _ hf6
      · intro S1 hf36
        have u8 : a_feast A y 2 = a_feastOf A y 2 := by unfold a_feast; rw [if_neg (by omega), if_neg (by omega)]
        refine G_iload hk dX10_mixYear_36 rfl ?_
        refine G_iconst hk dX10_mixYear_38 ?_
        refine G_icmp_ge (tgt := 63) hk dX10_mixYear_39 (by decide) ⟨by omega, by omega⟩ ⟨by omega, by omega⟩ (fun h_39 => ?_) (fun h_39 => ?_)
        · refine G_lload hk dX10_mixYear_63 rfl ?_
          refine G_rload_n hk dX10_mixYear_65 rfl ?_
          refine G_iload_n hk dX10_mixYear_66 rfl ?_
          refine G_iconst hk dX10_mixYear_67 ?_
          refine G_cV2I hk dX10_mixYear_68 mvX10_feast mlX10_374 (by decide) rfl rfl (Nat.le_of_ble_eq_true rfl) (c_X10_feast _ Γ (d + 0) _ A lt (CQ_fr hQ0 (hf36)) _ _ ⟨by omega, by omega⟩ ⟨by omega, by omega⟩) (fun r_68 S_68 hp_68 => ?_)
          obtain ⟨e_68, g_68⟩ := hp_68
          have f_68 := frK_t (hf36) g_68
          rw [e_68, u8]
          refine G_i2l hk dX10_mixYear_71 (feastOf_bd hC.1 ⟨by omega, by omega⟩ (by omega)) ?_
          refine G_cS2J hk dX10_mixYear_72 msX10_mix mlX10_316 (Nat.le_of_ble_eq_true rfl) (c_X10_mix _ Γ (d + 5) _ _ _) (fun r_72 S_72 hp_72 => ?_)
          obtain ⟨e_72, s_72⟩ := hp_72
          rw [e_72, s_72]
          refine G_lstore hk dX10_mixYear_75 (by decide) rfl ?_
          refine G_iconst hk dX10_mixYear_77 ?_
          refine G_istore hk dX10_mixYear_78 (by decide) rfl ?_
          have lp80 := loop_up (P := fun k => ∀ S1 : Sx, frK S S1 → GW κ Γ 80 [some (rf Γ 0), some (vL h), none, some (vI y), some (vL (dgS A y (mz (dgD A y (dgB A y h 3) 4) (a_feastOf A y 2)) k)), none, some (vI (k : Int))] [] (wl Γ S1)) 3 ?_ ?_ 0 (Nat.zero_le _)
          · exact lp80 _ f_68
          · intro S1 hf80
            refine G_iload hk dX10_mixYear_80 rfl ?_
            refine G_iconst hk dX10_mixYear_82 ?_
            refine G_icmp_gt (tgt := 107) hk dX10_mixYear_83 (by decide) ⟨by omega, by omega⟩ ⟨by omega, by omega⟩ (fun h_83 => ?_) (fun h_83 => ?_)
            · refine G_lload hk dX10_mixYear_107 rfl ?_
              exact G_lret hk hr dX10_mixYear_109 ⟨rfl, hf80⟩
            · exact absurd h_83 (by omega)--stop
          · intro k hk9 ih S1 hf80
            have u9 : a_swap A y (k : Int) = a_swapOf A y (k : Int) := by unfold a_swap; rw [if_neg (by omega), if_neg (by omega)]
            refine G_iload hk dX10_mixYear_80 rfl ?_
            refine G_iconst hk dX10_mixYear_82 ?_
            refine G_icmp_gt (tgt := 107) hk dX10_mixYear_83 (by decide) ⟨by omega, by omega⟩ ⟨by omega, by omega⟩ (fun h_83 => ?_) (fun h_83 => ?_)
            · exact absurd h_83 (by omega)--stop
            · refine G_lload hk dX10_mixYear_86 rfl ?_
              refine G_rload_n hk dX10_mixYear_88 rfl ?_
              refine G_iload_n hk dX10_mixYear_89 rfl ?_
              refine G_iload hk dX10_mixYear_90 rfl ?_
              refine G_cV2I hk dX10_mixYear_92 mvX10_swap mlX10_377 (by decide) rfl rfl (Nat.le_of_ble_eq_true rfl) (c_X10_swap _ Γ (d + 0) _ A lt (CQ_fr hQ0 (hf80)) _ _ ⟨by omega, by omega⟩ ⟨by omega, by omega⟩) (fun r_92 S_92 hp_92 => ?_)
              obtain ⟨e_92, g_92⟩ := hp_92
              have f_92 := frK_t (hf80) g_92
              rw [e_92, u9]
              refine G_i2l hk dX10_mixYear_95 (swapOf_bd hC.1 _ _) ?_
              refine G_cS2J hk dX10_mixYear_96 msX10_mix mlX10_316 (Nat.le_of_ble_eq_true rfl) (c_X10_mix _ Γ (d + 5) _ _ _) (fun r_96 S_96 hp_96 => ?_)
              obtain ⟨e_96, s_96⟩ := hp_96
              rw [e_96, s_96]
              refine G_lstore hk dX10_mixYear_99 (by decide) rfl ?_
              refine G_iinc hk dX10_mixYear_101 rfl (by decide) rfl ?_
              refine G_goto (tgt := 80) hk dX10_mixYear_104 (by decide) ?_
              exact ih _ f_92
        · exact absurd h_39 (by omega)--stop
      · intro k hk9 ih S1 hf36
        have u9 : a_drawer A y (k : Int) = a_drawerOf A y (k : Int) := by unfold a_drawer; rw [if_neg (by omega), if_neg (by omega)]
        refine G_iload hk dX10_mixYear_36 rfl ?_
        refine G_iconst hk dX10_mixYear_38 ?_
        refine G_icmp_ge (tgt := 63) hk dX10_mixYear_39 (by decide) ⟨by omega, by omega⟩ ⟨by omega, by omega⟩ (fun h_39 => ?_) (fun h_39 => ?_)
        · exact absurd h_39 (by omega)--stop
        · refine G_lload hk dX10_mixYear_42 rfl ?_
          refine G_rload_n hk dX10_mixYear_44 rfl ?_
          refine G_iload_n hk dX10_mixYear_45 rfl ?_
          refine G_iload hk dX10_mixYear_46 rfl ?_
          refine G_cV2I hk dX10_mixYear_48 mvX10_drawer mlX10_371 (by decide) rfl rfl (Nat.le_of_ble_eq_true rfl) (c_X10_drawer _ Γ (d + 0) _ A lt (CQ_fr hQ0 (hf36)) _ _ ⟨by omega, by omega⟩ ⟨by omega, by omega⟩) (fun r_48 S_48 hp_48 => ?_)
          obtain ⟨e_48, g_48⟩ := hp_48
          have f_48 := frK_t (hf36) g_48
          rw [e_48, u9]
          refine G_i2l hk dX10_mixYear_51 (drawerOf_bd hC.1 _ _) ?_
          refine G_cS2J hk dX10_mixYear_52 msX10_mix mlX10_316 (Nat.le_of_ble_eq_true rfl) (c_X10_mix _ Γ (d + 5) _ _ _) (fun r_52 S_52 hp_52 => ?_)
          obtain ⟨e_52, s_52⟩ := hp_52
          rw [e_52, s_52]
          refine G_lstore hk dX10_mixYear_55 (by decide) rfl ?_
          refine G_iinc hk dX10_mixYear_57 rfl (by decide) rfl ?_
          refine G_goto (tgt := 36) hk dX10_mixYear_60 (by decide) ?_
          exact ih _ f_48
    · exact absurd h_9 (by omega)--stop
  · intro k hk9 ih S1 hf6
    have u9 : a_behind A y (k : Int) = a_behindOf A y (k : Int) := by unfold a_behind; rw [if_neg (by omega), if_neg (by omega)]
    refine G_iload hk dX10_mixYear_6 rfl ?_
    refine G_iconst hk dX10_mixYear_8 ?_
    refine G_icmp_gt (tgt := 33) hk dX10_mixYear_9 (by decide) ⟨by omega, by omega⟩ ⟨by omega, by omega⟩ (fun h_9 => ?_) (fun h_9 => ?_)
    · exact absurd h_9 (by omega)--stop
    · refine G_lload hk dX10_mixYear_12 rfl ?_
      refine G_rload_n hk dX10_mixYear_14 rfl ?_
      refine G_iload_n hk dX10_mixYear_15 rfl ?_
      refine G_iload hk dX10_mixYear_16 rfl ?_
      refine G_cV2I hk dX10_mixYear_18 mvX10_behind mlX10_368 (by decide) rfl rfl (Nat.le_of_ble_eq_true rfl) (c_X10_behind _ Γ (d + 0) _ A lt (CQ_fr hQ0 (hf6)) _ _ ⟨by omega, by omega⟩ ⟨by omega, by omega⟩) (fun r_18 S_18 hp_18 => ?_)
      obtain ⟨e_18, g_18⟩ := hp_18
      have f_18 := frK_t (hf6) g_18
      rw [e_18, u9]
      refine G_i2l hk dX10_mixYear_21 (behindOf_bd hC.1 ⟨by omega, by omega⟩ _) ?_
      refine G_cS2J hk dX10_mixYear_22 msX10_mix mlX10_316 (Nat.le_of_ble_eq_true rfl) (c_X10_mix _ Γ (d + 5) _ _ _) (fun r_22 S_22 hp_22 => ?_)
      obtain ⟨e_22, s_22⟩ := hp_22
      rw [e_22, s_22]
      refine G_lstore hk dX10_mixYear_25 (by decide) rfl ?_
      refine G_iinc hk dX10_mixYear_27 rfl (by decide) rfl ?_
      refine G_goto (tgt := 6) hk dX10_mixYear_30 (by decide) ?_
      exact ih _ f_18

theorem c_X10_digest (l : Launch) (Γ : Ev) (d : Nat) (S : Sx) (A : Av) (lt : Int) (hQ : CQ S A lt) (hlt : R32 lt) : Ctr l Γ (d + 7) mX10_digest [rf Γ 0] S (pL (fun r S2 => r = a_digest A lt ∧ frK S S2)) := by
  refine Ctr.of (by decide) rfl rfl (Nat.le_of_ble_eq_true rfl) ?_
  intro κ hl hk hr
  subst hl
  have hQ0 := hQ
  obtain ⟨hC, hW, hWt, h09, h010⟩ := hQ
  obtain ⟨h15, n8, h62, n12, h132, m12⟩ := cl_n hC
  have f9 := hC.1.2.2.2.2.2.2.1
  have e15 : ∀ S1, frK S S1 → S1 1 5 = (aN A : Int) := fun S1 h => by rw [h 1 (by omega) (by omega) (by omega) (by omega) (by omega)]; exact h15
  have e62 : ∀ S1, frK S S1 → S1 6 2 = (anp A : Int) := fun S1 h => by rw [h 6 (by omega) (by omega) (by omega) (by omega) (by omega)]; exact h62
  refine G_ldc2 (z := (17)) hk dX10_digest_0 kcX10_311 (by decide) ?_
  refine G_lstore_n hk dX10_digest_3 (by decide) rfl ?_
  refine G_iconst hk dX10_digest_4 ?_
  refine G_istore_n hk dX10_digest_5 (by decide) rfl ?_
  have lp6 := loop_up (P := fun k => GW κ Γ 6 [some (rf Γ 0), some (vL (dg0 A lt k)), none, some (vI (k : Int))] [] (wl Γ S)) 8 ?_ ?_ 0 (Nat.zero_le _)
  · exact lp6
  · refine G_iload_n hk dX10_digest_6 rfl ?_
    refine G_bipush hk dX10_digest_7 (by decide) ?_
    refine G_icmp_gt (tgt := 29) hk dX10_digest_9 (by decide) ⟨by omega, by omega⟩ ⟨by omega, by omega⟩ (fun h_9 => ?_) (fun h_9 => ?_)
    · refine G_lload_n hk dX10_digest_29 rfl ?_
      refine G_rload_n hk dX10_digest_30 rfl ?_
      refine G_cV0P hk dX10_digest_31 mvX10_fault mlX10_320 (by decide) rfl rfl (Nat.le_of_ble_eq_true rfl) (c_X10_fault _ Γ (d + 5) _ A lt hQ0) ?_
      refine G_i2l hk dX10_digest_34 (flt_bd hC.1) ?_
      refine G_cS2J hk dX10_digest_35 msX10_mix mlX10_316 (Nat.le_of_ble_eq_true rfl) (c_X10_mix _ Γ (d + 6) _ _ _) (fun r_35 S_35 hp_35 => ?_)
      obtain ⟨e_35, s_35⟩ := hp_35
      rw [e_35, s_35]
      refine G_lstore_n hk dX10_digest_38 (by decide) rfl ?_
      refine G_iconst hk dX10_digest_39 ?_
      refine G_istore_n hk dX10_digest_40 (by decide) rfl ?_
      have lp41 := loop_up (P := fun k => ∀ S1 : Sx, frK S S1 → GW κ Γ 41 [some (rf Γ 0), some (vL (dg1 A (mz (dg0 A lt 8) (a_fault A)) k)), none, some (vI (k : Int))] [] (wl Γ S1)) (aN A) ?_ ?_ 0 (Nat.zero_le _)
      · exact lp41 _ (frK_0 S)
      · intro S1 hf41
        refine G_iload_n hk dX10_digest_41 rfl ?_
        refine G_rload_n hk dX10_digest_42 rfl ?_
        refine G_getR hk dX10_digest_43 flX10_10 (by decide) rfl rfl ?_
        refine G_cV0P hk dX10_digest_46 mvX4_howMany mlX10_190 (by decide) rfl rfl (Nat.le_of_ble_eq_true rfl) (c_X4_howMany _ Γ (d + 6) _) ?_
        rw [e15 S1 hf41]
        refine G_icmp_ge (tgt := 65) hk dX10_digest_49 (by decide) ⟨by omega, by omega⟩ ⟨by omega, by omega⟩ (fun h_49 => ?_) (fun h_49 => ?_)
        · refine G_iconst hk dX10_digest_65 ?_
          refine G_istore_n hk dX10_digest_66 (by decide) rfl ?_
          have lp67 := loop_up (P := fun k => ∀ S1 : Sx, frK S S1 → GW κ Γ 67 [some (rf Γ 0), some (vL (dg2 A (dg1 A (mz (dg0 A lt 8) (a_fault A)) (aN A)) k)), none, some (vI (k : Int))] [] (wl Γ S1)) (anp A) ?_ ?_ 0 (Nat.zero_le _)
          · exact lp67 _ hf41
          · intro S1 hf67
            have u1 : ∀ w, 0 ≤ w ∧ w ≤ 1 → a_unseen A w = a_unseenOf A w := fun w hw => by unfold a_unseen; rw [if_neg (by omega)]
            have u2 : a_town 99 55 2 = a_townOf 99 (55 / 10) 2 := by unfold a_town; rw [if_neg (by decide), if_neg (by decide), if_neg (by decide)]
            have u3 : a_toll 99 2 = a_tollOf 99 2 := by unfold a_toll; rw [if_neg (by decide), if_neg (by decide)]
            have tb := a_townOf_r 99 (55 / 10) 2
            refine G_iload_n hk dX10_digest_67 rfl ?_
            refine G_rload_n hk dX10_digest_68 rfl ?_
            refine G_getR hk dX10_digest_69 flX10_19 (by decide) rfl rfl ?_
            refine G_cV0P hk dX10_digest_72 mvX5_howMany mlX10_123 (by decide) rfl rfl (Nat.le_of_ble_eq_true rfl) (c_X5_howMany _ Γ (d + 5) _) ?_
            rw [e62 S1 hf67]
            refine G_icmp_ge (tgt := 119) hk dX10_digest_75 (by decide) ⟨by omega, by omega⟩ ⟨by omega, by omega⟩ (fun h_75 => ?_) (fun h_75 => ?_)
            · refine G_rload_n hk dX10_digest_119 rfl ?_
              refine G_lload_n hk dX10_digest_120 rfl ?_
              refine G_iconst hk dX10_digest_121 ?_
              refine G_cV2J hk dX10_digest_122 mvX10_mixYear mlX10_333 (by decide) rfl rfl (Nat.le_of_ble_eq_true rfl) (c_X10_mixYear _ Γ (d + 0) _ A lt (CQ_fr hQ0 (hf67)) _ _ ⟨by omega, by omega⟩) (fun r_122 S_122 hp_122 => ?_)
              obtain ⟨e_122, g_122⟩ := hp_122
              have f_122 := frK_t (hf67) g_122
              rw [e_122]
              refine G_lstore_n hk dX10_digest_125 (by decide) rfl ?_
              refine G_rload_n hk dX10_digest_126 rfl ?_
              refine G_lload_n hk dX10_digest_127 rfl ?_
              refine G_iconst hk dX10_digest_128 ?_
              refine G_cV2J hk dX10_digest_129 mvX10_mixYear mlX10_333 (by decide) rfl rfl (Nat.le_of_ble_eq_true rfl) (c_X10_mixYear _ Γ (d + 0) _ A lt (CQ_fr hQ0 (f_122)) _ _ ⟨by omega, by omega⟩) (fun r_129 S_129 hp_129 => ?_)
              obtain ⟨e_129, g_129⟩ := hp_129
              have f_129 := frK_t (f_122) g_129
              rw [e_129]
              refine G_lstore_n hk dX10_digest_132 (by decide) rfl ?_
              refine G_rload_n hk dX10_digest_133 rfl ?_
              refine G_lload_n hk dX10_digest_134 rfl ?_
              refine G_bipush hk dX10_digest_135 (by decide) ?_
              refine G_cV2J hk dX10_digest_137 mvX10_mixYear mlX10_333 (by decide) rfl rfl (Nat.le_of_ble_eq_true rfl) (c_X10_mixYear _ Γ (d + 0) _ A lt (CQ_fr hQ0 (f_129)) _ _ ⟨by omega, by omega⟩) (fun r_137 S_137 hp_137 => ?_)
              obtain ⟨e_137, g_137⟩ := hp_137
              have f_137 := frK_t (f_129) g_137
              rw [e_137]
              refine G_lstore_n hk dX10_digest_140 (by decide) rfl ?_
              refine G_lload_n hk dX10_digest_141 rfl ?_
              refine G_rload_n hk dX10_digest_142 rfl ?_
              refine G_iconst hk dX10_digest_143 ?_
              refine G_cV1I hk dX10_digest_144 mvX10_unseen mlX10_336 (by decide) rfl rfl (Nat.le_of_ble_eq_true rfl) (c_X10_unseen _ Γ (d + 1) _ A lt (CQ_fr hQ0 (f_137)) _ ⟨by omega, by omega⟩) (fun r_144 S_144 hp_144 => ?_)
              obtain ⟨e_144, g_144⟩ := hp_144
              have f_144 := frK_t (f_137) g_144
              rw [e_144, u1 0 (by decide)]
              refine G_i2l hk dX10_digest_147 (unseenOf_bd hC.1 _) ?_
              refine G_cS2J hk dX10_digest_148 msX10_mix mlX10_316 (Nat.le_of_ble_eq_true rfl) (c_X10_mix _ Γ (d + 6) _ _ _) (fun r_148 S_148 hp_148 => ?_)
              obtain ⟨e_148, s_148⟩ := hp_148
              rw [e_148, s_148]
              refine G_lstore_n hk dX10_digest_151 (by decide) rfl ?_
              refine G_lload_n hk dX10_digest_152 rfl ?_
              refine G_rload_n hk dX10_digest_153 rfl ?_
              refine G_iconst hk dX10_digest_154 ?_
              refine G_cV1I hk dX10_digest_155 mvX10_unseen mlX10_336 (by decide) rfl rfl (Nat.le_of_ble_eq_true rfl) (c_X10_unseen _ Γ (d + 1) _ A lt (CQ_fr hQ0 (f_144)) _ ⟨by omega, by omega⟩) (fun r_155 S_155 hp_155 => ?_)
              obtain ⟨e_155, g_155⟩ := hp_155
              have f_155 := frK_t (f_144) g_155
              rw [e_155, u1 1 (by decide)]
              refine G_i2l hk dX10_digest_158 (unseenOf_bd hC.1 _) ?_
              refine G_cS2J hk dX10_digest_159 msX10_mix mlX10_316 (Nat.le_of_ble_eq_true rfl) (c_X10_mix _ Γ (d + 6) _ _ _) (fun r_159 S_159 hp_159 => ?_)
              obtain ⟨e_159, s_159⟩ := hp_159
              rw [e_159, s_159]
              refine G_lstore_n hk dX10_digest_162 (by decide) rfl ?_
              refine G_lload_n hk dX10_digest_163 rfl ?_
              refine G_rload_n hk dX10_digest_164 rfl ?_
              refine G_cV0I hk dX10_digest_165 mvX10_never mlX10_339 (by decide) rfl rfl (Nat.le_of_ble_eq_true rfl) (c_X10_never _ Γ (d + 0) _ A lt (CQ_fr hQ0 (f_155))) (fun r_165 S_165 hp_165 => ?_)
              obtain ⟨e_165, g_165⟩ := hp_165
              have f_165 := frK_t (f_155) g_165
              rw [e_165]
              refine G_i2l hk dX10_digest_168 (never_bd hC.1) ?_
              refine G_cS2J hk dX10_digest_169 msX10_mix mlX10_316 (Nat.le_of_ble_eq_true rfl) (c_X10_mix _ Γ (d + 6) _ _ _) (fun r_169 S_169 hp_169 => ?_)
              obtain ⟨e_169, s_169⟩ := hp_169
              rw [e_169, s_169]
              refine G_lstore_n hk dX10_digest_172 (by decide) rfl ?_
              refine G_lload_n hk dX10_digest_173 rfl ?_
              refine G_rload_n hk dX10_digest_174 rfl ?_
              refine G_bipush hk dX10_digest_175 (by decide) ?_
              refine G_bipush hk dX10_digest_177 (by decide) ?_
              refine G_iconst hk dX10_digest_179 ?_
              refine G_cV3P hk dX10_digest_180 mvX10_town mlX10_342 (by decide) rfl rfl (Nat.le_of_ble_eq_true rfl) (c_X10_town _ Γ (d + 4) _ _ _ _ ⟨by omega, by omega⟩ ⟨by omega, by omega⟩ ⟨by omega, by omega⟩) ?_
              rw [u2]
              refine G_i2l hk dX10_digest_183 ⟨by omega, by omega⟩ ?_
              refine G_cS2J hk dX10_digest_184 msX10_mix mlX10_316 (Nat.le_of_ble_eq_true rfl) (c_X10_mix _ Γ (d + 6) _ _ _) (fun r_184 S_184 hp_184 => ?_)
              obtain ⟨e_184, s_184⟩ := hp_184
              rw [e_184, s_184]
              refine G_lstore_n hk dX10_digest_187 (by decide) rfl ?_
              refine G_lload_n hk dX10_digest_188 rfl ?_
              refine G_rload_n hk dX10_digest_189 rfl ?_
              refine G_bipush hk dX10_digest_190 (by decide) ?_
              refine G_iconst hk dX10_digest_192 ?_
              refine G_cV2P hk dX10_digest_193 mvX10_toll mlX10_345 (by decide) rfl rfl (Nat.le_of_ble_eq_true rfl) (c_X10_toll _ Γ (d + 4) _ _ _ ⟨by omega, by omega⟩ ⟨by omega, by omega⟩) ?_
              rw [u3]
              refine G_i2l hk dX10_digest_196 (tollOf_bd _ _) ?_
              refine G_cS2J hk dX10_digest_197 msX10_mix mlX10_316 (Nat.le_of_ble_eq_true rfl) (c_X10_mix _ Γ (d + 6) _ _ _) (fun r_197 S_197 hp_197 => ?_)
              obtain ⟨e_197, s_197⟩ := hp_197
              rw [e_197, s_197]
              exact G_lret hk hr dX10_digest_200 ⟨rfl, f_165⟩
            · exact absurd h_75 (by omega)--stop
          · intro k hk9 ih S1 hf67
            have u9 : ∀ w, 0 ≤ w ∧ w ≤ 1 → a_took A (k : Int) w = a_tookOf A (k : Int) w := fun w hw => by unfold a_took; rw [if_neg (by omega), if_neg (by omega)]
            have u8 : a_sizes A (k : Int) = a_sizesOf A (k : Int) := by unfold a_sizes; rw [if_neg (by omega)]
            refine G_iload_n hk dX10_digest_67 rfl ?_
            refine G_rload_n hk dX10_digest_68 rfl ?_
            refine G_getR hk dX10_digest_69 flX10_19 (by decide) rfl rfl ?_
            refine G_cV0P hk dX10_digest_72 mvX5_howMany mlX10_123 (by decide) rfl rfl (Nat.le_of_ble_eq_true rfl) (c_X5_howMany _ Γ (d + 5) _) ?_
            rw [e62 S1 hf67]
            refine G_icmp_ge (tgt := 119) hk dX10_digest_75 (by decide) ⟨by omega, by omega⟩ ⟨by omega, by omega⟩ (fun h_75 => ?_) (fun h_75 => ?_)
            · exact absurd h_75 (by omega)--stop
            · refine G_lload_n hk dX10_digest_78 rfl ?_
              refine G_rload_n hk dX10_digest_79 rfl ?_
              refine G_iload_n hk dX10_digest_80 rfl ?_
              refine G_iconst hk dX10_digest_81 ?_
              refine G_cV2I hk dX10_digest_82 mvX10_took mlX10_327 (by decide) rfl rfl (Nat.le_of_ble_eq_true rfl) (c_X10_took _ Γ (d + 1) _ A lt (CQ_fr hQ0 (hf67)) _ _ ⟨by omega, by omega⟩ ⟨by omega, by omega⟩) (fun r_82 S_82 hp_82 => ?_)
              obtain ⟨e_82, g_82⟩ := hp_82
              have f_82 := frK_t (hf67) g_82
              rw [e_82, u9 0 (by decide)]
              refine G_i2l hk dX10_digest_85 (tookOf_bd hC.1 ⟨by omega, by omega⟩ ⟨by omega, by omega⟩) ?_
              refine G_cS2J hk dX10_digest_86 msX10_mix mlX10_316 (Nat.le_of_ble_eq_true rfl) (c_X10_mix _ Γ (d + 6) _ _ _) (fun r_86 S_86 hp_86 => ?_)
              obtain ⟨e_86, s_86⟩ := hp_86
              rw [e_86, s_86]
              refine G_lstore_n hk dX10_digest_89 (by decide) rfl ?_
              refine G_lload_n hk dX10_digest_90 rfl ?_
              refine G_rload_n hk dX10_digest_91 rfl ?_
              refine G_iload_n hk dX10_digest_92 rfl ?_
              refine G_iconst hk dX10_digest_93 ?_
              refine G_cV2I hk dX10_digest_94 mvX10_took mlX10_327 (by decide) rfl rfl (Nat.le_of_ble_eq_true rfl) (c_X10_took _ Γ (d + 1) _ A lt (CQ_fr hQ0 (f_82)) _ _ ⟨by omega, by omega⟩ ⟨by omega, by omega⟩) (fun r_94 S_94 hp_94 => ?_)
              obtain ⟨e_94, g_94⟩ := hp_94
              have f_94 := frK_t (f_82) g_94
              rw [e_94, u9 1 (by decide)]
              refine G_i2l hk dX10_digest_97 (tookOf_bd hC.1 ⟨by omega, by omega⟩ ⟨by omega, by omega⟩) ?_
              refine G_cS2J hk dX10_digest_98 msX10_mix mlX10_316 (Nat.le_of_ble_eq_true rfl) (c_X10_mix _ Γ (d + 6) _ _ _) (fun r_98 S_98 hp_98 => ?_)
              obtain ⟨e_98, s_98⟩ := hp_98
              rw [e_98, s_98]
              refine G_lstore_n hk dX10_digest_101 (by decide) rfl ?_
              refine G_lload_n hk dX10_digest_102 rfl ?_
              refine G_rload_n hk dX10_digest_103 rfl ?_
              refine G_iload_n hk dX10_digest_104 rfl ?_
              refine G_cV1I hk dX10_digest_105 mvX10_sizes mlX10_330 (by decide) rfl rfl (Nat.le_of_ble_eq_true rfl) (c_X10_sizes _ Γ (d + 0) _ A lt (CQ_fr hQ0 (f_94)) _ ⟨by omega, by omega⟩) (fun r_105 S_105 hp_105 => ?_)
              obtain ⟨e_105, g_105⟩ := hp_105
              have f_105 := frK_t (f_94) g_105
              rw [e_105, u8]
              refine G_i2l hk dX10_digest_108 (sizesOf_bd _ _) ?_
              refine G_cS2J hk dX10_digest_109 msX10_mix mlX10_316 (Nat.le_of_ble_eq_true rfl) (c_X10_mix _ Γ (d + 6) _ _ _) (fun r_109 S_109 hp_109 => ?_)
              obtain ⟨e_109, s_109⟩ := hp_109
              rw [e_109, s_109]
              refine G_lstore_n hk dX10_digest_112 (by decide) rfl ?_
              refine G_iinc hk dX10_digest_113 rfl (by decide) rfl ?_
              refine G_goto (tgt := 67) hk dX10_digest_116 (by decide) ?_
              exact ih _ f_105
        · exact absurd h_49 (by omega)--stop
      · intro k hk9 ih S1 hf41
        refine G_iload_n hk dX10_digest_41 rfl ?_
        refine G_rload_n hk dX10_digest_42 rfl ?_
        refine G_getR hk dX10_digest_43 flX10_10 (by decide) rfl rfl ?_
        refine G_cV0P hk dX10_digest_46 mvX4_howMany mlX10_190 (by decide) rfl rfl (Nat.le_of_ble_eq_true rfl) (c_X4_howMany _ Γ (d + 6) _) ?_
        rw [e15 S1 hf41]
        refine G_icmp_ge (tgt := 65) hk dX10_digest_49 (by decide) ⟨by omega, by omega⟩ ⟨by omega, by omega⟩ (fun h_49 => ?_) (fun h_49 => ?_)
        · exact absurd h_49 (by omega)--stop
        · refine G_rload_n hk dX10_digest_52 rfl ?_
          refine G_lload_n hk dX10_digest_53 rfl ?_
          refine G_iload_n hk dX10_digest_54 rfl ?_
          refine G_cV2J hk dX10_digest_55 mvX10_mixPerson mlX10_323 (by decide) rfl rfl (Nat.le_of_ble_eq_true rfl) (c_X10_mixPerson _ Γ (d + 0) _ A lt (CQ_fr hQ0 hf41) _ _ ⟨by omega, by omega⟩) (fun r_55 S_55 hp_55 => ?_)
          obtain ⟨e_55, g_55⟩ := hp_55
          have f_55 := frK_t hf41 g_55
          rw [e_55]
          refine G_lstore_n hk dX10_digest_58 (by decide) rfl ?_
          refine G_iinc hk dX10_digest_59 rfl (by decide) rfl ?_
          refine G_goto (tgt := 41) hk dX10_digest_62 (by decide) ?_
          exact ih _ f_55
    · exact absurd h_9 (by omega)--stop
  · intro k hk9 ih
    refine G_iload_n hk dX10_digest_6 rfl ?_
    refine G_bipush hk dX10_digest_7 (by decide) ?_
    refine G_icmp_gt (tgt := 29) hk dX10_digest_9 (by decide) ⟨by omega, by omega⟩ ⟨by omega, by omega⟩ (fun h_9 => ?_) (fun h_9 => ?_)
    · exact absurd h_9 (by omega)--stop
    · refine G_lload_n hk dX10_digest_12 rfl ?_
      refine G_rload_n hk dX10_digest_13 rfl ?_
      refine G_iload_n hk dX10_digest_14 rfl ?_
      refine G_cV1P hk dX10_digest_15 mvX10_count mlX10_313 (by decide) rfl rfl (Nat.le_of_ble_eq_true rfl) (c_X10_count _ Γ (d + 4) _ A lt hQ0 _ ⟨by omega, by omega⟩) ?_
      refine G_i2l hk dX10_digest_18 (count_bd hC.1 hlt _) ?_
      refine G_cS2J hk dX10_digest_19 msX10_mix mlX10_316 (Nat.le_of_ble_eq_true rfl) (c_X10_mix _ Γ (d + 6) _ _ _) (fun r_19 S_19 hp_19 => ?_)
      obtain ⟨e_19, s_19⟩ := hp_19
      rw [e_19, s_19]
      refine G_lstore_n hk dX10_digest_22 (by decide) rfl ?_
      refine G_iinc hk dX10_digest_23 rfl (by decide) rfl ?_
      refine G_goto (tgt := 6) hk dX10_digest_26 (by decide) ?_
      exact ih
