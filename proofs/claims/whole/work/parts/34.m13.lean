theorem c_solR (l : Launch) (Γ : Ev) (d : Nat) (S : Sx) (hI : InvM S) (y p : Int) (h_y : R32 y) (h_p : R32 p) : Ctr l Γ (d + 7) mX11_solid [rf Γ 44, vI y, vI p] S (pI (fun r S2 => r = a_solid (av S) y p ∧ frQ S S2 ∧ RdM S2)) := by
  refine Ctr.of (by decide) rfl rfl (Nat.le_of_ble_eq_true rfl) ?_
  intro κ hl hk hr
  subst hl
  refine G_rload_n hk dX11_solid_0 rfl ?_
  refine G_cV0I hk dX11_solid_1 mvX11_reads mlX11_113 (by decide) rfl rfl (Nat.le_of_ble_eq_true rfl) (c_rd hI) (fun r_1 S_1 hp_1 => ?_)
  obtain ⟨hr0, hR, hq⟩ := hp_1
  have eQ := av_frQ hq
  have e8 : S_1 44 8 = (aN (av S) : Int) := by rw [hR.2.1, eQ]
  have n8 := aN_8 hI.1
  refine G_pop hk dX11_solid_4 rfl ?_
  refine G_iload_n hk dX11_solid_5 rfl ?_
  refine G_cS1P hk dX11_solid_6 msX11_isYear mlX11_130 (Nat.le_of_ble_eq_true rfl) (c_X11_isYear _ Γ (d + 5) _ _ ⟨by omega, by omega⟩) ?_
  refine G_bif_eq (tgt := 20) hk dX11_solid_9 (by decide) (fun h_9 => ?_) (fun h_9 => ?_)
  · refine G_bipush hk dX11_solid_20 (by decide) ?_
    exact G_iret hk hr dX11_solid_22 ⟨by unfold a_solid; (repeat' split) <;> first | (exfalso; omega) | rfl, hq, hR⟩
  · refine G_rload_n hk dX11_solid_12 rfl ?_
    refine G_iload_n hk dX11_solid_13 rfl ?_
    refine G_cV1P hk dX11_solid_14 mvX11_isPerson mlX11_121 (by decide) rfl rfl (Nat.le_of_ble_eq_true rfl) (c_X11_isPerson _ Γ (d + 5) _ _ ⟨by omega, by omega⟩ ⟨by omega, by omega⟩) ?_
    refine G_bif_ne (tgt := 23) hk dX11_solid_17 (by decide) (fun h_17 => ?_) (fun h_17 => ?_)
    · refine G_rload_n hk dX11_solid_23 rfl ?_
      refine G_iload_n hk dX11_solid_24 rfl ?_
      refine G_cV1V hk dX11_solid_25 mvX11_lives mlX11_192 (by decide) rfl rfl (Nat.le_of_ble_eq_true rfl) (c_lv hR ⟨by omega, by omega⟩) (fun S_25 hp_25 => ?_)
      obtain ⟨hX1, hR1, hf1⟩ := hp_25
      rw [eQ] at hX1
      refine G_rload_n hk dX11_solid_28 rfl ?_
      refine G_getR hk dX11_solid_29 flX11_37 (by decide) rfl rfl ?_
      refine G_iload_n hk dX11_solid_32 rfl ?_
      refine G_iald hk dX11_solid_33 (by decide) rfl (by decide) (by omega) (by omega) ?_
      exact G_iret hk hr dX11_solid_34 ⟨by unfold a_solid a_solidOf; rw [hX1.1 _ (by omega)]; (repeat' split) <;> first | (exfalso; omega) | rfl, frQ_t hq (frQ_P hf1), hR1⟩
    · refine G_bipush hk dX11_solid_20 (by decide) ?_
      exact G_iret hk hr dX11_solid_22 ⟨by unfold a_solid; (repeat' split) <;> first | (exfalso; omega) | rfl, hq, hR⟩

theorem c_X11_tellsPerson (l : Launch) (Γ : Ev) (d : Nat) (S : Sx) (hR : RdM S) (h p : Int) (hp : 0 ≤ p ∧ p ≤ (aN (av S) : Int) - 1) : Ctr l Γ (d + 9) mX11_tellsPerson [rf Γ 44, vL h, vI p] S (pL (fun r S2 => r = dgP (av S) h p ∧ RdM S2 ∧ frQ S S2)) := by
  refine Ctr.of (by decide) rfl rfl (Nat.le_of_ble_eq_true rfl) ?_
  intro κ hl hk hr
  subst hl
  have hA := hR.1.1
  have n8 := aN_8 hA
  have a9 := a0_99 (A := av S) p.toNat (by omega)
  have e50 := (hR.2.2 p.toNat (by omega)).1
  have t9 := aTw_ok (A := av S) p.toNat (by omega)
  have hq0 : frQ S S := ⟨fun _ _ _ _ _ _ _ => rfl, fun _ _ => rfl, hR.1.2.2.2.2.1, hR.1.2.2.2.2.2.2.1⟩
  refine G_ldc2 (z := (31)) hk dX11_tellsPerson_0 kcX11_312 (by decide) ?_
  refine G_lload_n hk dX11_tellsPerson_3 rfl ?_
  refine G_lmul hk dX11_tellsPerson_4 ?_
  refine G_rload_n hk dX11_tellsPerson_5 rfl ?_
  refine G_getR hk dX11_tellsPerson_6 flX11_25 (by decide) rfl rfl ?_
  refine G_iconst hk dX11_tellsPerson_9 ?_
  refine G_iload_n hk dX11_tellsPerson_10 rfl ?_
  refine G_imul hk dX11_tellsPerson_11 ?_
  refine G_iald hk dX11_tellsPerson_12 (by decide) rfl (by decide) (by omega) (by omega) ?_
  rw [show (2 * p).toNat = 2 * p.toNat by omega, e50]
  refine G_i2l hk dX11_tellsPerson_13 ⟨by omega, by omega⟩ ?_
  refine G_ladd hk dX11_tellsPerson_14 ?_
  refine G_lstore hk dX11_tellsPerson_15 (by decide) rfl ?_
  refine G_ldc2 (z := (31)) hk dX11_tellsPerson_17 kcX11_312 (by decide) ?_
  refine G_lload hk dX11_tellsPerson_20 rfl ?_
  refine G_lmul hk dX11_tellsPerson_22 ?_
  refine G_rload_n hk dX11_tellsPerson_23 rfl ?_
  refine G_iload_n hk dX11_tellsPerson_24 rfl ?_
  refine G_cV1P hk dX11_tellsPerson_25 mvX11_twinOf mlX11_127 (by decide) rfl rfl (Nat.le_of_ble_eq_true rfl) (c_tw11 (rdm_sim hR) hp) ?_
  refine G_i2l hk dX11_tellsPerson_28 ⟨by omega, by omega⟩ ?_
  refine G_ladd hk dX11_tellsPerson_29 ?_
  refine G_lstore hk dX11_tellsPerson_30 (by decide) rfl ?_
  refine G_ldc2 (z := (31)) hk dX11_tellsPerson_32 kcX11_312 (by decide) ?_
  refine G_lload hk dX11_tellsPerson_35 rfl ?_
  refine G_lmul hk dX11_tellsPerson_37 ?_
  refine G_rload_n hk dX11_tellsPerson_38 rfl ?_
  refine G_iconst hk dX11_tellsPerson_39 ?_
  refine G_iload_n hk dX11_tellsPerson_40 rfl ?_
  refine G_cV2I hk dX11_tellsPerson_41 mvX11_solid mlX11_314 (by decide) rfl rfl (Nat.le_of_ble_eq_true rfl) (c_solR _ Γ (d + 1) _ hR.1 _ _ ⟨by omega, by omega⟩ ⟨by omega, by omega⟩) (fun r_41 S_41 hp_41 => ?_)
  obtain ⟨hv41, hq41, hR41⟩ := hp_41
  rw [hv41]
  have eA41 := av_frQ hq41
  refine G_i2l hk dX11_tellsPerson_44 (solid_bd hA 5 p) ?_
  refine G_ladd hk dX11_tellsPerson_45 ?_
  refine G_lstore hk dX11_tellsPerson_46 (by decide) rfl ?_
  refine G_ldc2 (z := (31)) hk dX11_tellsPerson_48 kcX11_312 (by decide) ?_
  refine G_lload hk dX11_tellsPerson_51 rfl ?_
  refine G_lmul hk dX11_tellsPerson_53 ?_
  refine G_rload_n hk dX11_tellsPerson_54 rfl ?_
  refine G_bipush hk dX11_tellsPerson_55 (by decide) ?_
  refine G_iload_n hk dX11_tellsPerson_57 rfl ?_
  refine G_cV2I hk dX11_tellsPerson_58 mvX11_solid mlX11_314 (by decide) rfl rfl (Nat.le_of_ble_eq_true rfl) (c_solR _ Γ (d + 1) _ hR41.1 _ _ ⟨by omega, by omega⟩ ⟨by omega, by omega⟩) (fun r_58 S_58 hp_58 => ?_)
  obtain ⟨hv58, hq58a, hR58⟩ := hp_58
  have hq58 := frQ_t hq41 hq58a
  rw [hv58, eA41]
  have eA58 := av_frQ hq58
  refine G_i2l hk dX11_tellsPerson_61 (solid_bd hA 29 p) ?_
  refine G_ladd hk dX11_tellsPerson_62 ?_
  refine G_lstore hk dX11_tellsPerson_63 (by decide) rfl ?_
  refine G_ldc2 (z := (31)) hk dX11_tellsPerson_65 kcX11_312 (by decide) ?_
  refine G_lload hk dX11_tellsPerson_68 rfl ?_
  refine G_lmul hk dX11_tellsPerson_70 ?_
  refine G_rload_n hk dX11_tellsPerson_71 rfl ?_
  refine G_bipush hk dX11_tellsPerson_72 (by decide) ?_
  refine G_iload_n hk dX11_tellsPerson_74 rfl ?_
  refine G_bipush hk dX11_tellsPerson_75 (by decide) ?_
  refine G_iconst hk dX11_tellsPerson_77 ?_
  refine G_iconst hk dX11_tellsPerson_78 ?_
  refine G_cV5I hk dX11_tellsPerson_79 mvX11_wholeOf mlX11_239 (by decide) rfl rfl (Nat.le_of_ble_eq_true rfl) (c_X11_wholeOf _ Γ (d + 0) _ hR58 _ _ _ _ _ ⟨by decide, by decide⟩ (by rw [eA58]; exact hp) ⟨by decide, by decide⟩ ⟨by decide, by decide⟩ ⟨by decide, by decide⟩) (fun r_79 S_79 hp_79 => ?_)
  obtain ⟨hv79, g27, hR79, hf79⟩ := hp_79
  have hq79 := frQ_t hq58 (frQ_P hf79)
  rw [eA58] at g27
  rw [hv79, eA58]
  have eA79 := av_frQ hq79
  refine G_i2l hk dX11_tellsPerson_82 (wholeOf_bd hA 9 p 50 (-1) 0) ?_
  refine G_ladd hk dX11_tellsPerson_83 ?_
  refine G_lstore hk dX11_tellsPerson_84 (by decide) rfl ?_
  refine G_ldc2 (z := (31)) hk dX11_tellsPerson_86 kcX11_312 (by decide) ?_
  refine G_lload hk dX11_tellsPerson_89 rfl ?_
  refine G_lmul hk dX11_tellsPerson_91 ?_
  refine G_rload_n hk dX11_tellsPerson_92 rfl ?_
  refine G_getI hk dX11_tellsPerson_93 flX11_226 (by decide) rfl rfl ?_
  rw [g27]
  refine G_i2l hk dX11_tellsPerson_96 (wholeOf_bd hA 9 p 50 (-1) 1) ?_
  refine G_ladd hk dX11_tellsPerson_97 ?_
  refine G_lstore hk dX11_tellsPerson_98 (by decide) rfl ?_
  refine G_ldc2 (z := (31)) hk dX11_tellsPerson_100 kcX11_312 (by decide) ?_
  refine G_lload hk dX11_tellsPerson_103 rfl ?_
  refine G_lmul hk dX11_tellsPerson_105 ?_
  refine G_rload_n hk dX11_tellsPerson_106 rfl ?_
  refine G_bipush hk dX11_tellsPerson_107 (by decide) ?_
  refine G_iload_n hk dX11_tellsPerson_109 rfl ?_
  refine G_iconst hk dX11_tellsPerson_110 ?_
  refine G_cV3I hk dX11_tellsPerson_111 mvX11_spyOf mlX11_246 (by decide) rfl rfl (Nat.le_of_ble_eq_true rfl) (c_X11_spyOf _ Γ (d + 1) _ hR79 _ _ _ ⟨by decide, by decide⟩ (by rw [eA79]; exact hp) ⟨by decide, by decide⟩) (fun r_111 S_111 hp_111 => ?_)
  obtain ⟨hv111, hR111, hf111⟩ := hp_111
  have hq111 := frQ_t hq79 (frQ_P hf111)
  rw [hv111, eA79]
  have eA111 := av_frQ hq111
  refine G_i2l hk dX11_tellsPerson_114 (spyOf_bd (av S) 9 p 3) ?_
  refine G_ladd hk dX11_tellsPerson_115 ?_
  refine G_lstore hk dX11_tellsPerson_116 (by decide) rfl ?_
  refine G_ldc2 (z := (31)) hk dX11_tellsPerson_118 kcX11_312 (by decide) ?_
  refine G_lload hk dX11_tellsPerson_121 rfl ?_
  refine G_lmul hk dX11_tellsPerson_123 ?_
  refine G_rload_n hk dX11_tellsPerson_124 rfl ?_
  refine G_iconst hk dX11_tellsPerson_125 ?_
  refine G_bipush hk dX11_tellsPerson_126 (by decide) ?_
  refine G_iconst hk dX11_tellsPerson_128 ?_
  refine G_iload_n hk dX11_tellsPerson_129 rfl ?_
  refine G_iconst hk dX11_tellsPerson_130 ?_
  refine G_iconst hk dX11_tellsPerson_131 ?_
  refine G_cV6J hk dX11_tellsPerson_132 mvX11_shotsOf mlX11_301 (by decide) rfl rfl (Nat.le_of_ble_eq_true rfl) (c_X11_shotsOf _ Γ (d + 1) _ hR111 _ _ _ _ _ _ ⟨by decide, by decide⟩ ⟨by decide, by decide⟩ ⟨by decide, by decide⟩ (by rw [eA111]; exact hp) ⟨by decide, by decide⟩ ⟨by decide, by decide⟩) (fun r_132 S_132 hp_132 => ?_)
  obtain ⟨hv132, hR132, hf132⟩ := hp_132
  have hq132 := frQ_t hq111 (frQ_P hf132)
  rw [hv132, eA111]
  have eA132 := av_frQ hq132
  refine G_ladd hk dX11_tellsPerson_135 ?_
  refine G_lstore hk dX11_tellsPerson_136 (by decide) rfl ?_
  refine G_ldc2 (z := (31)) hk dX11_tellsPerson_138 kcX11_312 (by decide) ?_
  refine G_lload hk dX11_tellsPerson_141 rfl ?_
  refine G_lmul hk dX11_tellsPerson_143 ?_
  refine G_rload_n hk dX11_tellsPerson_144 rfl ?_
  refine G_iconst hk dX11_tellsPerson_145 ?_
  refine G_bipush hk dX11_tellsPerson_146 (by decide) ?_
  refine G_iconst hk dX11_tellsPerson_148 ?_
  refine G_iload_n hk dX11_tellsPerson_149 rfl ?_
  refine G_iconst hk dX11_tellsPerson_150 ?_
  refine G_iconst hk dX11_tellsPerson_151 ?_
  refine G_cV6J hk dX11_tellsPerson_152 mvX11_shotsOf mlX11_301 (by decide) rfl rfl (Nat.le_of_ble_eq_true rfl) (c_X11_shotsOf _ Γ (d + 1) _ hR132 _ _ _ _ _ _ ⟨by decide, by decide⟩ ⟨by decide, by decide⟩ ⟨by decide, by decide⟩ (by rw [eA132]; exact hp) ⟨by decide, by decide⟩ ⟨by decide, by decide⟩) (fun r_152 S_152 hp_152 => ?_)
  obtain ⟨hv152, hR152, hf152⟩ := hp_152
  have hq152 := frQ_t hq132 (frQ_P hf152)
  rw [hv152, eA132]
  have eA152 := av_frQ hq152
  refine G_ladd hk dX11_tellsPerson_155 ?_
  refine G_lstore hk dX11_tellsPerson_156 (by decide) rfl ?_
  refine G_ldc2 (z := (31)) hk dX11_tellsPerson_158 kcX11_312 (by decide) ?_
  refine G_lload hk dX11_tellsPerson_161 rfl ?_
  refine G_lmul hk dX11_tellsPerson_163 ?_
  refine G_rload_n hk dX11_tellsPerson_164 rfl ?_
  refine G_bipush hk dX11_tellsPerson_165 (by decide) ?_
  refine G_bipush hk dX11_tellsPerson_167 (by decide) ?_
  refine G_iload_n hk dX11_tellsPerson_169 rfl ?_
  refine G_cV3I hk dX11_tellsPerson_170 mvX11_platesOf mlX11_309 (by decide) rfl rfl (Nat.le_of_ble_eq_true rfl) (c_X11_platesOf _ Γ (d + 1) _ hR152 _ _ _ ⟨by decide, by decide⟩ (by rw [eA152]; exact hp)) (fun r_170 S_170 hp_170 => ?_)
  obtain ⟨hv170, hR170, hf170⟩ := hp_170
  have hq170 := frQ_t hq152 (frQ_P hf170)
  rw [hv170, eA152]
  have eA170 := av_frQ hq170
  refine G_i2l hk dX11_tellsPerson_173 (platesOf_bd hA 7 ⟨by decide, by decide⟩ hp) ?_
  refine G_ladd hk dX11_tellsPerson_174 ?_
  exact G_lret hk hr dX11_tellsPerson_175 ⟨by simp only [dgP, mz], hR170, hq170⟩

theorem c_X11_digest (l : Launch) (Γ : Ev) (d : Nat) (S : Sx) (hI : InvM S) : Ctr l Γ (d + 10) mX11_digest [rf Γ 44] S (pL (fun r S2 => r = a_digest (av S) (S 44 4) ∧ frQ S S2)) := by
  refine Ctr.of (by decide) rfl rfl (Nat.le_of_ble_eq_true rfl) ?_
  intro κ hl hk hr
  subst hl
  have hA := hI.1
  have n8 := aN_8 hA
  have n12 := hA.2.2.1
  have i2 := hI.2.1
  have i3 := hI.2.2.1.2.2.2
  have hq0 : frQ S S := ⟨fun _ _ _ _ _ _ _ => rfl, fun _ _ => rfl, hI.2.2.2.2.1, hI.2.2.2.2.2.2.1⟩
  refine G_ldc2 (z := (17)) hk dX11_digest_0 kcX11_316 (by decide) ?_
  refine G_lstore_n hk dX11_digest_3 (by decide) rfl ?_
  refine G_iconst hk dX11_digest_4 ?_
  refine G_istore_n hk dX11_digest_5 (by decide) rfl ?_
  have lp0 := loop_up (P := fun k => ∀ S1 : Sx, frQ S S1 → GW κ Γ 6 [some (rf Γ 44), some (vL (dg0 (av S) (S 44 4) k)), none, some (vI (k : Int))] [] (wl Γ S1)) 8 ?_ ?_ 0 (Nat.zero_le _)
  · exact lp0 S hq0
  · intro S1 hq1
    have eA1 := av_frQ hq1
    refine G_iload_n hk dX11_digest_6 rfl ?_
    refine G_bipush hk dX11_digest_7 (by decide) ?_
    refine G_icmp_ge (tgt := 31) hk dX11_digest_9 (by decide) ⟨by omega, by omega⟩ ⟨by omega, by omega⟩ (fun h_9 => ?_) (fun h_9 => ?_)
    · refine G_ldc2 (z := (31)) hk dX11_digest_31 kcX11_312 (by decide) ?_
      refine G_lload_n hk dX11_digest_34 rfl ?_
      refine G_lmul hk dX11_digest_35 ?_
      refine G_rload_n hk dX11_digest_36 rfl ?_
      refine G_cV0I hk dX11_digest_37 mvX11_reads mlX11_113 (by decide) rfl rfl (Nat.le_of_ble_eq_true rfl) (c_rd (InvM_frQ hI hq1)) (fun r_37 S_37 hp_37 => ?_)
      obtain ⟨hv37, hR37, hf37⟩ := hp_37
      have hq37 := frQ_t hq1 hf37
      rw [hv37, eA1, show flt (av S).1 (av S).2.1 = a_fault (av S) from rfl]
      refine G_i2l hk dX11_digest_40 (flt_bd hA) ?_
      refine G_ladd hk dX11_digest_41 ?_
      refine G_lstore_n hk dX11_digest_42 (by decide) rfl ?_
      refine G_iconst hk dX11_digest_43 ?_
      refine G_istore_n hk dX11_digest_44 (by decide) rfl ?_
      have lp1 := loop_up (P := fun k => ∀ S1 : Sx, (RdM S1 ∧ frQ S S1) → GW κ Γ 45 [some (rf Γ 44), some (vL (dg1 (av S) (mz (dg0 (av S) (S 44 4) 8) (a_fault (av S))) k)), none, some (vI (k : Int))] [] (wl Γ S1)) (aN (av S)) ?_ ?_ 0 (Nat.zero_le _)
      · exact lp1 _ ⟨hR37, hq37⟩
      · intro S1 ⟨hR1, hq1⟩
        have e8 : S1 44 8 = (aN (av S) : Int) := by rw [hR1.2.1, av_frQ hq1]
        refine G_iload_n hk dX11_digest_45 rfl ?_
        refine G_rload_n hk dX11_digest_46 rfl ?_
        refine G_getI hk dX11_digest_47 flX11_97 (by decide) rfl rfl ?_
        refine G_icmp_ge (tgt := 66) hk dX11_digest_50 (by decide) ⟨by omega, by omega⟩ ⟨by omega, by omega⟩ (fun h_50 => ?_) (fun h_50 => ?_)
        · refine G_iconst hk dX11_digest_66 ?_
          refine G_istore_n hk dX11_digest_67 (by decide) rfl ?_
          have lp2 := loop_up (P := fun k => ∀ S1 : Sx, (RdM S1 ∧ frQ S S1) → GW κ Γ 68 [some (rf Γ 44), some (vL (dg2 (av S) (dg1 (av S) (mz (dg0 (av S) (S 44 4) 8) (a_fault (av S))) (aN (av S))) k)), none, some (vI (k : Int))] [] (wl Γ S1)) (anp (av S)) ?_ ?_ 0 (Nat.zero_le _)
          · exact lp2 _ ⟨hR1, hq1⟩
          · intro S1 ⟨hR1, hq1⟩
            have e10 : S1 44 10 = (anp (av S) : Int) := by rw [hq1.2.1 10 (by omega)]; show S 44 10 = ((S 44 10).toNat : Int); omega
            refine G_iload_n hk dX11_digest_68 rfl ?_
            refine G_rload_n hk dX11_digest_69 rfl ?_
            refine G_getI hk dX11_digest_70 flX11_139 (by decide) rfl rfl ?_
            refine G_icmp_ge (tgt := 123) hk dX11_digest_73 (by decide) ⟨by omega, by omega⟩ ⟨by omega, by omega⟩ (fun h_73 => ?_) (fun h_73 => ?_)
            · refine G_iconst hk dX11_digest_123 ?_
              refine G_istore_n hk dX11_digest_124 (by decide) rfl ?_
              have lp3 := loop_up (P := fun k => ∀ (S1 : Sx) (w4 w5 : Option Value), (RdM S1 ∧ frQ S S1) → GW κ Γ 125 [some (rf Γ 44), some (vL (dg3 (av S) (dg2 (av S) (dg1 (av S) (mz (dg0 (av S) (S 44 4) 8) (a_fault (av S))) (aN (av S))) (anp (av S))) k)), none, some (vI (k : Int)), w4, w5] [] (wl Γ S1)) 3 ?_ ?_ 0 (Nat.zero_le _)
              · exact GW_L rfl (lp3 _ none none ⟨hR1, hq1⟩)
              · intro S1 w4 w5 ⟨hR1, hq1⟩
                have eA1 := av_frQ hq1
                refine G_iload_n hk dX11_digest_125 rfl ?_
                refine G_iconst hk dX11_digest_126 ?_
                refine G_icmp_ge (tgt := 265) hk dX11_digest_127 (by decide) ⟨by omega, by omega⟩ ⟨by omega, by omega⟩ (fun h_127 => ?_) (fun h_127 => ?_)
                · refine G_ldc2 (z := (31)) hk dX11_digest_265 kcX11_312 (by decide) ?_
                  refine G_lload_n hk dX11_digest_268 rfl ?_
                  refine G_lmul hk dX11_digest_269 ?_
                  refine G_rload_n hk dX11_digest_270 rfl ?_
                  refine G_iconst hk dX11_digest_271 ?_
                  refine G_cV1I hk dX11_digest_272 mvX11_unseenOf mlX11_220 (by decide) rfl rfl (Nat.le_of_ble_eq_true rfl) (c_X11_unseenOf _ Γ (d + 3) _ hR1 _ ⟨by decide, by decide⟩) (fun r_272 S_272 hp_272 => ?_)
                  obtain ⟨hv272, hR272, hf272⟩ := hp_272
                  have hq272 := frQ_t hq1 (frQ_P hf272)
                  rw [hv272, eA1]
                  have eA272 := av_frQ hq272
                  refine G_i2l hk dX11_digest_275 (unseenOf_bd hA 0) ?_
                  refine G_ladd hk dX11_digest_276 ?_
                  refine G_lstore_n hk dX11_digest_277 (by decide) rfl ?_
                  refine G_ldc2 (z := (31)) hk dX11_digest_278 kcX11_312 (by decide) ?_
                  refine G_lload_n hk dX11_digest_281 rfl ?_
                  refine G_lmul hk dX11_digest_282 ?_
                  refine G_rload_n hk dX11_digest_283 rfl ?_
                  refine G_iconst hk dX11_digest_284 ?_
                  refine G_cV1I hk dX11_digest_285 mvX11_unseenOf mlX11_220 (by decide) rfl rfl (Nat.le_of_ble_eq_true rfl) (c_X11_unseenOf _ Γ (d + 3) _ hR272 _ ⟨by decide, by decide⟩) (fun r_285 S_285 hp_285 => ?_)
                  obtain ⟨hv285, hR285, hf285⟩ := hp_285
                  have hq285 := frQ_t hq272 (frQ_P hf285)
                  rw [hv285, eA272]
                  have eA285 := av_frQ hq285
                  refine G_i2l hk dX11_digest_288 (unseenOf_bd hA 1) ?_
                  refine G_ladd hk dX11_digest_289 ?_
                  refine G_lstore_n hk dX11_digest_290 (by decide) rfl ?_
                  refine G_ldc2 (z := (31)) hk dX11_digest_291 kcX11_312 (by decide) ?_
                  refine G_lload_n hk dX11_digest_294 rfl ?_
                  refine G_lmul hk dX11_digest_295 ?_
                  refine G_rload_n hk dX11_digest_296 rfl ?_
                  refine G_cV0I hk dX11_digest_297 mvX11_neverNow mlX11_276 (by decide) rfl rfl (Nat.le_of_ble_eq_true rfl) (c_X11_neverNow _ Γ (d + 2) _ hR285) (fun r_297 S_297 hp_297 => ?_)
                  obtain ⟨hv297, hR297, hf297⟩ := hp_297
                  have hq297 := frQ_t hq285 (frQ_P hf297)
                  rw [hv297, eA285]
                  have eA297 := av_frQ hq297
                  refine G_i2l hk dX11_digest_300 (never_bd hA) ?_
                  refine G_ladd hk dX11_digest_301 ?_
                  refine G_lstore_n hk dX11_digest_302 (by decide) rfl ?_
                  refine G_ldc2 (z := (31)) hk dX11_digest_303 kcX11_312 (by decide) ?_
                  refine G_lload_n hk dX11_digest_306 rfl ?_
                  refine G_lmul hk dX11_digest_307 ?_
                  refine G_bipush hk dX11_digest_308 (by decide) ?_
                  refine G_bipush hk dX11_digest_310 (by decide) ?_
                  refine G_iconst hk dX11_digest_312 ?_
                  refine G_cS3P hk dX11_digest_313 msX11_townOf mlX11_284 (Nat.le_of_ble_eq_true rfl) (c_X11_townOf _ Γ (d + 8) _ _ _ _ ⟨by decide, by decide⟩ ⟨by decide, by decide⟩ ⟨by decide, by decide⟩) ?_
                  refine G_i2l hk dX11_digest_316 ⟨by have := a_townOf_r 99 (55 / 10) 2; omega, by have := a_townOf_r 99 (55 / 10) 2; omega⟩ ?_
                  refine G_ladd hk dX11_digest_317 ?_
                  refine G_lstore_n hk dX11_digest_318 (by decide) rfl ?_
                  refine G_ldc2 (z := (31)) hk dX11_digest_319 kcX11_312 (by decide) ?_
                  refine G_lload_n hk dX11_digest_322 rfl ?_
                  refine G_lmul hk dX11_digest_323 ?_
                  refine G_bipush hk dX11_digest_324 (by decide) ?_
                  refine G_iconst hk dX11_digest_326 ?_
                  refine G_cS2P hk dX11_digest_327 msX11_tollOf mlX11_287 (Nat.le_of_ble_eq_true rfl) (c_X11_tollOf _ Γ (d + 7) _ _ _ ⟨by decide, by decide⟩ ⟨by decide, by decide⟩) ?_
                  refine G_i2l hk dX11_digest_330 (tollOf_bd 99 2) ?_
                  refine G_ladd hk dX11_digest_331 ?_
                  exact G_lret hk hr dX11_digest_332 ⟨by simp only [a_digest, dg4, mz], hq297⟩
                · exact absurd h_127 (by omega)--stop
              · intro k hk9 ih S1 w4 w5 ⟨hR1, hq1⟩
                have eA1 := av_frQ hq1
                have hyf : 0 ≤ yf k ∧ yf k ≤ 29 := by unfold yf; split <;> (try split) <;> omega
                refine G_iload_n hk dX11_digest_125 rfl ?_
                refine G_iconst hk dX11_digest_126 ?_
                refine G_icmp_ge (tgt := 265) hk dX11_digest_127 (by decide) ⟨by omega, by omega⟩ ⟨by omega, by omega⟩ (fun h_127 => ?_) (fun h_127 => ?_)
                · exact absurd h_127 (by omega)--stop
                · refine G_iload_n hk dX11_digest_130 rfl ?_
                  refine G_if_ne (tgt := 138) hk dX11_digest_131 (by decide) ⟨by omega, by omega⟩ (fun h_131 => ?_) (fun h_131 => ?_)
                  · refine G_iload_n hk dX11_digest_138 rfl ?_
                    refine G_iconst hk dX11_digest_139 ?_
                    refine G_icmp_ne (tgt := 147) hk dX11_digest_140 (by decide) ⟨by omega, by omega⟩ ⟨by omega, by omega⟩ (fun h_140 => ?_) (fun h_140 => ?_)
                    · refine G_bipush hk dX11_digest_147 (by decide) ?_
                      rw [show (29 : Int) = yf k by unfold yf; rw [if_neg (by omega), if_neg (by omega)]]
                      refine G_istore hk dX11_digest_149 (by decide) rfl ?_
                      refine G_iconst hk dX11_digest_151 ?_
                      refine G_istore hk dX11_digest_152 (by decide) rfl ?_
                      have lpB := loop_up (P := fun j => ∀ S1 : Sx, (RdM S1 ∧ frQ S S1) → GW κ Γ 154 [some (rf Γ 44), some (vL (dgB (av S) (yf k) (dg3 (av S) (dg2 (av S) (dg1 (av S) (mz (dg0 (av S) (S 44 4) 8) (a_fault (av S))) (aN (av S))) (anp (av S))) k) j)), none, some (vI (k : Int)), some (vI (yf k)), some (vI (j : Int))] [] (wl Γ S1)) 3 ?_ ?_ 0 (Nat.zero_le _)
                      · exact lpB _ ⟨hR1, hq1⟩
                      · intro S1 ⟨hR1, hq1⟩
                        have eA1 := av_frQ hq1
                        refine G_iload hk dX11_digest_154 rfl ?_
                        refine G_iconst hk dX11_digest_156 ?_
                        refine G_icmp_ge (tgt := 182) hk dX11_digest_157 (by decide) ⟨by omega, by omega⟩ ⟨by omega, by omega⟩ (fun h_157 => ?_) (fun h_157 => ?_)
                        · refine G_iconst hk dX11_digest_182 ?_
                          refine G_istore hk dX11_digest_183 (by decide) rfl ?_
                          have lpD := loop_up (P := fun j => ∀ S1 : Sx, (RdM S1 ∧ frQ S S1) → GW κ Γ 185 [some (rf Γ 44), some (vL (dgD (av S) (yf k) (dgB (av S) (yf k) (dg3 (av S) (dg2 (av S) (dg1 (av S) (mz (dg0 (av S) (S 44 4) 8) (a_fault (av S))) (aN (av S))) (anp (av S))) k) 3) j)), none, some (vI (k : Int)), some (vI (yf k)), some (vI (j : Int))] [] (wl Γ S1)) 4 ?_ ?_ 0 (Nat.zero_le _)
                          · exact lpD _ ⟨hR1, hq1⟩
                          · intro S1 ⟨hR1, hq1⟩
                            have eA1 := av_frQ hq1
                            refine G_iload hk dX11_digest_185 rfl ?_
                            refine G_iconst hk dX11_digest_187 ?_
                            refine G_icmp_ge (tgt := 213) hk dX11_digest_188 (by decide) ⟨by omega, by omega⟩ ⟨by omega, by omega⟩ (fun h_188 => ?_) (fun h_188 => ?_)
                            · refine G_ldc2 (z := (31)) hk dX11_digest_213 kcX11_312 (by decide) ?_
                              refine G_lload_n hk dX11_digest_216 rfl ?_
                              refine G_lmul hk dX11_digest_217 ?_
                              refine G_rload_n hk dX11_digest_218 rfl ?_
                              refine G_iload hk dX11_digest_219 rfl ?_
                              refine G_iconst hk dX11_digest_221 ?_
                              refine G_cV2I hk dX11_digest_222 mvX11_feastOf mlX11_243 (by decide) rfl rfl (Nat.le_of_ble_eq_true rfl) (c_X11_feastOf _ Γ (d + 2) _ hR1 _ _ hyf ⟨by decide, by decide⟩) (fun r_222 S_222 hp_222 => ?_)
                              obtain ⟨hv222, hR222, hf222⟩ := hp_222
                              have hq222 := frQ_t hq1 (frQ_P hf222)
                              rw [hv222, eA1]
                              have eA222 := av_frQ hq222
                              refine G_i2l hk dX11_digest_225 (feastOf_bd hA hyf (by decide)) ?_
                              refine G_ladd hk dX11_digest_226 ?_
                              refine G_lstore_n hk dX11_digest_227 (by decide) rfl ?_
                              refine G_iconst hk dX11_digest_228 ?_
                              refine G_istore hk dX11_digest_229 (by decide) rfl ?_
                              have lpS := loop_up (P := fun j => ∀ S1 : Sx, (RdM S1 ∧ frQ S S1) → GW κ Γ 231 [some (rf Γ 44), some (vL (dgS (av S) (yf k) (mz (dgD (av S) (yf k) (dgB (av S) (yf k) (dg3 (av S) (dg2 (av S) (dg1 (av S) (mz (dg0 (av S) (S 44 4) 8) (a_fault (av S))) (aN (av S))) (anp (av S))) k) 3) 4) (a_feastOf (av S) (yf k) 2)) j)), none, some (vI (k : Int)), some (vI (yf k)), some (vI (j : Int))] [] (wl Γ S1)) 3 ?_ ?_ 0 (Nat.zero_le _)
                              · exact lpS _ ⟨hR222, hq222⟩
                              · intro S1 ⟨hR1, hq1⟩
                                have eA1 := av_frQ hq1
                                refine G_iload hk dX11_digest_231 rfl ?_
                                refine G_iconst hk dX11_digest_233 ?_
                                refine G_icmp_ge (tgt := 259) hk dX11_digest_234 (by decide) ⟨by omega, by omega⟩ ⟨by omega, by omega⟩ (fun h_234 => ?_) (fun h_234 => ?_)
                                · refine G_iinc hk dX11_digest_259 rfl (by decide) rfl ?_
                                  refine G_goto (tgt := 125) hk dX11_digest_262 (by decide) ?_
                                  exact ih _ _ _ ⟨hR1, hq1⟩
                                · exact absurd h_234 (by omega)--stop
                              · intro j hj9 ih2 S1 ⟨hR1, hq1⟩
                                have eA1 := av_frQ hq1
                                refine G_iload hk dX11_digest_231 rfl ?_
                                refine G_iconst hk dX11_digest_233 ?_
                                refine G_icmp_ge (tgt := 259) hk dX11_digest_234 (by decide) ⟨by omega, by omega⟩ ⟨by omega, by omega⟩ (fun h_234 => ?_) (fun h_234 => ?_)
                                · exact absurd h_234 (by omega)--stop
                                · refine G_ldc2 (z := (31)) hk dX11_digest_237 kcX11_312 (by decide) ?_
                                  refine G_lload_n hk dX11_digest_240 rfl ?_
                                  refine G_lmul hk dX11_digest_241 ?_
                                  refine G_rload_n hk dX11_digest_242 rfl ?_
                                  refine G_iload hk dX11_digest_243 rfl ?_
                                  refine G_iload hk dX11_digest_245 rfl ?_
                                  refine G_cV2I hk dX11_digest_247 mvX11_swapOf mlX11_264 (by decide) rfl rfl (Nat.le_of_ble_eq_true rfl) (c_X11_swapOf _ Γ (d + 2) _ hR1 _ _ hyf ⟨by omega, by omega⟩) (fun r_247 S_247 hp_247 => ?_)
                                  obtain ⟨hv247, hR247, hf247⟩ := hp_247
                                  have hq247 := frQ_t hq1 (frQ_P hf247)
                                  rw [hv247, eA1]
                                  have eA247 := av_frQ hq247
                                  refine G_i2l hk dX11_digest_250 (swapOf_bd hA (yf k) (j : Int)) ?_
                                  refine G_ladd hk dX11_digest_251 ?_
                                  refine G_lstore_n hk dX11_digest_252 (by decide) rfl ?_
                                  refine G_iinc hk dX11_digest_253 rfl (by decide) rfl ?_
                                  refine G_goto (tgt := 231) hk dX11_digest_256 (by decide) ?_
                                  exact ih2 _ ⟨hR247, hq247⟩
                            · exact absurd h_188 (by omega)--stop
                          · intro j hj9 ih2 S1 ⟨hR1, hq1⟩
                            have eA1 := av_frQ hq1
                            refine G_iload hk dX11_digest_185 rfl ?_
                            refine G_iconst hk dX11_digest_187 ?_
                            refine G_icmp_ge (tgt := 213) hk dX11_digest_188 (by decide) ⟨by omega, by omega⟩ ⟨by omega, by omega⟩ (fun h_188 => ?_) (fun h_188 => ?_)
                            · exact absurd h_188 (by omega)--stop
                            · refine G_ldc2 (z := (31)) hk dX11_digest_191 kcX11_312 (by decide) ?_
                              refine G_lload_n hk dX11_digest_194 rfl ?_
                              refine G_lmul hk dX11_digest_195 ?_
                              refine G_rload_n hk dX11_digest_196 rfl ?_
                              refine G_iload hk dX11_digest_197 rfl ?_
                              refine G_iload hk dX11_digest_199 rfl ?_
                              refine G_cV2I hk dX11_digest_201 mvX11_drawerOf mlX11_210 (by decide) rfl rfl (Nat.le_of_ble_eq_true rfl) (c_X11_drawerOf _ Γ (d + 2) _ hR1 _ _ hyf ⟨by omega, by omega⟩) (fun r_201 S_201 hp_201 => ?_)
                              obtain ⟨hv201, hR201, hf201⟩ := hp_201
                              have hq201 := frQ_t hq1 (frQ_P hf201)
                              rw [hv201, eA1]
                              have eA201 := av_frQ hq201
                              refine G_i2l hk dX11_digest_204 (drawerOf_bd hA (yf k) (j : Int)) ?_
                              refine G_ladd hk dX11_digest_205 ?_
                              refine G_lstore_n hk dX11_digest_206 (by decide) rfl ?_
                              refine G_iinc hk dX11_digest_207 rfl (by decide) rfl ?_
                              refine G_goto (tgt := 185) hk dX11_digest_210 (by decide) ?_
                              exact ih2 _ ⟨hR201, hq201⟩
                        · exact absurd h_157 (by omega)--stop
                      · intro j hj9 ih2 S1 ⟨hR1, hq1⟩
                        have eA1 := av_frQ hq1
                        refine G_iload hk dX11_digest_154 rfl ?_
                        refine G_iconst hk dX11_digest_156 ?_
                        refine G_icmp_ge (tgt := 182) hk dX11_digest_157 (by decide) ⟨by omega, by omega⟩ ⟨by omega, by omega⟩ (fun h_157 => ?_) (fun h_157 => ?_)
                        · exact absurd h_157 (by omega)--stop
                        · refine G_ldc2 (z := (31)) hk dX11_digest_160 kcX11_312 (by decide) ?_
                          refine G_lload_n hk dX11_digest_163 rfl ?_
                          refine G_lmul hk dX11_digest_164 ?_
                          refine G_rload_n hk dX11_digest_165 rfl ?_
                          refine G_iload hk dX11_digest_166 rfl ?_
                          refine G_iload hk dX11_digest_168 rfl ?_
                          refine G_cV2I hk dX11_digest_170 mvX11_behindOf mlX11_207 (by decide) rfl rfl (Nat.le_of_ble_eq_true rfl) (c_X11_behindOf _ Γ (d + 2) _ hR1 _ _ hyf ⟨by omega, by omega⟩) (fun r_170 S_170 hp_170 => ?_)
                          obtain ⟨hv170, hR170, hf170⟩ := hp_170
                          have hq170 := frQ_t hq1 (frQ_P hf170)
                          rw [hv170, eA1]
                          have eA170 := av_frQ hq170
                          refine G_i2l hk dX11_digest_173 (behindOf_bd hA hyf (j : Int)) ?_
                          refine G_ladd hk dX11_digest_174 ?_
                          refine G_lstore_n hk dX11_digest_175 (by decide) rfl ?_
                          refine G_iinc hk dX11_digest_176 rfl (by decide) rfl ?_
                          refine G_goto (tgt := 154) hk dX11_digest_179 (by decide) ?_
                          exact ih2 _ ⟨hR170, hq170⟩
                    · refine G_iconst hk dX11_digest_143 ?_
                      refine G_goto (tgt := 149) hk dX11_digest_144 (by decide) ?_
                      rw [show (5 : Int) = yf k by unfold yf; rw [if_neg (by omega), if_pos (by omega)]]
                      refine G_istore hk dX11_digest_149 (by decide) rfl ?_
                      refine G_iconst hk dX11_digest_151 ?_
                      refine G_istore hk dX11_digest_152 (by decide) rfl ?_
                      have lpB := loop_up (P := fun j => ∀ S1 : Sx, (RdM S1 ∧ frQ S S1) → GW κ Γ 154 [some (rf Γ 44), some (vL (dgB (av S) (yf k) (dg3 (av S) (dg2 (av S) (dg1 (av S) (mz (dg0 (av S) (S 44 4) 8) (a_fault (av S))) (aN (av S))) (anp (av S))) k) j)), none, some (vI (k : Int)), some (vI (yf k)), some (vI (j : Int))] [] (wl Γ S1)) 3 ?_ ?_ 0 (Nat.zero_le _)
                      · exact lpB _ ⟨hR1, hq1⟩
                      · intro S1 ⟨hR1, hq1⟩
                        have eA1 := av_frQ hq1
                        refine G_iload hk dX11_digest_154 rfl ?_
                        refine G_iconst hk dX11_digest_156 ?_
                        refine G_icmp_ge (tgt := 182) hk dX11_digest_157 (by decide) ⟨by omega, by omega⟩ ⟨by omega, by omega⟩ (fun h_157 => ?_) (fun h_157 => ?_)
                        · refine G_iconst hk dX11_digest_182 ?_
                          refine G_istore hk dX11_digest_183 (by decide) rfl ?_
                          have lpD := loop_up (P := fun j => ∀ S1 : Sx, (RdM S1 ∧ frQ S S1) → GW κ Γ 185 [some (rf Γ 44), some (vL (dgD (av S) (yf k) (dgB (av S) (yf k) (dg3 (av S) (dg2 (av S) (dg1 (av S) (mz (dg0 (av S) (S 44 4) 8) (a_fault (av S))) (aN (av S))) (anp (av S))) k) 3) j)), none, some (vI (k : Int)), some (vI (yf k)), some (vI (j : Int))] [] (wl Γ S1)) 4 ?_ ?_ 0 (Nat.zero_le _)
                          · exact lpD _ ⟨hR1, hq1⟩
                          · intro S1 ⟨hR1, hq1⟩
                            have eA1 := av_frQ hq1
                            refine G_iload hk dX11_digest_185 rfl ?_
                            refine G_iconst hk dX11_digest_187 ?_
                            refine G_icmp_ge (tgt := 213) hk dX11_digest_188 (by decide) ⟨by omega, by omega⟩ ⟨by omega, by omega⟩ (fun h_188 => ?_) (fun h_188 => ?_)
                            · refine G_ldc2 (z := (31)) hk dX11_digest_213 kcX11_312 (by decide) ?_
                              refine G_lload_n hk dX11_digest_216 rfl ?_
                              refine G_lmul hk dX11_digest_217 ?_
                              refine G_rload_n hk dX11_digest_218 rfl ?_
                              refine G_iload hk dX11_digest_219 rfl ?_
                              refine G_iconst hk dX11_digest_221 ?_
                              refine G_cV2I hk dX11_digest_222 mvX11_feastOf mlX11_243 (by decide) rfl rfl (Nat.le_of_ble_eq_true rfl) (c_X11_feastOf _ Γ (d + 2) _ hR1 _ _ hyf ⟨by decide, by decide⟩) (fun r_222 S_222 hp_222 => ?_)
                              obtain ⟨hv222, hR222, hf222⟩ := hp_222
                              have hq222 := frQ_t hq1 (frQ_P hf222)
                              rw [hv222, eA1]
                              have eA222 := av_frQ hq222
                              refine G_i2l hk dX11_digest_225 (feastOf_bd hA hyf (by decide)) ?_
                              refine G_ladd hk dX11_digest_226 ?_
                              refine G_lstore_n hk dX11_digest_227 (by decide) rfl ?_
                              refine G_iconst hk dX11_digest_228 ?_
                              refine G_istore hk dX11_digest_229 (by decide) rfl ?_
                              have lpS := loop_up (P := fun j => ∀ S1 : Sx, (RdM S1 ∧ frQ S S1) → GW κ Γ 231 [some (rf Γ 44), some (vL (dgS (av S) (yf k) (mz (dgD (av S) (yf k) (dgB (av S) (yf k) (dg3 (av S) (dg2 (av S) (dg1 (av S) (mz (dg0 (av S) (S 44 4) 8) (a_fault (av S))) (aN (av S))) (anp (av S))) k) 3) 4) (a_feastOf (av S) (yf k) 2)) j)), none, some (vI (k : Int)), some (vI (yf k)), some (vI (j : Int))] [] (wl Γ S1)) 3 ?_ ?_ 0 (Nat.zero_le _)
                              · exact lpS _ ⟨hR222, hq222⟩
                              · intro S1 ⟨hR1, hq1⟩
                                have eA1 := av_frQ hq1
                                refine G_iload hk dX11_digest_231 rfl ?_
                                refine G_iconst hk dX11_digest_233 ?_
                                refine G_icmp_ge (tgt := 259) hk dX11_digest_234 (by decide) ⟨by omega, by omega⟩ ⟨by omega, by omega⟩ (fun h_234 => ?_) (fun h_234 => ?_)
                                · refine G_iinc hk dX11_digest_259 rfl (by decide) rfl ?_
                                  refine G_goto (tgt := 125) hk dX11_digest_262 (by decide) ?_
                                  exact ih _ _ _ ⟨hR1, hq1⟩
                                · exact absurd h_234 (by omega)--stop
                              · intro j hj9 ih2 S1 ⟨hR1, hq1⟩
                                have eA1 := av_frQ hq1
                                refine G_iload hk dX11_digest_231 rfl ?_
                                refine G_iconst hk dX11_digest_233 ?_
                                refine G_icmp_ge (tgt := 259) hk dX11_digest_234 (by decide) ⟨by omega, by omega⟩ ⟨by omega, by omega⟩ (fun h_234 => ?_) (fun h_234 => ?_)
                                · exact absurd h_234 (by omega)--stop
                                · refine G_ldc2 (z := (31)) hk dX11_digest_237 kcX11_312 (by decide) ?_
                                  refine G_lload_n hk dX11_digest_240 rfl ?_
                                  refine G_lmul hk dX11_digest_241 ?_
                                  refine G_rload_n hk dX11_digest_242 rfl ?_
                                  refine G_iload hk dX11_digest_243 rfl ?_
                                  refine G_iload hk dX11_digest_245 rfl ?_
                                  refine G_cV2I hk dX11_digest_247 mvX11_swapOf mlX11_264 (by decide) rfl rfl (Nat.le_of_ble_eq_true rfl) (c_X11_swapOf _ Γ (d + 2) _ hR1 _ _ hyf ⟨by omega, by omega⟩) (fun r_247 S_247 hp_247 => ?_)
                                  obtain ⟨hv247, hR247, hf247⟩ := hp_247
                                  have hq247 := frQ_t hq1 (frQ_P hf247)
                                  rw [hv247, eA1]
                                  have eA247 := av_frQ hq247
                                  refine G_i2l hk dX11_digest_250 (swapOf_bd hA (yf k) (j : Int)) ?_
                                  refine G_ladd hk dX11_digest_251 ?_
                                  refine G_lstore_n hk dX11_digest_252 (by decide) rfl ?_
                                  refine G_iinc hk dX11_digest_253 rfl (by decide) rfl ?_
                                  refine G_goto (tgt := 231) hk dX11_digest_256 (by decide) ?_
                                  exact ih2 _ ⟨hR247, hq247⟩
                            · exact absurd h_188 (by omega)--stop
                          · intro j hj9 ih2 S1 ⟨hR1, hq1⟩
                            have eA1 := av_frQ hq1
                            refine G_iload hk dX11_digest_185 rfl ?_
                            refine G_iconst hk dX11_digest_187 ?_
                            refine G_icmp_ge (tgt := 213) hk dX11_digest_188 (by decide) ⟨by omega, by omega⟩ ⟨by omega, by omega⟩ (fun h_188 => ?_) (fun h_188 => ?_)
                            · exact absurd h_188 (by omega)--stop
                            · refine G_ldc2 (z := (31)) hk dX11_digest_191 kcX11_312 (by decide) ?_
                              refine G_lload_n hk dX11_digest_194 rfl ?_
                              refine G_lmul hk dX11_digest_195 ?_
                              refine G_rload_n hk dX11_digest_196 rfl ?_
                              refine G_iload hk dX11_digest_197 rfl ?_
                              refine G_iload hk dX11_digest_199 rfl ?_
                              refine G_cV2I hk dX11_digest_201 mvX11_drawerOf mlX11_210 (by decide) rfl rfl (Nat.le_of_ble_eq_true rfl) (c_X11_drawerOf _ Γ (d + 2) _ hR1 _ _ hyf ⟨by omega, by omega⟩) (fun r_201 S_201 hp_201 => ?_)
                              obtain ⟨hv201, hR201, hf201⟩ := hp_201
                              have hq201 := frQ_t hq1 (frQ_P hf201)
                              rw [hv201, eA1]
                              have eA201 := av_frQ hq201
                              refine G_i2l hk dX11_digest_204 (drawerOf_bd hA (yf k) (j : Int)) ?_
                              refine G_ladd hk dX11_digest_205 ?_
                              refine G_lstore_n hk dX11_digest_206 (by decide) rfl ?_
                              refine G_iinc hk dX11_digest_207 rfl (by decide) rfl ?_
                              refine G_goto (tgt := 185) hk dX11_digest_210 (by decide) ?_
                              exact ih2 _ ⟨hR201, hq201⟩
                        · exact absurd h_157 (by omega)--stop
                      · intro j hj9 ih2 S1 ⟨hR1, hq1⟩
                        have eA1 := av_frQ hq1
                        refine G_iload hk dX11_digest_154 rfl ?_
                        refine G_iconst hk dX11_digest_156 ?_
                        refine G_icmp_ge (tgt := 182) hk dX11_digest_157 (by decide) ⟨by omega, by omega⟩ ⟨by omega, by omega⟩ (fun h_157 => ?_) (fun h_157 => ?_)
                        · exact absurd h_157 (by omega)--stop
                        · refine G_ldc2 (z := (31)) hk dX11_digest_160 kcX11_312 (by decide) ?_
                          refine G_lload_n hk dX11_digest_163 rfl ?_
                          refine G_lmul hk dX11_digest_164 ?_
                          refine G_rload_n hk dX11_digest_165 rfl ?_
                          refine G_iload hk dX11_digest_166 rfl ?_
                          refine G_iload hk dX11_digest_168 rfl ?_
                          refine G_cV2I hk dX11_digest_170 mvX11_behindOf mlX11_207 (by decide) rfl rfl (Nat.le_of_ble_eq_true rfl) (c_X11_behindOf _ Γ (d + 2) _ hR1 _ _ hyf ⟨by omega, by omega⟩) (fun r_170 S_170 hp_170 => ?_)
                          obtain ⟨hv170, hR170, hf170⟩ := hp_170
                          have hq170 := frQ_t hq1 (frQ_P hf170)
                          rw [hv170, eA1]
                          have eA170 := av_frQ hq170
                          refine G_i2l hk dX11_digest_173 (behindOf_bd hA hyf (j : Int)) ?_
                          refine G_ladd hk dX11_digest_174 ?_
                          refine G_lstore_n hk dX11_digest_175 (by decide) rfl ?_
                          refine G_iinc hk dX11_digest_176 rfl (by decide) rfl ?_
                          refine G_goto (tgt := 154) hk dX11_digest_179 (by decide) ?_
                          exact ih2 _ ⟨hR170, hq170⟩
                  · refine G_iconst hk dX11_digest_134 ?_
                    refine G_goto (tgt := 149) hk dX11_digest_135 (by decide) ?_
                    rw [show (0 : Int) = yf k by unfold yf; rw [if_pos (by omega)]]
                    refine G_istore hk dX11_digest_149 (by decide) rfl ?_
                    refine G_iconst hk dX11_digest_151 ?_
                    refine G_istore hk dX11_digest_152 (by decide) rfl ?_
                    have lpB := loop_up (P := fun j => ∀ S1 : Sx, (RdM S1 ∧ frQ S S1) → GW κ Γ 154 [some (rf Γ 44), some (vL (dgB (av S) (yf k) (dg3 (av S) (dg2 (av S) (dg1 (av S) (mz (dg0 (av S) (S 44 4) 8) (a_fault (av S))) (aN (av S))) (anp (av S))) k) j)), none, some (vI (k : Int)), some (vI (yf k)), some (vI (j : Int))] [] (wl Γ S1)) 3 ?_ ?_ 0 (Nat.zero_le _)
                    · exact lpB _ ⟨hR1, hq1⟩
                    · intro S1 ⟨hR1, hq1⟩
                      have eA1 := av_frQ hq1
                      refine G_iload hk dX11_digest_154 rfl ?_
                      refine G_iconst hk dX11_digest_156 ?_
                      refine G_icmp_ge (tgt := 182) hk dX11_digest_157 (by decide) ⟨by omega, by omega⟩ ⟨by omega, by omega⟩ (fun h_157 => ?_) (fun h_157 => ?_)
                      · refine G_iconst hk dX11_digest_182 ?_
                        refine G_istore hk dX11_digest_183 (by decide) rfl ?_
                        have lpD := loop_up (P := fun j => ∀ S1 : Sx, (RdM S1 ∧ frQ S S1) → GW κ Γ 185 [some (rf Γ 44), some (vL (dgD (av S) (yf k) (dgB (av S) (yf k) (dg3 (av S) (dg2 (av S) (dg1 (av S) (mz (dg0 (av S) (S 44 4) 8) (a_fault (av S))) (aN (av S))) (anp (av S))) k) 3) j)), none, some (vI (k : Int)), some (vI (yf k)), some (vI (j : Int))] [] (wl Γ S1)) 4 ?_ ?_ 0 (Nat.zero_le _)
                        · exact lpD _ ⟨hR1, hq1⟩
                        · intro S1 ⟨hR1, hq1⟩
                          have eA1 := av_frQ hq1
                          refine G_iload hk dX11_digest_185 rfl ?_
                          refine G_iconst hk dX11_digest_187 ?_
                          refine G_icmp_ge (tgt := 213) hk dX11_digest_188 (by decide) ⟨by omega, by omega⟩ ⟨by omega, by omega⟩ (fun h_188 => ?_) (fun h_188 => ?_)
                          · refine G_ldc2 (z := (31)) hk dX11_digest_213 kcX11_312 (by decide) ?_
                            refine G_lload_n hk dX11_digest_216 rfl ?_
                            refine G_lmul hk dX11_digest_217 ?_
                            refine G_rload_n hk dX11_digest_218 rfl ?_
                            refine G_iload hk dX11_digest_219 rfl ?_
                            refine G_iconst hk dX11_digest_221 ?_
                            refine G_cV2I hk dX11_digest_222 mvX11_feastOf mlX11_243 (by decide) rfl rfl (Nat.le_of_ble_eq_true rfl) (c_X11_feastOf _ Γ (d + 2) _ hR1 _ _ hyf ⟨by decide, by decide⟩) (fun r_222 S_222 hp_222 => ?_)
                            obtain ⟨hv222, hR222, hf222⟩ := hp_222
                            have hq222 := frQ_t hq1 (frQ_P hf222)
                            rw [hv222, eA1]
                            have eA222 := av_frQ hq222
                            refine G_i2l hk dX11_digest_225 (feastOf_bd hA hyf (by decide)) ?_
                            refine G_ladd hk dX11_digest_226 ?_
                            refine G_lstore_n hk dX11_digest_227 (by decide) rfl ?_
                            refine G_iconst hk dX11_digest_228 ?_
                            refine G_istore hk dX11_digest_229 (by decide) rfl ?_
                            have lpS := loop_up (P := fun j => ∀ S1 : Sx, (RdM S1 ∧ frQ S S1) → GW κ Γ 231 [some (rf Γ 44), some (vL (dgS (av S) (yf k) (mz (dgD (av S) (yf k) (dgB (av S) (yf k) (dg3 (av S) (dg2 (av S) (dg1 (av S) (mz (dg0 (av S) (S 44 4) 8) (a_fault (av S))) (aN (av S))) (anp (av S))) k) 3) 4) (a_feastOf (av S) (yf k) 2)) j)), none, some (vI (k : Int)), some (vI (yf k)), some (vI (j : Int))] [] (wl Γ S1)) 3 ?_ ?_ 0 (Nat.zero_le _)
                            · exact lpS _ ⟨hR222, hq222⟩
                            · intro S1 ⟨hR1, hq1⟩
                              have eA1 := av_frQ hq1
                              refine G_iload hk dX11_digest_231 rfl ?_
                              refine G_iconst hk dX11_digest_233 ?_
                              refine G_icmp_ge (tgt := 259) hk dX11_digest_234 (by decide) ⟨by omega, by omega⟩ ⟨by omega, by omega⟩ (fun h_234 => ?_) (fun h_234 => ?_)
                              · refine G_iinc hk dX11_digest_259 rfl (by decide) rfl ?_
                                refine G_goto (tgt := 125) hk dX11_digest_262 (by decide) ?_
                                exact ih _ _ _ ⟨hR1, hq1⟩
                              · exact absurd h_234 (by omega)--stop
                            · intro j hj9 ih2 S1 ⟨hR1, hq1⟩
                              have eA1 := av_frQ hq1
                              refine G_iload hk dX11_digest_231 rfl ?_
                              refine G_iconst hk dX11_digest_233 ?_
                              refine G_icmp_ge (tgt := 259) hk dX11_digest_234 (by decide) ⟨by omega, by omega⟩ ⟨by omega, by omega⟩ (fun h_234 => ?_) (fun h_234 => ?_)
                              · exact absurd h_234 (by omega)--stop
                              · refine G_ldc2 (z := (31)) hk dX11_digest_237 kcX11_312 (by decide) ?_
                                refine G_lload_n hk dX11_digest_240 rfl ?_
                                refine G_lmul hk dX11_digest_241 ?_
                                refine G_rload_n hk dX11_digest_242 rfl ?_
                                refine G_iload hk dX11_digest_243 rfl ?_
                                refine G_iload hk dX11_digest_245 rfl ?_
                                refine G_cV2I hk dX11_digest_247 mvX11_swapOf mlX11_264 (by decide) rfl rfl (Nat.le_of_ble_eq_true rfl) (c_X11_swapOf _ Γ (d + 2) _ hR1 _ _ hyf ⟨by omega, by omega⟩) (fun r_247 S_247 hp_247 => ?_)
                                obtain ⟨hv247, hR247, hf247⟩ := hp_247
                                have hq247 := frQ_t hq1 (frQ_P hf247)
                                rw [hv247, eA1]
                                have eA247 := av_frQ hq247
                                refine G_i2l hk dX11_digest_250 (swapOf_bd hA (yf k) (j : Int)) ?_
                                refine G_ladd hk dX11_digest_251 ?_
                                refine G_lstore_n hk dX11_digest_252 (by decide) rfl ?_
                                refine G_iinc hk dX11_digest_253 rfl (by decide) rfl ?_
                                refine G_goto (tgt := 231) hk dX11_digest_256 (by decide) ?_
                                exact ih2 _ ⟨hR247, hq247⟩
                          · exact absurd h_188 (by omega)--stop
                        · intro j hj9 ih2 S1 ⟨hR1, hq1⟩
                          have eA1 := av_frQ hq1
                          refine G_iload hk dX11_digest_185 rfl ?_
                          refine G_iconst hk dX11_digest_187 ?_
                          refine G_icmp_ge (tgt := 213) hk dX11_digest_188 (by decide) ⟨by omega, by omega⟩ ⟨by omega, by omega⟩ (fun h_188 => ?_) (fun h_188 => ?_)
                          · exact absurd h_188 (by omega)--stop
                          · refine G_ldc2 (z := (31)) hk dX11_digest_191 kcX11_312 (by decide) ?_
                            refine G_lload_n hk dX11_digest_194 rfl ?_
                            refine G_lmul hk dX11_digest_195 ?_
                            refine G_rload_n hk dX11_digest_196 rfl ?_
                            refine G_iload hk dX11_digest_197 rfl ?_
                            refine G_iload hk dX11_digest_199 rfl ?_
                            refine G_cV2I hk dX11_digest_201 mvX11_drawerOf mlX11_210 (by decide) rfl rfl (Nat.le_of_ble_eq_true rfl) (c_X11_drawerOf _ Γ (d + 2) _ hR1 _ _ hyf ⟨by omega, by omega⟩) (fun r_201 S_201 hp_201 => ?_)
                            obtain ⟨hv201, hR201, hf201⟩ := hp_201
                            have hq201 := frQ_t hq1 (frQ_P hf201)
                            rw [hv201, eA1]
                            have eA201 := av_frQ hq201
                            refine G_i2l hk dX11_digest_204 (drawerOf_bd hA (yf k) (j : Int)) ?_
                            refine G_ladd hk dX11_digest_205 ?_
                            refine G_lstore_n hk dX11_digest_206 (by decide) rfl ?_
                            refine G_iinc hk dX11_digest_207 rfl (by decide) rfl ?_
                            refine G_goto (tgt := 185) hk dX11_digest_210 (by decide) ?_
                            exact ih2 _ ⟨hR201, hq201⟩
                      · exact absurd h_157 (by omega)--stop
                    · intro j hj9 ih2 S1 ⟨hR1, hq1⟩
                      have eA1 := av_frQ hq1
                      refine G_iload hk dX11_digest_154 rfl ?_
                      refine G_iconst hk dX11_digest_156 ?_
                      refine G_icmp_ge (tgt := 182) hk dX11_digest_157 (by decide) ⟨by omega, by omega⟩ ⟨by omega, by omega⟩ (fun h_157 => ?_) (fun h_157 => ?_)
                      · exact absurd h_157 (by omega)--stop
                      · refine G_ldc2 (z := (31)) hk dX11_digest_160 kcX11_312 (by decide) ?_
                        refine G_lload_n hk dX11_digest_163 rfl ?_
                        refine G_lmul hk dX11_digest_164 ?_
                        refine G_rload_n hk dX11_digest_165 rfl ?_
                        refine G_iload hk dX11_digest_166 rfl ?_
                        refine G_iload hk dX11_digest_168 rfl ?_
                        refine G_cV2I hk dX11_digest_170 mvX11_behindOf mlX11_207 (by decide) rfl rfl (Nat.le_of_ble_eq_true rfl) (c_X11_behindOf _ Γ (d + 2) _ hR1 _ _ hyf ⟨by omega, by omega⟩) (fun r_170 S_170 hp_170 => ?_)
                        obtain ⟨hv170, hR170, hf170⟩ := hp_170
                        have hq170 := frQ_t hq1 (frQ_P hf170)
                        rw [hv170, eA1]
                        have eA170 := av_frQ hq170
                        refine G_i2l hk dX11_digest_173 (behindOf_bd hA hyf (j : Int)) ?_
                        refine G_ladd hk dX11_digest_174 ?_
                        refine G_lstore_n hk dX11_digest_175 (by decide) rfl ?_
                        refine G_iinc hk dX11_digest_176 rfl (by decide) rfl ?_
                        refine G_goto (tgt := 154) hk dX11_digest_179 (by decide) ?_
                        exact ih2 _ ⟨hR170, hq170⟩
            · exact absurd h_73 (by omega)--stop
          · intro k hk9 ih S1 ⟨hR1, hq1⟩
            have eA1 := av_frQ hq1
            have e10 : S1 44 10 = (anp (av S) : Int) := by rw [hq1.2.1 10 (by omega)]; show S 44 10 = ((S 44 10).toNat : Int); omega
            refine G_iload_n hk dX11_digest_68 rfl ?_
            refine G_rload_n hk dX11_digest_69 rfl ?_
            refine G_getI hk dX11_digest_70 flX11_139 (by decide) rfl rfl ?_
            refine G_icmp_ge (tgt := 123) hk dX11_digest_73 (by decide) ⟨by omega, by omega⟩ ⟨by omega, by omega⟩ (fun h_73 => ?_) (fun h_73 => ?_)
            · exact absurd h_73 (by omega)--stop
            · refine G_ldc2 (z := (31)) hk dX11_digest_76 kcX11_312 (by decide) ?_
              refine G_lload_n hk dX11_digest_79 rfl ?_
              refine G_lmul hk dX11_digest_80 ?_
              refine G_rload_n hk dX11_digest_81 rfl ?_
              refine G_iload_n hk dX11_digest_82 rfl ?_
              refine G_iconst hk dX11_digest_83 ?_
              refine G_cV2I hk dX11_digest_84 mvX11_tookOf mlX11_213 (by decide) rfl rfl (Nat.le_of_ble_eq_true rfl) (c_X11_tookOf _ Γ (d + 2) _ hR1 _ _ (by rw [eA1]; exact ⟨by omega, by omega⟩) ⟨by decide, by decide⟩) (fun r_84 S_84 hp_84 => ?_)
              obtain ⟨hv84, hR84, hf84⟩ := hp_84
              have hq84 := frQ_t hq1 (frQ_P hf84)
              rw [hv84, eA1]
              have eA84 := av_frQ hq84
              refine G_i2l hk dX11_digest_87 (tookOf_bd hA ⟨by omega, by omega⟩ ⟨by decide, by decide⟩) ?_
              refine G_ladd hk dX11_digest_88 ?_
              refine G_lstore_n hk dX11_digest_89 (by decide) rfl ?_
              refine G_ldc2 (z := (31)) hk dX11_digest_90 kcX11_312 (by decide) ?_
              refine G_lload_n hk dX11_digest_93 rfl ?_
              refine G_lmul hk dX11_digest_94 ?_
              refine G_rload_n hk dX11_digest_95 rfl ?_
              refine G_iload_n hk dX11_digest_96 rfl ?_
              refine G_iconst hk dX11_digest_97 ?_
              refine G_cV2I hk dX11_digest_98 mvX11_tookOf mlX11_213 (by decide) rfl rfl (Nat.le_of_ble_eq_true rfl) (c_X11_tookOf _ Γ (d + 2) _ hR84 _ _ (by rw [eA84]; exact ⟨by omega, by omega⟩) ⟨by decide, by decide⟩) (fun r_98 S_98 hp_98 => ?_)
              obtain ⟨hv98, hR98, hf98⟩ := hp_98
              have hq98 := frQ_t hq84 (frQ_P hf98)
              rw [hv98, eA84]
              have eA98 := av_frQ hq98
              refine G_i2l hk dX11_digest_101 (tookOf_bd hA ⟨by omega, by omega⟩ ⟨by decide, by decide⟩) ?_
              refine G_ladd hk dX11_digest_102 ?_
              refine G_lstore_n hk dX11_digest_103 (by decide) rfl ?_
              refine G_ldc2 (z := (31)) hk dX11_digest_104 kcX11_312 (by decide) ?_
              refine G_lload_n hk dX11_digest_107 rfl ?_
              refine G_lmul hk dX11_digest_108 ?_
              refine G_rload_n hk dX11_digest_109 rfl ?_
              refine G_iload_n hk dX11_digest_110 rfl ?_
              refine G_cV1I hk dX11_digest_111 mvX11_sizesOf mlX11_279 (by decide) rfl rfl (Nat.le_of_ble_eq_true rfl) (c_X11_sizesOf _ Γ (d + 2) _ hR98 _ ⟨by omega, by omega⟩) (fun r_111 S_111 hp_111 => ?_)
              obtain ⟨hv111, hR111, hf111⟩ := hp_111
              have hq111 := frQ_t hq98 (frQ_P hf111)
              rw [hv111, eA98]
              have eA111 := av_frQ hq111
              refine G_i2l hk dX11_digest_114 (sizesOf_bd (av S) (k : Int)) ?_
              refine G_ladd hk dX11_digest_115 ?_
              refine G_lstore_n hk dX11_digest_116 (by decide) rfl ?_
              refine G_iinc hk dX11_digest_117 rfl (by decide) rfl ?_
              refine G_goto (tgt := 68) hk dX11_digest_120 (by decide) ?_
              exact ih _ ⟨hR111, hq111⟩
        · exact absurd h_50 (by omega)--stop
      · intro k hk9 ih S1 ⟨hR1, hq1⟩
        have eA1 := av_frQ hq1
        have e8 : S1 44 8 = (aN (av S) : Int) := by rw [hR1.2.1, av_frQ hq1]
        refine G_iload_n hk dX11_digest_45 rfl ?_
        refine G_rload_n hk dX11_digest_46 rfl ?_
        refine G_getI hk dX11_digest_47 flX11_97 (by decide) rfl rfl ?_
        refine G_icmp_ge (tgt := 66) hk dX11_digest_50 (by decide) ⟨by omega, by omega⟩ ⟨by omega, by omega⟩ (fun h_50 => ?_) (fun h_50 => ?_)
        · exact absurd h_50 (by omega)--stop
        · refine G_rload_n hk dX11_digest_53 rfl ?_
          refine G_lload_n hk dX11_digest_54 rfl ?_
          refine G_iload_n hk dX11_digest_55 rfl ?_
          refine G_cV2J hk dX11_digest_56 mvX11_tellsPerson mlX11_321 (by decide) rfl rfl (Nat.le_of_ble_eq_true rfl) (c_X11_tellsPerson _ Γ (d + 0) _ hR1 _ _ (by rw [eA1]; exact ⟨by omega, by omega⟩)) (fun r_56 S_56 hp_56 => ?_)
          obtain ⟨hv56, hR56, hf56⟩ := hp_56
          rw [hv56, eA1]
          refine G_lstore_n hk dX11_digest_59 (by decide) rfl ?_
          refine G_iinc hk dX11_digest_60 rfl (by decide) rfl ?_
          refine G_goto (tgt := 45) hk dX11_digest_63 (by decide) ?_
          exact ih _ ⟨hR56, frQ_t hq1 hf56⟩
    · exact absurd h_9 (by omega)--stop
  · intro k hk9 ih S1 hq1
    have eA1 := av_frQ hq1
    have e4 : S1 44 4 = S 44 4 := hq1.2.1 4 (by omega)
    refine G_iload_n hk dX11_digest_6 rfl ?_
    refine G_bipush hk dX11_digest_7 (by decide) ?_
    refine G_icmp_ge (tgt := 31) hk dX11_digest_9 (by decide) ⟨by omega, by omega⟩ ⟨by omega, by omega⟩ (fun h_9 => ?_) (fun h_9 => ?_)
    · exact absurd h_9 (by omega)--stop
    · refine G_ldc2 (z := (31)) hk dX11_digest_12 kcX11_312 (by decide) ?_
      refine G_lload_n hk dX11_digest_15 rfl ?_
      refine G_lmul hk dX11_digest_16 ?_
      refine G_rload_n hk dX11_digest_17 rfl ?_
      refine G_iload_n hk dX11_digest_18 rfl ?_
      refine G_cV1I hk dX11_digest_19 mvX11_count mlX11_318 (by decide) rfl rfl (Nat.le_of_ble_eq_true rfl) (c_X11_count _ Γ (d + 6) _ (InvM_frQ hI hq1) _ ⟨by omega, by omega⟩) (fun r_19 S_19 hp_19 => ?_)
      obtain ⟨hv19, hf19⟩ := hp_19
      rw [hv19, eA1, e4]
      refine G_i2l hk dX11_digest_22 (count_bd hA ⟨by omega, by omega⟩ (k : Int)) ?_
      refine G_ladd hk dX11_digest_23 ?_
      refine G_lstore_n hk dX11_digest_24 (by decide) rfl ?_
      refine G_iinc hk dX11_digest_25 rfl (by decide) rfl ?_
      refine G_goto (tgt := 6) hk dX11_digest_28 (by decide) ?_
      exact ih _ (frQ_t hq1 hf19)
