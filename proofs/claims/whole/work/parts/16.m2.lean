def frR (S S2 : Sx) : Prop := (∀ c, c ≠ 44 → c ≠ 50 → S2 c = S c) ∧ (∀ k, k ≠ 7 → k ≠ 8 → S2 44 k = S 44 k)
def rdP (S : Sx) (n i : Nat) (r : Int) (S2 : Sx) : Prop := r = bz (rpos n (S 49) (4 * i) = 4 * i + 3) ∧ S2 44 7 = (rpos n (S 49) (4 * i) : Int) ∧ S2 44 8 = (if rpos n (S 49) (4 * i) = 4 * i + 3 then (i : Int) + 1 else i) ∧ (rpos n (S 49) (4 * i) = 4 * i + 3 → S2 50 (2 * i) = sol0 (S 49) i ∧ S2 50 (2 * i + 1) = twl (S 49) i) ∧ (∀ k, k < 2 * i → S2 50 k = S 50 k) ∧ frR S S2
theorem rp_fail {S S2 : Sx} {n i m : Nat} (h8 : S 44 8 = i) (hrow : ∀ c, c ≠ 44 → S2 c = S c) (hk : ∀ k, k ≠ 7 → S2 44 k = S 44 k) (hm : rpos n (S 49) (4 * i) = m) (hne : m < 4 * i + 3) (h7 : S2 44 7 = m) : rdP S n i 0 S2 := by
  unfold rdP
  rw [hm]
  refine ⟨bz_f (by omega), h7, ?_, fun h => absurd h (by omega), fun k _ => by rw [hrow 50 (by decide)], fun c h1 _ => hrow c h1, fun k h1 _ => hk k h1⟩
  rw [if_neg (by omega), hk 8 (by decide)]
  exact h8
theorem rp_good {S S2 : Sx} {n i : Nat} (hrow : ∀ c, c ≠ 44 → c ≠ 50 → S2 c = S c) (hk : ∀ k, k ≠ 7 → k ≠ 8 → S2 44 k = S 44 k) (hm : rpos n (S 49) (4 * i) = 4 * i + 3) (h7 : S2 44 7 = (4 * i + 3 : Nat)) (h8 : S2 44 8 = (i : Int) + 1) (hs : S2 50 (2 * i) = sol0 (S 49) i) (ht : S2 50 (2 * i + 1) = twl (S 49) i) (ho : ∀ k, k < 2 * i → S2 50 k = S 50 k) : rdP S n i 1 S2 := by
  unfold rdP
  rw [hm]
  exact ⟨bz_t rfl, h7, by rw [if_pos rfl]; exact h8, fun _ => ⟨hs, ht⟩, ho, hrow, hk⟩

theorem c_X11_readsPerson (l : Launch) (Γ : Ev) (d : Nat) (S : Sx) (n i : Nat) (hn : S 44 6 = n) (h31 : n ≤ 31) (hi : i ≤ 7) (h8 : S 44 8 = i) (h7 : S 44 7 = 4 * (i : Int)) (hin : 4 * i ≤ n) (ht : ∀ j, j < n → 0 ≤ S 49 j ∧ S 49 j ≤ 255) : Ctr l Γ (d + 1) mX11_readsPerson [rf Γ 44] S (pI (rdP S n i)) := by
  refine Ctr.of (by decide) rfl rfl (Nat.le_of_ble_eq_true rfl) ?_
  intro κ hl hk hr
  subst hl
  have e0 : (S 44 7).toNat = 4 * i := by omega
  have e1 : (S 44 7 + 1).toNat = 4 * i + 1 := by omega
  have e2 : (S 44 7 + 1 + 1).toNat = 4 * i + 2 := by omega
  have e3 : (2 * S 44 8).toNat = 2 * i := by omega
  have e4 : (2 * S 44 8 + 1).toNat = 2 * i + 1 := by omega
  refine G_rload_n hk dX11_readsPerson_0 rfl ?_
  refine G_getI hk dX11_readsPerson_1 flX11_97 (by decide) rfl rfl ?_
  refine G_bipush hk dX11_readsPerson_4 (by decide) ?_
  refine G_icmp_ne (tgt := 11) hk dX11_readsPerson_6 (by decide) ⟨by omega, by omega⟩ ⟨by omega, by omega⟩ (fun h_6 => ?_) (fun h_6 => ?_)
  · refine G_iconst hk dX11_readsPerson_11 ?_
    refine G_istore_n hk dX11_readsPerson_12 (by decide) rfl ?_
    refine G_iconst hk dX11_readsPerson_13 ?_
    refine G_istore_n hk dX11_readsPerson_14 (by decide) rfl ?_
    refine G_iload_n hk dX11_readsPerson_15 rfl ?_
    refine G_iconst hk dX11_readsPerson_16 ?_
    refine G_icmp_ge (tgt := 85) hk dX11_readsPerson_17 (by decide) ⟨by omega, by omega⟩ ⟨by omega, by omega⟩ (fun h_17 => ?_) (fun h_17 => ?_)
    · exact absurd h_17 (by omega)--stop
    · refine G_rload_n hk dX11_readsPerson_20 rfl ?_
      refine G_getI hk dX11_readsPerson_21 flX11_100 (by decide) rfl rfl ?_
      refine G_rload_n hk dX11_readsPerson_24 rfl ?_
      refine G_getI hk dX11_readsPerson_25 flX11_94 (by decide) rfl rfl ?_
      refine G_icmp_ge (tgt := 46) hk dX11_readsPerson_28 (by decide) ⟨by omega, by omega⟩ ⟨by omega, by omega⟩ (fun h_28 => ?_) (fun h_28 => ?_)
      · refine G_iconst hk dX11_readsPerson_46 ?_
        refine G_istore_n hk dX11_readsPerson_47 (by decide) rfl ?_
        refine G_iload_n hk dX11_readsPerson_48 rfl ?_
        refine G_i2l hk dX11_readsPerson_49 ⟨by omega, by omega⟩ ?_
        refine G_lconst (z := 0) hk dX11_readsPerson_50 (by decide) ?_
        refine G_ldc2 (z := (9)) hk dX11_readsPerson_51 kcX11_103 (by decide) ?_
        refine G_cS3P hk dX11_readsPerson_54 msX11_in mlX11_64 (Nat.le_of_ble_eq_true rfl) (c_X11_in _ Γ (d + 0) _ _ _ _ ⟨by omega, by omega⟩ ⟨by omega, by omega⟩ ⟨by omega, by omega⟩) ?_
        refine G_bif_ne (tgt := 62) hk dX11_readsPerson_57 (by decide) (fun h_57 => ?_) (fun h_57 => ?_)
        · exact absurd h_57 (by omega)--stop
        · refine G_iconst hk dX11_readsPerson_60 ?_
          exact G_zret hk hr dX11_readsPerson_61 (by decide) (rp_fail (m := 4 * i + 0) h8 (fun c hc => by first | rfl | (simp only [su_ne _ hc]; done)) (fun k hc => by first | rfl | (simp only [su_app, hc, if_false]; simp; done)) (by unfold rpos; (repeat' split) <;> first | rfl | omega) (by omega) (by (try simp (decide := true) only [su_app, ↓reduceIte]); omega))
      · refine G_rload_n hk dX11_readsPerson_31 rfl ?_
        refine G_getR hk dX11_readsPerson_32 flX11_22 (by decide) rfl rfl ?_
        refine G_rload_n hk dX11_readsPerson_35 rfl ?_
        refine G_getI hk dX11_readsPerson_36 flX11_100 (by decide) rfl rfl ?_
        refine G_iald hk dX11_readsPerson_39 (by decide) rfl (by decide) (by omega) (by omega) ?_
        rw [e0]
        have g0 := ht (4 * i) (by omega)
        refine G_bipush hk dX11_readsPerson_40 (by decide) ?_
        refine G_isub hk dX11_readsPerson_42 ?_
        refine G_goto (tgt := 47) hk dX11_readsPerson_43 (by decide) ?_
        refine G_istore_n hk dX11_readsPerson_47 (by decide) rfl ?_
        refine G_iload_n hk dX11_readsPerson_48 rfl ?_
        refine G_i2l hk dX11_readsPerson_49 ⟨by omega, by omega⟩ ?_
        refine G_lconst (z := 0) hk dX11_readsPerson_50 (by decide) ?_
        refine G_ldc2 (z := (9)) hk dX11_readsPerson_51 kcX11_103 (by decide) ?_
        refine G_cS3P hk dX11_readsPerson_54 msX11_in mlX11_64 (Nat.le_of_ble_eq_true rfl) (c_X11_in _ Γ (d + 0) _ _ _ _ ⟨by omega, by omega⟩ ⟨by omega, by omega⟩ ⟨by omega, by omega⟩) ?_
        refine G_bif_ne (tgt := 62) hk dX11_readsPerson_57 (by decide) (fun h_57 => ?_) (fun h_57 => ?_)
        · refine G_bipush hk dX11_readsPerson_62 (by decide) ?_
          refine G_iload_n hk dX11_readsPerson_64 rfl ?_
          refine G_imul hk dX11_readsPerson_65 ?_
          refine G_iload_n hk dX11_readsPerson_66 rfl ?_
          refine G_iadd hk dX11_readsPerson_67 ?_
          refine G_istore_n hk dX11_readsPerson_68 (by decide) rfl ?_
          refine G_rload_n hk dX11_readsPerson_69 rfl ?_
          refine G_dup hk dX11_readsPerson_70 rfl ?_
          refine G_getI hk dX11_readsPerson_71 flX11_100 (by decide) rfl rfl ?_
          refine G_iconst hk dX11_readsPerson_74 ?_
          refine G_iadd hk dX11_readsPerson_75 ?_
          refine G_putI hk dX11_readsPerson_76 flX11_100 fpX11_7 (by decide) rfl rfl ?_
          refine G_iinc hk dX11_readsPerson_79 rfl (by decide) rfl ?_
          refine G_goto (tgt := 15) hk dX11_readsPerson_82 (by decide) ?_
          refine G_iload_n hk dX11_readsPerson_15 rfl ?_
          refine G_iconst hk dX11_readsPerson_16 ?_
          refine G_icmp_ge (tgt := 85) hk dX11_readsPerson_17 (by decide) ⟨by omega, by omega⟩ ⟨by omega, by omega⟩ (fun h_17 => ?_) (fun h_17 => ?_)
          · exact absurd h_17 (by omega)--stop
          · refine G_rload_n hk dX11_readsPerson_20 rfl ?_
            refine G_getI hk dX11_readsPerson_21 flX11_100 (by decide) rfl rfl ?_
            try simp (decide := true) only [su_app, sr_app, ↓reduceIte]
            refine G_rload_n hk dX11_readsPerson_24 rfl ?_
            refine G_getI hk dX11_readsPerson_25 flX11_94 (by decide) rfl rfl ?_
            try simp (decide := true) only [su_app, sr_app, ↓reduceIte]
            refine G_icmp_ge (tgt := 46) hk dX11_readsPerson_28 (by decide) ⟨by omega, by omega⟩ ⟨by omega, by omega⟩ (fun h_28 => ?_) (fun h_28 => ?_)
            · refine G_iconst hk dX11_readsPerson_46 ?_
              refine G_istore_n hk dX11_readsPerson_47 (by decide) rfl ?_
              refine G_iload_n hk dX11_readsPerson_48 rfl ?_
              refine G_i2l hk dX11_readsPerson_49 ⟨by omega, by omega⟩ ?_
              refine G_lconst (z := 0) hk dX11_readsPerson_50 (by decide) ?_
              refine G_ldc2 (z := (9)) hk dX11_readsPerson_51 kcX11_103 (by decide) ?_
              refine G_cS3P hk dX11_readsPerson_54 msX11_in mlX11_64 (Nat.le_of_ble_eq_true rfl) (c_X11_in _ Γ (d + 0) _ _ _ _ ⟨by omega, by omega⟩ ⟨by omega, by omega⟩ ⟨by omega, by omega⟩) ?_
              refine G_bif_ne (tgt := 62) hk dX11_readsPerson_57 (by decide) (fun h_57 => ?_) (fun h_57 => ?_)
              · exact absurd h_57 (by omega)--stop
              · refine G_iconst hk dX11_readsPerson_60 ?_
                exact G_zret hk hr dX11_readsPerson_61 (by decide) (rp_fail (m := 4 * i + 1) h8 (fun c hc => by first | rfl | (simp only [su_ne _ hc]; done)) (fun k hc => by first | rfl | (simp only [su_app, hc, if_false]; simp; done)) (by unfold rpos; (repeat' split) <;> first | rfl | omega) (by omega) (by (try simp (decide := true) only [su_app, ↓reduceIte]); omega))
            · refine G_rload_n hk dX11_readsPerson_31 rfl ?_
              refine G_getR hk dX11_readsPerson_32 flX11_22 (by decide) rfl rfl ?_
              refine G_rload_n hk dX11_readsPerson_35 rfl ?_
              refine G_getI hk dX11_readsPerson_36 flX11_100 (by decide) rfl rfl ?_
              try simp (decide := true) only [su_app, sr_app, ↓reduceIte]
              refine G_iald hk dX11_readsPerson_39 (by decide) rfl (by decide) (by omega) (by omega) ?_
              try simp (decide := true) only [su_app, sr_app, ↓reduceIte]
              rw [e1]
              have g1 := ht (4 * i + 1) (by omega)
              refine G_bipush hk dX11_readsPerson_40 (by decide) ?_
              refine G_isub hk dX11_readsPerson_42 ?_
              refine G_goto (tgt := 47) hk dX11_readsPerson_43 (by decide) ?_
              refine G_istore_n hk dX11_readsPerson_47 (by decide) rfl ?_
              refine G_iload_n hk dX11_readsPerson_48 rfl ?_
              refine G_i2l hk dX11_readsPerson_49 ⟨by omega, by omega⟩ ?_
              refine G_lconst (z := 0) hk dX11_readsPerson_50 (by decide) ?_
              refine G_ldc2 (z := (9)) hk dX11_readsPerson_51 kcX11_103 (by decide) ?_
              refine G_cS3P hk dX11_readsPerson_54 msX11_in mlX11_64 (Nat.le_of_ble_eq_true rfl) (c_X11_in _ Γ (d + 0) _ _ _ _ ⟨by omega, by omega⟩ ⟨by omega, by omega⟩ ⟨by omega, by omega⟩) ?_
              refine G_bif_ne (tgt := 62) hk dX11_readsPerson_57 (by decide) (fun h_57 => ?_) (fun h_57 => ?_)
              · refine G_bipush hk dX11_readsPerson_62 (by decide) ?_
                refine G_iload_n hk dX11_readsPerson_64 rfl ?_
                refine G_imul hk dX11_readsPerson_65 ?_
                refine G_iload_n hk dX11_readsPerson_66 rfl ?_
                refine G_iadd hk dX11_readsPerson_67 ?_
                refine G_istore_n hk dX11_readsPerson_68 (by decide) rfl ?_
                refine G_rload_n hk dX11_readsPerson_69 rfl ?_
                refine G_dup hk dX11_readsPerson_70 rfl ?_
                refine G_getI hk dX11_readsPerson_71 flX11_100 (by decide) rfl rfl ?_
                try simp (decide := true) only [su_app, sr_app, ↓reduceIte]
                refine G_iconst hk dX11_readsPerson_74 ?_
                refine G_iadd hk dX11_readsPerson_75 ?_
                refine G_putI hk dX11_readsPerson_76 flX11_100 fpX11_7 (by decide) rfl rfl ?_
                refine G_iinc hk dX11_readsPerson_79 rfl (by decide) rfl ?_
                refine G_goto (tgt := 15) hk dX11_readsPerson_82 (by decide) ?_
                refine G_iload_n hk dX11_readsPerson_15 rfl ?_
                refine G_iconst hk dX11_readsPerson_16 ?_
                refine G_icmp_ge (tgt := 85) hk dX11_readsPerson_17 (by decide) ⟨by omega, by omega⟩ ⟨by omega, by omega⟩ (fun h_17 => ?_) (fun h_17 => ?_)
                · refine G_rload_n hk dX11_readsPerson_85 rfl ?_
                  refine G_getI hk dX11_readsPerson_86 flX11_100 (by decide) rfl rfl ?_
                  try simp (decide := true) only [su_app, sr_app, ↓reduceIte]
                  refine G_rload_n hk dX11_readsPerson_89 rfl ?_
                  refine G_getI hk dX11_readsPerson_90 flX11_94 (by decide) rfl rfl ?_
                  try simp (decide := true) only [su_app, sr_app, ↓reduceIte]
                  refine G_icmp_ge (tgt := 108) hk dX11_readsPerson_93 (by decide) ⟨by omega, by omega⟩ ⟨by omega, by omega⟩ (fun h_93 => ?_) (fun h_93 => ?_)
                  · refine G_iconst hk dX11_readsPerson_108 ?_
                    refine G_istore_n hk dX11_readsPerson_109 (by decide) rfl ?_
                    refine G_iload_n hk dX11_readsPerson_110 rfl ?_
                    refine G_bipush hk dX11_readsPerson_111 (by decide) ?_
                    refine G_icmp_eq (tgt := 132) hk dX11_readsPerson_113 (by decide) ⟨by omega, by omega⟩ ⟨by omega, by omega⟩ (fun h_113 => ?_) (fun h_113 => ?_)
                    · exact absurd h_113 (by omega)--stop
                    · refine G_iload_n hk dX11_readsPerson_116 rfl ?_
                      refine G_i2l hk dX11_readsPerson_117 ⟨by omega, by omega⟩ ?_
                      refine G_ldc2 (z := (97)) hk dX11_readsPerson_118 kcX11_105 (by decide) ?_
                      refine G_ldc2 (z := (104)) hk dX11_readsPerson_121 kcX11_107 (by decide) ?_
                      refine G_cS3P hk dX11_readsPerson_124 msX11_in mlX11_64 (Nat.le_of_ble_eq_true rfl) (c_X11_in _ Γ (d + 0) _ _ _ _ ⟨by omega, by omega⟩ ⟨by omega, by omega⟩ ⟨by omega, by omega⟩) ?_
                      refine G_bif_ne (tgt := 132) hk dX11_readsPerson_127 (by decide) (fun h_127 => ?_) (fun h_127 => ?_)
                      · exact absurd h_127 (by omega)--stop
                      · refine G_iconst hk dX11_readsPerson_130 ?_
                        exact G_zret hk hr dX11_readsPerson_131 (by decide) (rp_fail (m := 4 * i + 2) h8 (fun c hc => by first | rfl | (simp only [su_ne _ hc]; done)) (fun k hc => by first | rfl | (simp only [su_app, hc, if_false]; simp; done)) (by unfold rpos; (repeat' split) <;> first | rfl | omega) (by omega) (by (try simp (decide := true) only [su_app, ↓reduceIte]); omega))
                  · refine G_rload_n hk dX11_readsPerson_96 rfl ?_
                    refine G_getR hk dX11_readsPerson_97 flX11_22 (by decide) rfl rfl ?_
                    refine G_rload_n hk dX11_readsPerson_100 rfl ?_
                    refine G_getI hk dX11_readsPerson_101 flX11_100 (by decide) rfl rfl ?_
                    try simp (decide := true) only [su_app, sr_app, ↓reduceIte]
                    refine G_iald hk dX11_readsPerson_104 (by decide) rfl (by decide) (by omega) (by omega) ?_
                    try simp (decide := true) only [su_app, sr_app, ↓reduceIte]
                    rw [e2]
                    have g2 := ht (4 * i + 2) (by omega)
                    refine G_goto (tgt := 109) hk dX11_readsPerson_105 (by decide) ?_
                    refine G_istore_n hk dX11_readsPerson_109 (by decide) rfl ?_
                    refine G_iload_n hk dX11_readsPerson_110 rfl ?_
                    refine G_bipush hk dX11_readsPerson_111 (by decide) ?_
                    refine G_icmp_eq (tgt := 132) hk dX11_readsPerson_113 (by decide) ⟨by omega, by omega⟩ ⟨by omega, by omega⟩ (fun h_113 => ?_) (fun h_113 => ?_)
                    · refine G_rload_n hk dX11_readsPerson_132 rfl ?_
                      refine G_getR hk dX11_readsPerson_133 flX11_25 (by decide) rfl rfl ?_
                      refine G_iconst hk dX11_readsPerson_136 ?_
                      refine G_rload_n hk dX11_readsPerson_137 rfl ?_
                      refine G_getI hk dX11_readsPerson_138 flX11_97 (by decide) rfl rfl ?_
                      try simp (decide := true) only [su_app, sr_app, ↓reduceIte]
                      refine G_imul hk dX11_readsPerson_141 ?_
                      refine G_iload_n hk dX11_readsPerson_142 rfl ?_
                      refine G_iast hk dX11_readsPerson_143 (by decide) rfl (by decide) (by omega) (by omega) ?_
                      refine G_rload_n hk dX11_readsPerson_144 rfl ?_
                      refine G_getR hk dX11_readsPerson_145 flX11_25 (by decide) rfl rfl ?_
                      refine G_iconst hk dX11_readsPerson_148 ?_
                      refine G_rload_n hk dX11_readsPerson_149 rfl ?_
                      refine G_getI hk dX11_readsPerson_150 flX11_97 (by decide) rfl rfl ?_
                      try simp (decide := true) only [su_app, sr_app, ↓reduceIte]
                      refine G_imul hk dX11_readsPerson_153 ?_
                      refine G_iconst hk dX11_readsPerson_154 ?_
                      refine G_iadd hk dX11_readsPerson_155 ?_
                      refine G_iload_n hk dX11_readsPerson_156 rfl ?_
                      refine G_bipush hk dX11_readsPerson_157 (by decide) ?_
                      refine G_icmp_ne (tgt := 166) hk dX11_readsPerson_159 (by decide) ⟨by omega, by omega⟩ ⟨by omega, by omega⟩ (fun h_159 => ?_) (fun h_159 => ?_)
                      · refine G_iload_n hk dX11_readsPerson_166 rfl ?_
                        refine G_bipush hk dX11_readsPerson_167 (by decide) ?_
                        refine G_isub hk dX11_readsPerson_169 ?_
                        refine G_iast hk dX11_readsPerson_170 (by decide) rfl (by decide) (by omega) (by omega) ?_
                        refine G_rload_n hk dX11_readsPerson_171 rfl ?_
                        refine G_dup hk dX11_readsPerson_172 rfl ?_
                        refine G_getI hk dX11_readsPerson_173 flX11_100 (by decide) rfl rfl ?_
                        try simp (decide := true) only [su_app, sr_app, ↓reduceIte]
                        refine G_iconst hk dX11_readsPerson_176 ?_
                        refine G_iadd hk dX11_readsPerson_177 ?_
                        refine G_putI hk dX11_readsPerson_178 flX11_100 fpX11_7 (by decide) rfl rfl ?_
                        refine G_rload_n hk dX11_readsPerson_181 rfl ?_
                        refine G_dup hk dX11_readsPerson_182 rfl ?_
                        refine G_getI hk dX11_readsPerson_183 flX11_97 (by decide) rfl rfl ?_
                        try simp (decide := true) only [su_app, sr_app, ↓reduceIte]
                        refine G_iconst hk dX11_readsPerson_186 ?_
                        refine G_iadd hk dX11_readsPerson_187 ?_
                        refine G_putI hk dX11_readsPerson_188 flX11_97 fpX11_8 (by decide) rfl rfl ?_
                        refine G_iconst hk dX11_readsPerson_191 ?_
                        refine G_zret hk hr dX11_readsPerson_192 (by decide) (rp_good (fun c hc hd => by simp only [su_ne _ hc, su_ne _ hd]) (fun k hc hd => by simp only [su_app, hc, hd, if_false]; simp) (by unfold rpos; (repeat' split) <;> first | rfl | omega) (by (try simp (decide := true) only [su_app, ↓reduceIte]); omega) (by (try simp (decide := true) only [su_app, ↓reduceIte]); omega) ?_ ?_ ?_)
                        · simp (decide := true) only [su_app, ↓reduceIte, e3, e4]
                          rw [if_neg (by omega)]
                          unfold sol0
                          omega
                        · simp (decide := true) only [su_app, ↓reduceIte, e3, e4]
                          unfold twl
                          split <;> first | rfl | omega | (exfalso; omega)
                        · intro k hk9
                          simp (decide := true) only [su_app, ↓reduceIte, e3, e4]
                          rw [if_neg (by omega), if_neg (by omega)]
                      · refine G_iconst hk dX11_readsPerson_162 ?_
                        refine G_goto (tgt := 170) hk dX11_readsPerson_163 (by decide) ?_
                        refine G_iast hk dX11_readsPerson_170 (by decide) rfl (by decide) (by omega) (by omega) ?_
                        refine G_rload_n hk dX11_readsPerson_171 rfl ?_
                        refine G_dup hk dX11_readsPerson_172 rfl ?_
                        refine G_getI hk dX11_readsPerson_173 flX11_100 (by decide) rfl rfl ?_
                        try simp (decide := true) only [su_app, sr_app, ↓reduceIte]
                        refine G_iconst hk dX11_readsPerson_176 ?_
                        refine G_iadd hk dX11_readsPerson_177 ?_
                        refine G_putI hk dX11_readsPerson_178 flX11_100 fpX11_7 (by decide) rfl rfl ?_
                        refine G_rload_n hk dX11_readsPerson_181 rfl ?_
                        refine G_dup hk dX11_readsPerson_182 rfl ?_
                        refine G_getI hk dX11_readsPerson_183 flX11_97 (by decide) rfl rfl ?_
                        try simp (decide := true) only [su_app, sr_app, ↓reduceIte]
                        refine G_iconst hk dX11_readsPerson_186 ?_
                        refine G_iadd hk dX11_readsPerson_187 ?_
                        refine G_putI hk dX11_readsPerson_188 flX11_97 fpX11_8 (by decide) rfl rfl ?_
                        refine G_iconst hk dX11_readsPerson_191 ?_
                        refine G_zret hk hr dX11_readsPerson_192 (by decide) (rp_good (fun c hc hd => by simp only [su_ne _ hc, su_ne _ hd]) (fun k hc hd => by simp only [su_app, hc, hd, if_false]; simp) (by unfold rpos; (repeat' split) <;> first | rfl | omega) (by (try simp (decide := true) only [su_app, ↓reduceIte]); omega) (by (try simp (decide := true) only [su_app, ↓reduceIte]); omega) ?_ ?_ ?_)
                        · simp (decide := true) only [su_app, ↓reduceIte, e3, e4]
                          rw [if_neg (by omega)]
                          unfold sol0
                          omega
                        · simp (decide := true) only [su_app, ↓reduceIte, e3, e4]
                          unfold twl
                          split <;> first | rfl | omega | (exfalso; omega)
                        · intro k hk9
                          simp (decide := true) only [su_app, ↓reduceIte, e3, e4]
                          rw [if_neg (by omega), if_neg (by omega)]
                    · refine G_iload_n hk dX11_readsPerson_116 rfl ?_
                      refine G_i2l hk dX11_readsPerson_117 ⟨by omega, by omega⟩ ?_
                      refine G_ldc2 (z := (97)) hk dX11_readsPerson_118 kcX11_105 (by decide) ?_
                      refine G_ldc2 (z := (104)) hk dX11_readsPerson_121 kcX11_107 (by decide) ?_
                      refine G_cS3P hk dX11_readsPerson_124 msX11_in mlX11_64 (Nat.le_of_ble_eq_true rfl) (c_X11_in _ Γ (d + 0) _ _ _ _ ⟨by omega, by omega⟩ ⟨by omega, by omega⟩ ⟨by omega, by omega⟩) ?_
                      refine G_bif_ne (tgt := 132) hk dX11_readsPerson_127 (by decide) (fun h_127 => ?_) (fun h_127 => ?_)
                      · refine G_rload_n hk dX11_readsPerson_132 rfl ?_
                        refine G_getR hk dX11_readsPerson_133 flX11_25 (by decide) rfl rfl ?_
                        refine G_iconst hk dX11_readsPerson_136 ?_
                        refine G_rload_n hk dX11_readsPerson_137 rfl ?_
                        refine G_getI hk dX11_readsPerson_138 flX11_97 (by decide) rfl rfl ?_
                        try simp (decide := true) only [su_app, sr_app, ↓reduceIte]
                        refine G_imul hk dX11_readsPerson_141 ?_
                        refine G_iload_n hk dX11_readsPerson_142 rfl ?_
                        refine G_iast hk dX11_readsPerson_143 (by decide) rfl (by decide) (by omega) (by omega) ?_
                        refine G_rload_n hk dX11_readsPerson_144 rfl ?_
                        refine G_getR hk dX11_readsPerson_145 flX11_25 (by decide) rfl rfl ?_
                        refine G_iconst hk dX11_readsPerson_148 ?_
                        refine G_rload_n hk dX11_readsPerson_149 rfl ?_
                        refine G_getI hk dX11_readsPerson_150 flX11_97 (by decide) rfl rfl ?_
                        try simp (decide := true) only [su_app, sr_app, ↓reduceIte]
                        refine G_imul hk dX11_readsPerson_153 ?_
                        refine G_iconst hk dX11_readsPerson_154 ?_
                        refine G_iadd hk dX11_readsPerson_155 ?_
                        refine G_iload_n hk dX11_readsPerson_156 rfl ?_
                        refine G_bipush hk dX11_readsPerson_157 (by decide) ?_
                        refine G_icmp_ne (tgt := 166) hk dX11_readsPerson_159 (by decide) ⟨by omega, by omega⟩ ⟨by omega, by omega⟩ (fun h_159 => ?_) (fun h_159 => ?_)
                        · refine G_iload_n hk dX11_readsPerson_166 rfl ?_
                          refine G_bipush hk dX11_readsPerson_167 (by decide) ?_
                          refine G_isub hk dX11_readsPerson_169 ?_
                          refine G_iast hk dX11_readsPerson_170 (by decide) rfl (by decide) (by omega) (by omega) ?_
                          refine G_rload_n hk dX11_readsPerson_171 rfl ?_
                          refine G_dup hk dX11_readsPerson_172 rfl ?_
                          refine G_getI hk dX11_readsPerson_173 flX11_100 (by decide) rfl rfl ?_
                          try simp (decide := true) only [su_app, sr_app, ↓reduceIte]
                          refine G_iconst hk dX11_readsPerson_176 ?_
                          refine G_iadd hk dX11_readsPerson_177 ?_
                          refine G_putI hk dX11_readsPerson_178 flX11_100 fpX11_7 (by decide) rfl rfl ?_
                          refine G_rload_n hk dX11_readsPerson_181 rfl ?_
                          refine G_dup hk dX11_readsPerson_182 rfl ?_
                          refine G_getI hk dX11_readsPerson_183 flX11_97 (by decide) rfl rfl ?_
                          try simp (decide := true) only [su_app, sr_app, ↓reduceIte]
                          refine G_iconst hk dX11_readsPerson_186 ?_
                          refine G_iadd hk dX11_readsPerson_187 ?_
                          refine G_putI hk dX11_readsPerson_188 flX11_97 fpX11_8 (by decide) rfl rfl ?_
                          refine G_iconst hk dX11_readsPerson_191 ?_
                          refine G_zret hk hr dX11_readsPerson_192 (by decide) (rp_good (fun c hc hd => by simp only [su_ne _ hc, su_ne _ hd]) (fun k hc hd => by simp only [su_app, hc, hd, if_false]; simp) (by unfold rpos; (repeat' split) <;> first | rfl | omega) (by (try simp (decide := true) only [su_app, ↓reduceIte]); omega) (by (try simp (decide := true) only [su_app, ↓reduceIte]); omega) ?_ ?_ ?_)
                          · simp (decide := true) only [su_app, ↓reduceIte, e3, e4]
                            rw [if_neg (by omega)]
                            unfold sol0
                            omega
                          · simp (decide := true) only [su_app, ↓reduceIte, e3, e4]
                            unfold twl
                            split <;> first | rfl | omega | (exfalso; omega)
                          · intro k hk9
                            simp (decide := true) only [su_app, ↓reduceIte, e3, e4]
                            rw [if_neg (by omega), if_neg (by omega)]
                        · refine G_iconst hk dX11_readsPerson_162 ?_
                          refine G_goto (tgt := 170) hk dX11_readsPerson_163 (by decide) ?_
                          refine G_iast hk dX11_readsPerson_170 (by decide) rfl (by decide) (by omega) (by omega) ?_
                          refine G_rload_n hk dX11_readsPerson_171 rfl ?_
                          refine G_dup hk dX11_readsPerson_172 rfl ?_
                          refine G_getI hk dX11_readsPerson_173 flX11_100 (by decide) rfl rfl ?_
                          try simp (decide := true) only [su_app, sr_app, ↓reduceIte]
                          refine G_iconst hk dX11_readsPerson_176 ?_
                          refine G_iadd hk dX11_readsPerson_177 ?_
                          refine G_putI hk dX11_readsPerson_178 flX11_100 fpX11_7 (by decide) rfl rfl ?_
                          refine G_rload_n hk dX11_readsPerson_181 rfl ?_
                          refine G_dup hk dX11_readsPerson_182 rfl ?_
                          refine G_getI hk dX11_readsPerson_183 flX11_97 (by decide) rfl rfl ?_
                          try simp (decide := true) only [su_app, sr_app, ↓reduceIte]
                          refine G_iconst hk dX11_readsPerson_186 ?_
                          refine G_iadd hk dX11_readsPerson_187 ?_
                          refine G_putI hk dX11_readsPerson_188 flX11_97 fpX11_8 (by decide) rfl rfl ?_
                          refine G_iconst hk dX11_readsPerson_191 ?_
                          refine G_zret hk hr dX11_readsPerson_192 (by decide) (rp_good (fun c hc hd => by simp only [su_ne _ hc, su_ne _ hd]) (fun k hc hd => by simp only [su_app, hc, hd, if_false]; simp) (by unfold rpos; (repeat' split) <;> first | rfl | omega) (by (try simp (decide := true) only [su_app, ↓reduceIte]); omega) (by (try simp (decide := true) only [su_app, ↓reduceIte]); omega) ?_ ?_ ?_)
                          · simp (decide := true) only [su_app, ↓reduceIte, e3, e4]
                            rw [if_neg (by omega)]
                            unfold sol0
                            omega
                          · simp (decide := true) only [su_app, ↓reduceIte, e3, e4]
                            unfold twl
                            split <;> first | rfl | omega | (exfalso; omega)
                          · intro k hk9
                            simp (decide := true) only [su_app, ↓reduceIte, e3, e4]
                            rw [if_neg (by omega), if_neg (by omega)]
                      · refine G_iconst hk dX11_readsPerson_130 ?_
                        exact G_zret hk hr dX11_readsPerson_131 (by decide) (rp_fail (m := 4 * i + 2) h8 (fun c hc => by first | rfl | (simp only [su_ne _ hc]; done)) (fun k hc => by first | rfl | (simp only [su_app, hc, if_false]; simp; done)) (by unfold rpos; (repeat' split) <;> first | rfl | omega) (by omega) (by (try simp (decide := true) only [su_app, ↓reduceIte]); omega))
                · exact absurd h_17 (by omega)--stop
              · refine G_iconst hk dX11_readsPerson_60 ?_
                exact G_zret hk hr dX11_readsPerson_61 (by decide) (rp_fail (m := 4 * i + 1) h8 (fun c hc => by first | rfl | (simp only [su_ne _ hc]; done)) (fun k hc => by first | rfl | (simp only [su_app, hc, if_false]; simp; done)) (by unfold rpos; (repeat' split) <;> first | rfl | omega) (by omega) (by (try simp (decide := true) only [su_app, ↓reduceIte]); omega))
        · refine G_iconst hk dX11_readsPerson_60 ?_
          exact G_zret hk hr dX11_readsPerson_61 (by decide) (rp_fail (m := 4 * i + 0) h8 (fun c hc => by first | rfl | (simp only [su_ne _ hc]; done)) (fun k hc => by first | rfl | (simp only [su_app, hc, if_false]; simp; done)) (by unfold rpos; (repeat' split) <;> first | rfl | omega) (by omega) (by (try simp (decide := true) only [su_app, ↓reduceIte]); omega))
  · exact absurd h_6 (by omega)--stop

def rdR (S : Sx) (n : Nat) (r : Int) (S2 : Sx) : Prop := r = flt n (S 49) ∧ S2 44 8 = (npl n (S 49) : Int) ∧ (∀ p, p < npl n (S 49) → S2 50 (2 * p) = sol0 (S 49) p ∧ S2 50 (2 * p + 1) = twl (S 49) p) ∧ frR S S2
def rdI (S : Sx) (n i : Nat) (S' : Sx) : Prop := S' 44 8 = (i : Int) ∧ S' 44 7 = 4 * (i : Int) ∧ (∀ p, p < i → S' 50 (2 * p) = sol0 (S 49) p ∧ S' 50 (2 * p + 1) = twl (S 49) p) ∧ frR S S' ∧ (∀ j, j < 4 * i → okc j (S 49 j) = true) ∧ 4 * i ≤ n
theorem frR_t {S S1 S2 : Sx} (h1 : frR S S1) (h2 : frR S1 S2) : frR S S2 := ⟨fun c a b => by rw [h2.1 c a b, h1.1 c a b], fun k a b => by rw [h2.2 k a b, h1.2 k a b]⟩

theorem c_X11_reads (l : Launch) (Γ : Ev) (d : Nat) (S : Sx) (n : Nat) (hn : S 44 6 = n) (h31 : n ≤ 31) (ht : ∀ j, j < n → 0 ≤ S 49 j ∧ S 49 j ≤ 255) : Ctr l Γ (d + 2) mX11_reads [rf Γ 44] S (pI (rdR S n)) := by
  refine Ctr.of (by decide) rfl rfl (Nat.le_of_ble_eq_true rfl) ?_
  intro κ hl hk hr
  subst hl
  refine G_rload_n hk dX11_reads_0 rfl ?_
  refine G_iconst hk dX11_reads_1 ?_
  refine G_putI hk dX11_reads_2 flX11_100 fpX11_7 (by decide) rfl rfl ?_
  refine G_rload_n hk dX11_reads_5 rfl ?_
  refine G_iconst hk dX11_reads_6 ?_
  refine G_putI hk dX11_reads_7 flX11_97 fpX11_8 (by decide) rfl rfl ?_
  refine G_rload_n hk dX11_reads_10 rfl ?_
  refine G_getI hk dX11_reads_11 flX11_94 (by decide) rfl rfl ?_
  try simp (decide := true) only [su_app, sr_app, ↓reduceIte]
  refine G_if_le (tgt := 21) hk dX11_reads_14 (by decide) ⟨by omega, by omega⟩ (fun h_14 => ?_) (fun h_14 => ?_)
  · refine G_iconst hk dX11_reads_21 ?_
    refine G_istore_n hk dX11_reads_22 (by decide) rfl ?_
    refine G_iload_n hk dX11_reads_23 rfl ?_
    refine G_if_eq (tgt := 106) hk dX11_reads_24 (by decide) ⟨by omega, by omega⟩ (fun h_24 => ?_) (fun h_24 => ?_)
    · refine G_iconst hk dX11_reads_106 ?_
      exact G_iret hk hr dX11_reads_107 (by
    have hn0 : n = 0 := by omega
    have hb : flt n (S 49) = -1 ∧ npl n (S 49) = (n + 1) / 4 := flt_well (fun j hj => absurd hj (by omega)) (Or.inl hn0)
    have hz : (n + 1) / 4 = 0 := by omega
    refine ⟨hb.1.symm, ?_, ?_, ?_⟩
    · rw [hb.2, hz]; simp [su_app]
    · rw [hb.2, hz]; intro p hp; omega
    · exact ⟨fun c a b => by simp only [su_ne _ a], fun k a b => by simp [su_app, a, b]⟩)
    · exact absurd h_24 (by omega)--stop
  · refine G_iconst hk dX11_reads_17 ?_
    refine G_goto (tgt := 22) hk dX11_reads_18 (by decide) ?_
    refine G_istore_n hk dX11_reads_22 (by decide) rfl ?_
    have lp := loop_up (P := fun i => ∀ (S' : Sx) (w : Option Value), rdI S n i S' → GW κ Γ 23 [some (rf Γ 44), some (vI 1), w] [] (wl Γ S')) 8 (fun S' w h => absurd h.2.2.2.2.2 (by omega)) ?_ 0 (by omega)
    · exact GW_L (L' := [some (rf Γ 44), some (vI 1), none]) rfl (lp _ none ⟨by simp [su_app], by simp [su_app], fun p hp => absurd hp (by omega), ⟨fun c a b => by simp only [su_ne _ a], fun k a b => by simp [su_app, a, b]⟩, fun j hj => absurd hj (by omega), by omega⟩)
    · intro i hi9 ih S' w hI
      obtain ⟨b8, b7, bt, bf, bo, hin⟩ := hI
      have hi : i ≤ 7 := by omega
      have b6 : S' 44 6 = n := by rw [bf.2 6 (by decide) (by decide)]; exact hn
      have r49 : S' 49 = S 49 := bf.1 49 (by decide) (by decide)
      have b49 : ∀ j, j < n → 0 ≤ S' 49 j ∧ S' 49 j ≤ 255 := by rw [r49]; exact ht
      refine G_iload_n hk dX11_reads_23 rfl ?_
      refine G_if_eq (tgt := 106) hk dX11_reads_24 (by decide) ⟨by omega, by omega⟩ (fun h_24 => ?_) (fun h_24 => ?_)
      · exact absurd h_24 (by omega)--stop
      · refine G_rload_n hk dX11_reads_27 rfl ?_
        refine G_cV0I hk dX11_reads_28 mvX11_readsPerson mlX11_109 (by decide) rfl rfl (Nat.le_of_ble_eq_true rfl) (c_X11_readsPerson _ Γ (d + 0) _ n i b6 h31 hi b8 b7 hin b49) (fun r_28 S_28 hp_28 => ?_)
        obtain ⟨rfl, a7, a8, a50, ao, af⟩ := hp_28
        rw [r49] at a7 a8 a50
        have a6 : S_28 44 6 = n := by rw [af.2 6 (by decide) (by decide)]; exact b6
        have a49 : S_28 49 = S 49 := by rw [af.1 49 (by decide) (by decide)]; exact r49
        refine G_istore_n hk dX11_reads_31 (by decide) rfl ?_
        refine G_iload_n hk dX11_reads_32 rfl ?_
        refine G_if_eq (tgt := 51) hk dX11_reads_33 (by decide) (bz_r _) (fun h_33 => ?_) (fun h_33 => ?_)
        · have hbad := bz_0.mp h_33
          rw [r49] at hbad
          refine G_iconst hk dX11_reads_51 ?_
          refine G_istore_n hk dX11_reads_52 (by decide) rfl ?_
          refine G_iload_n hk dX11_reads_53 rfl ?_
          refine G_if_eq (tgt := 75) hk dX11_reads_54 (by decide) (bz_r _) (fun h_54 => ?_) (fun h_54 => ?_)
          · refine G_rload_n hk dX11_reads_75 rfl ?_
            refine G_iconst hk dX11_reads_76 ?_
            refine G_putI hk dX11_reads_77 flX11_97 fpX11_8 (by decide) rfl rfl ?_
            refine G_rload_n hk dX11_reads_80 rfl ?_
            refine G_getI hk dX11_reads_81 flX11_100 (by decide) rfl rfl ?_
            try simp (decide := true) only [su_app, sr_app, ↓reduceIte]
            exact G_iret hk hr dX11_reads_84 (by
        have hb : flt n (S 49) = rpos n (S 49) (4 * i) ∧ npl n (S 49) = 0 := by
          obtain ⟨c1, c2, c3⟩ := rpos_bad (n := n) (i := i) (t := S 49) hbad
          have hle : rpos n (S 49) (4 * i) ≤ n := by
            by_cases q : rpos n (S 49) (4 * i) = 4 * i
            · omega
            · have := (rpos_ok (n := n) (i := i) (t := S 49) (rpos n (S 49) (4 * i) - 1) (by omega) (by omega)).2
              omega
          refine flt_bad (fun j hj => ?_) hle c3 (fun e => by omega)
          by_cases q : j < 4 * i
          · exact bo j q
          · exact (rpos_ok (n := n) (i := i) (t := S 49) j (by omega) hj).1
        refine ⟨?_, ?_, ?_, ?_⟩
        · rw [hb.1]; (try simp (decide := true) only [su_app, ↓reduceIte]); exact a7
        · rw [hb.2]; simp [su_app]
        · rw [hb.2]; intro p hp; omega
        · exact frR_t bf (frR_t af ⟨fun c a b => su_ne _ a, fun k a b => by simp [su_app, b]⟩))
          · exact absurd h_33 h_54--stop
        · have hgood : rpos n (S 49) (4 * i) = 4 * i + 3 := by
            rw [← r49]
            exact Decidable.not_not.mp (fun q => h_33 (bz_0.mpr q))
          rw [hgood] at a7 a8
          rw [if_pos rfl] at a8
          have a5 := a50 hgood
          refine G_rload_n hk dX11_reads_36 rfl ?_
          refine G_getI hk dX11_reads_37 flX11_100 (by decide) rfl rfl ?_
          refine G_rload_n hk dX11_reads_40 rfl ?_
          refine G_getI hk dX11_reads_41 flX11_94 (by decide) rfl rfl ?_
          refine G_icmp_ge (tgt := 51) hk dX11_reads_44 (by decide) ⟨by omega, by omega⟩ ⟨by omega, by omega⟩ (fun h_44 => ?_) (fun h_44 => ?_)
          · refine G_iconst hk dX11_reads_51 ?_
            refine G_istore_n hk dX11_reads_52 (by decide) rfl ?_
            refine G_iload_n hk dX11_reads_53 rfl ?_
            refine G_if_eq (tgt := 75) hk dX11_reads_54 (by decide) (bz_r _) (fun h_54 => ?_) (fun h_54 => ?_)
            · exact absurd h_54 h_33--stop
            · refine G_iload_n hk dX11_reads_57 rfl ?_
              refine G_if_eq (tgt := 85) hk dX11_reads_58 (by decide) ⟨by omega, by omega⟩ (fun h_58 => ?_) (fun h_58 => ?_)
              · refine G_rload_n hk dX11_reads_85 rfl ?_
                refine G_dup hk dX11_reads_86 rfl ?_
                refine G_getI hk dX11_reads_87 flX11_100 (by decide) rfl rfl ?_
                refine G_iload_n hk dX11_reads_90 rfl ?_
                refine G_if_eq (tgt := 98) hk dX11_reads_91 (by decide) ⟨by omega, by omega⟩ (fun h_91 => ?_) (fun h_91 => ?_)
                · refine G_iconst hk dX11_reads_98 ?_
                  refine G_iadd hk dX11_reads_99 ?_
                  refine G_putI hk dX11_reads_100 flX11_100 fpX11_7 (by decide) rfl rfl ?_
                  refine G_goto (tgt := 23) hk dX11_reads_103 (by decide) ?_
                  refine G_iload_n hk dX11_reads_23 rfl ?_
                  refine G_if_eq (tgt := 106) hk dX11_reads_24 (by decide) ⟨by omega, by omega⟩ (fun h_24 => ?_) (fun h_24 => ?_)
                  · refine G_iconst hk dX11_reads_106 ?_
                    exact G_iret hk hr dX11_reads_107 (by
        have hn3 : n = 4 * i + 3 := by
          have := (rpos_ok (n := n) (i := i) (t := S 49) (4 * i + 2) (by omega) (by omega)).2
          omega
        have hb : flt n (S 49) = -1 ∧ npl n (S 49) = (n + 1) / 4 := by
          refine flt_well (fun j hj => ?_) (by omega)
          by_cases q : j < 4 * i
          · exact bo j q
          · exact (rpos_ok (n := n) (i := i) (t := S 49) j (by omega) (by omega)).1
        refine ⟨?_, ?_, ?_, ?_⟩
        · rw [hb.1]
        · rw [hb.2]; simp (decide := true) only [su_app, ↓reduceIte, a8]; omega
        · rw [hb.2]
          intro p hp
          rw [su_ne _ (show (50 : Nat) ≠ 44 by decide)]
          by_cases e : p = i
          · rw [e]; exact a5
          · rw [ao (2 * p) (by omega), ao (2 * p + 1) (by omega)]
            exact bt p (by omega)
        · exact frR_t bf (frR_t af ⟨fun c a b => su_ne _ a, fun k a b => by simp [su_app, a]⟩))
                  · exact absurd h_24 (by omega)--stop
                · exact absurd h_91 (by omega)--stop
              · exact absurd h_58 (by omega)--stop
          · refine G_iconst hk dX11_reads_47 ?_
            refine G_goto (tgt := 52) hk dX11_reads_48 (by decide) ?_
            refine G_istore_n hk dX11_reads_52 (by decide) rfl ?_
            refine G_iload_n hk dX11_reads_53 rfl ?_
            refine G_if_eq (tgt := 75) hk dX11_reads_54 (by decide) (bz_r _) (fun h_54 => ?_) (fun h_54 => ?_)
            · exact absurd h_54 h_33--stop
            · refine G_iload_n hk dX11_reads_57 rfl ?_
              refine G_if_eq (tgt := 85) hk dX11_reads_58 (by decide) ⟨by omega, by omega⟩ (fun h_58 => ?_) (fun h_58 => ?_)
              · exact absurd h_58 (by omega)--stop
              · refine G_rload_n hk dX11_reads_61 rfl ?_
                refine G_getR hk dX11_reads_62 flX11_22 (by decide) rfl rfl ?_
                refine G_rload_n hk dX11_reads_65 rfl ?_
                refine G_getI hk dX11_reads_66 flX11_100 (by decide) rfl rfl ?_
                have g9 := ht (4 * i + 3) (by omega)
                refine G_iald hk dX11_reads_69 (by decide) rfl (by decide) (by omega) (by omega) ?_
                rw [a49, show (S_28 44 7).toNat = 4 * i + 3 by omega]
                refine G_bipush hk dX11_reads_70 (by decide) ?_
                refine G_icmp_eq (tgt := 85) hk dX11_reads_72 (by decide) ⟨by omega, by omega⟩ ⟨by omega, by omega⟩ (fun h_72 => ?_) (fun h_72 => ?_)
                · refine G_rload_n hk dX11_reads_85 rfl ?_
                  refine G_dup hk dX11_reads_86 rfl ?_
                  refine G_getI hk dX11_reads_87 flX11_100 (by decide) rfl rfl ?_
                  refine G_iload_n hk dX11_reads_90 rfl ?_
                  refine G_if_eq (tgt := 98) hk dX11_reads_91 (by decide) ⟨by omega, by omega⟩ (fun h_91 => ?_) (fun h_91 => ?_)
                  · exact absurd h_91 (by omega)--stop
                  · refine G_iconst hk dX11_reads_94 ?_
                    refine G_goto (tgt := 99) hk dX11_reads_95 (by decide) ?_
                    refine G_iadd hk dX11_reads_99 ?_
                    refine G_putI hk dX11_reads_100 flX11_100 fpX11_7 (by decide) rfl rfl ?_
                    refine G_goto (tgt := 23) hk dX11_reads_103 (by decide) ?_
                    refine ih _ _ ⟨?_, ?_, ?_, ?_, ?_, ?_⟩
                    · simp (decide := true) only [su_app, ↓reduceIte, a8]; omega
                    · simp (decide := true) only [su_app, ↓reduceIte, a7]; omega
                    · intro p hp
                      rw [su_ne _ (show (50 : Nat) ≠ 44 by decide)]
                      by_cases e : p = i
                      · rw [e]; exact a5
                      · rw [ao (2 * p) (by omega), ao (2 * p + 1) (by omega)]
                        exact bt p (by omega)
                    · exact frR_t bf (frR_t af ⟨fun c a b => su_ne _ a, fun k a b => by simp [su_app, a]⟩)
                    · intro j hj
                      by_cases e : j < 4 * i
                      · exact bo j e
                      · by_cases e2 : j = 4 * i + 3
                        · rw [e2]; exact (okc_3 (by omega)).mpr h_72
                        · exact (rpos_ok (n := n) (i := i) (t := S 49) j (by omega) (by omega)).1
                    · omega
                · refine G_rload_n hk dX11_reads_75 rfl ?_
                  refine G_iconst hk dX11_reads_76 ?_
                  refine G_putI hk dX11_reads_77 flX11_97 fpX11_8 (by decide) rfl rfl ?_
                  refine G_rload_n hk dX11_reads_80 rfl ?_
                  refine G_getI hk dX11_reads_81 flX11_100 (by decide) rfl rfl ?_
                  try simp (decide := true) only [su_app, sr_app, ↓reduceIte]
                  exact G_iret hk hr dX11_reads_84 (by
        have hb : flt n (S 49) = (4 * i + 3 : Nat) ∧ npl n (S 49) = 0 := by
          refine flt_bad (fun j hj => ?_) (by omega) (fun _ q => h_72 ((okc_3 (by omega)).mp q)) (fun e => by omega)
          by_cases q : j < 4 * i
          · exact bo j q
          · exact (rpos_ok (n := n) (i := i) (t := S 49) j (by omega) (by omega)).1
        refine ⟨?_, ?_, ?_, ?_⟩
        · rw [hb.1]; (try simp (decide := true) only [su_app, ↓reduceIte]); exact a7
        · rw [hb.2]; simp [su_app]
        · rw [hb.2]; intro p hp; omega
        · exact frR_t bf (frR_t af ⟨fun c a b => su_ne _ a, fun k a b => by simp [su_app, b]⟩))
