/-! BatchMachineModel: removeJob -/
set_option maxHeartbeats 4000000 in
set_option maxRecDepth 100000 in
theorem l_rem1 {d n : Nat} {F : FT} {h : PH} {m jn : Nat} {A sd sq op ss es bo su se tx ba le fr un sF sR sT ad : Nat → Int} {sm th l0 bm tl nf ne nc : Int} (hj8 : jn < 8) (hex : ∀ (h1 : PH) (k : Int), isModel n h1 m (sh5 A (1 + 5 * jn) 36) sd sm th sq op l0 ss es bo su se bm tx tl ba le fr un nf ne nc sF sR sT ad → Fr h h1 m (m + 19) → QN mX6_removeJob d F 51 [some (vR m), some (vI (jn : Int)), some (vI k), none, none, none] [] n h1) : ∀ (c : Nat) (k : Nat) (h1 : PH), (k + c = 36) → (1 + 5 * jn ≤ k) → (isModel n h1 m (sh5 A (1 + 5 * jn) k) sd sm th sq op l0 ss es bo su se bm tx tl ba le fr un nf ne nc sF sR sT ad) → (Fr h h1 m (m + 19)) → QN mX6_removeJob d F 25 [some (vR m), some (vI (jn : Int)), some (vI (k : Int)), none, none, none] [] n h1 := by
  intro c
  induction c with
  | zero =>
    intro k h1 hc hk1 hM hF
    refine q_iload_n (pc' := 26) (dk_at dkX6_removeJob 17 rfl) rfl rfl ?_
    refine q_bipush (pc' := 28) (dk_at dkX6_removeJob 18 rfl) (by decide +kernel) rfl ?_
    refine q_icmp_ge (tgt := 51) (pc' := 31) (dk_at dkX6_removeJob 19 rfl) rfl rfl (by omega) (by omega) (fun c28 => ?_) (fun c28 => ?_)
    · first | (exfalso; omega; done) | exact hex _ _ (by rw [← show k = 36 by omega]; exact hM) hF
    · exfalso
      omega
  | succ c ih =>
    intro k h1 hc hk1 hM hF
    refine q_iload_n (pc' := 26) (dk_at dkX6_removeJob 17 rfl) rfl rfl ?_
    refine q_bipush (pc' := 28) (dk_at dkX6_removeJob 18 rfl) (by decide +kernel) rfl ?_
    refine q_icmp_ge (tgt := 51) (pc' := 31) (dk_at dkX6_removeJob 19 rfl) rfl rfl (by omega) (by omega) (fun c28 => ?_) (fun c28 => ?_)
    · first | (exfalso; omega; done) | exact hex _ _ (by rw [← show k = 36 by omega]; exact hM) hF
    · refine q_aload_n (pc' := 32) (dk_at dkX6_removeJob 20 rfl) rfl rfl ?_
      refine r_getf (pc' := 35) fl_RX6_7 (dk_at dkX6_removeJob 21 rfl) hM.obj rfl rfl ?_
      refine q_iload_n (pc' := 36) (dk_at dkX6_removeJob 22 rfl) rfl rfl ?_
      refine q_aload_n (pc' := 37) (dk_at dkX6_removeJob 23 rfl) rfl rfl ?_
      refine r_getf (pc' := 40) fl_RX6_7 (dk_at dkX6_removeJob 24 rfl) hM.obj rfl rfl ?_
      refine q_iload_n (pc' := 41) (dk_at dkX6_removeJob 25 rfl) rfl rfl ?_
      refine q_iconst (pc' := 42) (dk_at dkX6_removeJob 26 rfl) rfl ?_
      refine q_iadd (pc' := 43) (dk_at dkX6_removeJob 27 rfl) rfl ?_
      refine r_iald (pc' := 44) (dk_at dkX6_removeJob 28 rfl) hM.all (k + 5) (by omega) (by omega) (by decide) rfl ?_
      refine r_iast (pc' := 45) (dk_at dkX6_removeJob 29 rfl) hM.all k (by omega) (by omega) (by decide) rfl (fun hh1 ehh1 => ?_)
      have hM := hM.w_all ehh1
      have hF := hF.put ehh1 (by omega)
      refine q_iinc (pc' := 48) (L' := [some (vR m), some (vI (jn : Int)), some (vI ((k : Int) + 1)), none, none, none]) (dk_at dkX6_removeJob 30 rfl) (by decide) rfl rfl rfl ?_
      rw [show ((k : Int) + 1) = ((k + 1 : Nat) : Int) by omega]
      refine q_goto (tgt := 25) (dk_at dkX6_removeJob 31 rfl) rfl ?_
      rw [sh5_step A hk1] at hM
      exact ih (k + 1) _ (by omega) (by omega) hM hF

set_option maxHeartbeats 4000000 in
set_option maxRecDepth 100000 in
theorem l_rem2 {d n : Nat} {h : PH} {m jn c8 : Nat} {P : PlS} {A sd sq op ss es bo su se tx ba le fr un sF sR sT ad : Nat → Int} {sm th l0 bm tl nf ne nc : Int} (hj8 : jn < 8) (hkp : PlOk c8 P) (hp8 : P.sz ≤ 8) (hPP : MP A P) : ∀ (c : Nat) (k : Nat) (bg : Int) (A2 : Nat → Int) (h1 : PH) (x5 : Option PV), (k + c = P.sz) → (YN bg (pndS P (jn : Int) k)) → (RmI A P (jn : Int) k A2) → (isModel n h1 m A2 sd sm th sq op l0 ss es bo su se bm tx tl ba le fr un nf ne nc sF sR sT ad) → (Fr h h1 m (m + 19)) → QN mX6_removeJob d (FI n (fun x h' => x = A 0 ∧ ∃ A2, isModel n h' m (upz A2 64 ((fN P.od (jn : Int) P.sz : Nat) : Int)) sd sm th sq op l0 ss es bo su se bm tx tl ba le fr un nf ne nc sF sR sT ad ∧ RmI A P (jn : Int) P.sz A2 ∧ Fr h h' m (m + 19))) 68 [some (vR m), some (vI (jn : Int)), some (vI ((fN P.od (jn : Int) k : Nat) : Int)), some (vI bg), some (vI (k : Int)), x5] [] n h1 := by
  intro c
  induction c with
  | zero =>
    intro k bg A2 h1 x5 hc hbg hI2 hM hF
    refine q_iload (pc' := 70) (dk_at dkX6_removeJob 46 rfl) rfl rfl ?_
    refine q_aload_n (pc' := 71) (dk_at dkX6_removeJob 47 rfl) rfl rfl ?_
    refine r_getf (pc' := 74) fl_RX6_7 (dk_at dkX6_removeJob 48 rfl) hM.obj rfl rfl ?_
    refine q_bipush (pc' := 76) (dk_at dkX6_removeJob 49 rfl) (by decide +kernel) rfl ?_
    refine r_iald (pc' := 77) (dk_at dkX6_removeJob 50 rfl) hM.all 64 (by omega) (by omega) (by decide) rfl ?_
    rw [hI2.1 64 (by omega), hPP.1]
    refine q_icmp_ge (tgt := 175) (pc' := 80) (dk_at dkX6_removeJob 51 rfl) rfl rfl (by omega) (by omega) (fun c77 => ?_) (fun c77 => ?_)
    · refine q_aload_n (pc' := 176) (dk_at dkX6_removeJob 106 rfl) rfl rfl ?_
      refine r_getf (pc' := 179) fl_RX6_7 (dk_at dkX6_removeJob 107 rfl) hM.obj rfl rfl ?_
      refine q_bipush (pc' := 181) (dk_at dkX6_removeJob 108 rfl) (by decide +kernel) rfl ?_
      refine q_iload_n (pc' := 182) (dk_at dkX6_removeJob 109 rfl) rfl rfl ?_
      refine r_iast (pc' := 183) (dk_at dkX6_removeJob 110 rfl) hM.all 64 (by omega) (by omega) (by decide) rfl (fun hh1 ehh1 => ?_)
      have hM := hM.w_all ehh1
      have hF := hF.put ehh1 (by omega)
      refine q_aload_n (pc' := 184) (dk_at dkX6_removeJob 111 rfl) rfl rfl ?_
      refine r_getf (pc' := 187) fl_RX6_7 (dk_at dkX6_removeJob 112 rfl) hM.obj rfl rfl ?_
      refine q_iconst (pc' := 188) (dk_at dkX6_removeJob 113 rfl) rfl ?_
      refine r_iald (pc' := 189) (dk_at dkX6_removeJob 114 rfl) hM.all 0 (by omega) (by omega) (by decide) rfl ?_
      refine r_iret rfl (dk_at dkX6_removeJob 115 rfl) ?_
      have ek : k = P.sz := by omega
      rw [ek] at hM hI2
      exact ⟨by rw [upz_ne (by omega), hI2.1 0 (by omega)], A2, hM, hI2, hF⟩
    · exfalso
      omega
  | succ c ih =>
    intro k bg A2 h1 x5 hc hbg hI2 hM hF
    refine q_iload (pc' := 70) (dk_at dkX6_removeJob 46 rfl) rfl rfl ?_
    refine q_aload_n (pc' := 71) (dk_at dkX6_removeJob 47 rfl) rfl rfl ?_
    refine r_getf (pc' := 74) fl_RX6_7 (dk_at dkX6_removeJob 48 rfl) hM.obj rfl rfl ?_
    refine q_bipush (pc' := 76) (dk_at dkX6_removeJob 49 rfl) (by decide +kernel) rfl ?_
    refine r_iald (pc' := 77) (dk_at dkX6_removeJob 50 rfl) hM.all 64 (by omega) (by omega) (by decide) rfl ?_
    rw [hI2.1 64 (by omega), hPP.1]
    refine q_icmp_ge (tgt := 175) (pc' := 80) (dk_at dkX6_removeJob 51 rfl) rfl rfl (by omega) (by omega) (fun c77 => ?_) (fun c77 => ?_)
    · refine q_aload_n (pc' := 176) (dk_at dkX6_removeJob 106 rfl) rfl rfl ?_
      refine r_getf (pc' := 179) fl_RX6_7 (dk_at dkX6_removeJob 107 rfl) hM.obj rfl rfl ?_
      refine q_bipush (pc' := 181) (dk_at dkX6_removeJob 108 rfl) (by decide +kernel) rfl ?_
      refine q_iload_n (pc' := 182) (dk_at dkX6_removeJob 109 rfl) rfl rfl ?_
      refine r_iast (pc' := 183) (dk_at dkX6_removeJob 110 rfl) hM.all 64 (by omega) (by omega) (by decide) rfl (fun hh1 ehh1 => ?_)
      have hM := hM.w_all ehh1
      have hF := hF.put ehh1 (by omega)
      refine q_aload_n (pc' := 184) (dk_at dkX6_removeJob 111 rfl) rfl rfl ?_
      refine r_getf (pc' := 187) fl_RX6_7 (dk_at dkX6_removeJob 112 rfl) hM.obj rfl rfl ?_
      refine q_iconst (pc' := 188) (dk_at dkX6_removeJob 113 rfl) rfl ?_
      refine r_iald (pc' := 189) (dk_at dkX6_removeJob 114 rfl) hM.all 0 (by omega) (by omega) (by decide) rfl ?_
      refine r_iret rfl (dk_at dkX6_removeJob 115 rfl) ?_
      have ek : k = P.sz := by omega
      rw [ek] at hM hI2
      exact ⟨by rw [upz_ne (by omega), hI2.1 0 (by omega)], A2, hM, hI2, hF⟩
    · have hbk := hPP.2.2 k (by omega)
      have hbk : YN (A (73 + k)) (BgF P.en P.bc k) := hbk
      have hbr := hbk.r
      have h4k := hI2.2.2.2 k (by omega) (by omega)
      have hod : A (65 + k) = P.od k := hPP.2.1 k (by omega)
      have hor := hkp.2.2.1 k
      have hfl := fN_le P.od (jn : Int) k
      have hbgr := hbg.r
      refine q_aload_n (pc' := 81) (dk_at dkX6_removeJob 52 rfl) rfl rfl ?_
      refine r_getf (pc' := 84) fl_RX6_7 (dk_at dkX6_removeJob 53 rfl) hM.obj rfl rfl ?_
      refine q_bipush (pc' := 86) (dk_at dkX6_removeJob 54 rfl) (by decide +kernel) rfl ?_
      refine q_iload (pc' := 88) (dk_at dkX6_removeJob 55 rfl) rfl rfl ?_
      refine q_iadd (pc' := 89) (dk_at dkX6_removeJob 56 rfl) rfl ?_
      refine r_iald (pc' := 90) (dk_at dkX6_removeJob 57 rfl) hM.all (65 + k) (by omega) (by omega) (by decide) rfl ?_
      rw [h4k.1, hod]
      refine q_istore (pc' := 92) (L' := [some (vR m), some (vI (jn : Int)), some (vI ((fN P.od (jn : Int) k : Nat) : Int)), some (vI bg), some (vI (k : Int)), some (vI (P.od k))]) (dk_at dkX6_removeJob 58 rfl) (by decide) rfl rfl ?_
      refine q_join 115 [some (vR m), some (vI (jn : Int)), some (vI ((fN P.od (jn : Int) k : Nat) : Int)), some (vI bg), some (vI (k : Int)), some (vI (P.od k))] [] (fun jx => YN jx (pndL P (jn : Int) k)) (fun jx115 ybg => ?_) (fun J115 => ?_)
      · have ybr := ybg.r
        refine q_istore_n (pc' := 116) (L' := [some (vR m), some (vI (jn : Int)), some (vI ((fN P.od (jn : Int) k : Nat) : Int)), some (vI jx115), some (vI (k : Int)), some (vI (P.od k))]) (dk_at dkX6_removeJob 72 rfl) (by decide) rfl rfl ?_
        refine q_iload (pc' := 118) (dk_at dkX6_removeJob 73 rfl) rfl rfl ?_
        refine q_iload_n (pc' := 119) (dk_at dkX6_removeJob 74 rfl) rfl rfl ?_
        refine q_icmp_eq (tgt := 169) (pc' := 122) (dk_at dkX6_removeJob 75 rfl) rfl rfl (by omega) (by omega) (fun c119 => ?_) (fun c119 => ?_)
        · refine q_iinc (pc' := 172) (L' := [some (vR m), some (vI (jn : Int)), some (vI ((fN P.od (jn : Int) k : Nat) : Int)), some (vI jx115), some (vI ((k : Int) + 1)), some (vI (P.od k))]) (dk_at dkX6_removeJob 104 rfl) (by decide) rfl rfl rfl ?_
          rw [show ((k : Int) + 1) = ((k + 1 : Nat) : Int) by omega]
          refine q_goto (tgt := 68) (dk_at dkX6_removeJob 105 rfl) rfl ?_
          have ed : P.od k = (jn : Int) := by omega
          rw [show ((fN P.od (jn : Int) k : Nat) : Int) = ((fN P.od (jn : Int) (k + 1) : Nat) : Int) by rw [fN_drop ed]]
          refine ih (k + 1) _ _ _ _ (by omega) ?_ (RmI_drop ed hI2) hM hF
          rcases ybg with ⟨z1, z2⟩ | ⟨z1, z2⟩
          · exact Or.inl ⟨z1, (pnd_drop ed).mpr z2⟩
          · exact Or.inr ⟨z1, fun y => z2 ((pnd_drop ed).mp y)⟩
        · refine q_aload_n (pc' := 123) (dk_at dkX6_removeJob 76 rfl) rfl rfl ?_
          refine r_getf (pc' := 126) fl_RX6_7 (dk_at dkX6_removeJob 77 rfl) hM.obj rfl rfl ?_
          refine q_bipush (pc' := 128) (dk_at dkX6_removeJob 78 rfl) (by decide +kernel) rfl ?_
          refine q_iload_n (pc' := 129) (dk_at dkX6_removeJob 79 rfl) rfl rfl ?_
          refine q_iadd (pc' := 130) (dk_at dkX6_removeJob 80 rfl) rfl ?_
          refine q_iload (pc' := 132) (dk_at dkX6_removeJob 81 rfl) rfl rfl ?_
          refine q_iload_n (pc' := 133) (dk_at dkX6_removeJob 82 rfl) rfl rfl ?_
          refine q_icmp_le (tgt := 143) (pc' := 136) (dk_at dkX6_removeJob 83 rfl) rfl rfl (by omega) (by omega) (fun c133 => ?_) (fun c133 => ?_)
          · refine q_iload (pc' := 145) (dk_at dkX6_removeJob 88 rfl) rfl rfl ?_
            refine r_iast (pc' := 146) (dk_at dkX6_removeJob 89 rfl) hM.all (65 + (fN P.od (jn : Int) k)) (by omega) (by omega) (by decide) rfl (fun hh2 ehh2 => ?_)
            have hM := hM.w_all ehh2
            have hF := hF.put ehh2 (by omega)
            refine q_aload_n (pc' := 147) (dk_at dkX6_removeJob 90 rfl) rfl rfl ?_
            refine r_getf (pc' := 150) fl_RX6_7 (dk_at dkX6_removeJob 91 rfl) hM.obj rfl rfl ?_
            refine q_bipush (pc' := 152) (dk_at dkX6_removeJob 92 rfl) (by decide +kernel) rfl ?_
            refine q_iload_n (pc' := 153) (dk_at dkX6_removeJob 93 rfl) rfl rfl ?_
            refine q_iadd (pc' := 154) (dk_at dkX6_removeJob 94 rfl) rfl ?_
            refine q_iload_n (pc' := 155) (dk_at dkX6_removeJob 95 rfl) rfl rfl ?_
            refine q_if_eq (tgt := 162) (pc' := 158) (dk_at dkX6_removeJob 96 rfl) rfl rfl (by omega) (fun c155 => ?_) (fun c155 => ?_)
            · refine q_iconst (pc' := 163) (dk_at dkX6_removeJob 99 rfl) rfl ?_
              refine r_iast (pc' := 164) (dk_at dkX6_removeJob 100 rfl) hM.all (73 + (fN P.od (jn : Int) k)) (by omega) (by omega) (by decide) rfl (fun hh3 ehh3 => ?_)
              have hM := hM.w_all ehh3
              have hF := hF.put ehh3 (by omega)
              refine q_iconst (pc' := 165) (dk_at dkX6_removeJob 101 rfl) rfl ?_
              refine q_istore_n (pc' := 166) (L' := [some (vR m), some (vI (jn : Int)), some (vI ((fN P.od (jn : Int) k : Nat) : Int)), some (vI 0), some (vI (k : Int)), some (vI (P.od k))]) (dk_at dkX6_removeJob 102 rfl) (by decide) rfl rfl ?_
              refine q_iinc (pc' := 169) (L' := [some (vR m), some (vI (jn : Int)), some (vI (((fN P.od (jn : Int) k : Nat) : Int) + 1)), some (vI 0), some (vI (k : Int)), some (vI (P.od k))]) (dk_at dkX6_removeJob 103 rfl) (by decide) rfl rfl rfl ?_
              rw [show (((fN P.od (jn : Int) k : Nat) : Int) + 1) = ((((fN P.od (jn : Int) k) + 1) : Nat) : Int) by omega]
              refine q_iinc (pc' := 172) (L' := [some (vR m), some (vI (jn : Int)), some (vI ((((fN P.od (jn : Int) k) + 1) : Nat) : Int)), some (vI 0), some (vI ((k : Int) + 1)), some (vI (P.od k))]) (dk_at dkX6_removeJob 104 rfl) (by decide) rfl rfl rfl ?_
              rw [show ((k : Int) + 1) = ((k + 1 : Nat) : Int) by omega]
              refine q_goto (tgt := 68) (dk_at dkX6_removeJob 105 rfl) rfl ?_
              have ed : P.od k ≠ (jn : Int) := by omega
              rw [show ((fN P.od (jn : Int) k + 1 : Nat) : Int) = ((fN P.od (jn : Int) (k + 1) : Nat) : Int) by rw [fN_keep ed]]
              refine ih (k + 1) _ _ _ _ (by omega) (Or.inr ⟨rfl, pnd_keep ed⟩) (RmI_keep hkp (by omega) ed hI2 (by unfold dnJ; first | rw [if_pos (by omega)] | rw [if_neg (by omega)]) ?_) hM hF
              rcases ybg with ⟨z1, z2⟩ | ⟨z1, z2⟩
              · first | (exfalso; omega; done) | exact Or.inl ⟨rfl, z2⟩
              · first | (exfalso; omega; done) | exact Or.inr ⟨rfl, z2⟩
            · refine q_iconst (pc' := 159) (dk_at dkX6_removeJob 97 rfl) rfl ?_
              refine q_goto (tgt := 163) (dk_at dkX6_removeJob 98 rfl) rfl ?_
              refine r_iast (pc' := 164) (dk_at dkX6_removeJob 100 rfl) hM.all (73 + (fN P.od (jn : Int) k)) (by omega) (by omega) (by decide) rfl (fun hh4 ehh4 => ?_)
              have hM := hM.w_all ehh4
              have hF := hF.put ehh4 (by omega)
              refine q_iconst (pc' := 165) (dk_at dkX6_removeJob 101 rfl) rfl ?_
              refine q_istore_n (pc' := 166) (L' := [some (vR m), some (vI (jn : Int)), some (vI ((fN P.od (jn : Int) k : Nat) : Int)), some (vI 0), some (vI (k : Int)), some (vI (P.od k))]) (dk_at dkX6_removeJob 102 rfl) (by decide) rfl rfl ?_
              refine q_iinc (pc' := 169) (L' := [some (vR m), some (vI (jn : Int)), some (vI (((fN P.od (jn : Int) k : Nat) : Int) + 1)), some (vI 0), some (vI (k : Int)), some (vI (P.od k))]) (dk_at dkX6_removeJob 103 rfl) (by decide) rfl rfl rfl ?_
              rw [show (((fN P.od (jn : Int) k : Nat) : Int) + 1) = ((((fN P.od (jn : Int) k) + 1) : Nat) : Int) by omega]
              refine q_iinc (pc' := 172) (L' := [some (vR m), some (vI (jn : Int)), some (vI ((((fN P.od (jn : Int) k) + 1) : Nat) : Int)), some (vI 0), some (vI ((k : Int) + 1)), some (vI (P.od k))]) (dk_at dkX6_removeJob 104 rfl) (by decide) rfl rfl rfl ?_
              rw [show ((k : Int) + 1) = ((k + 1 : Nat) : Int) by omega]
              refine q_goto (tgt := 68) (dk_at dkX6_removeJob 105 rfl) rfl ?_
              have ed : P.od k ≠ (jn : Int) := by omega
              rw [show ((fN P.od (jn : Int) k + 1 : Nat) : Int) = ((fN P.od (jn : Int) (k + 1) : Nat) : Int) by rw [fN_keep ed]]
              refine ih (k + 1) _ _ _ _ (by omega) (Or.inr ⟨rfl, pnd_keep ed⟩) (RmI_keep hkp (by omega) ed hI2 (by unfold dnJ; first | rw [if_pos (by omega)] | rw [if_neg (by omega)]) ?_) hM hF
              rcases ybg with ⟨z1, z2⟩ | ⟨z1, z2⟩
              · first | (exfalso; omega; done) | exact Or.inl ⟨rfl, z2⟩
              · first | (exfalso; omega; done) | exact Or.inr ⟨rfl, z2⟩
          · refine q_iload (pc' := 138) (dk_at dkX6_removeJob 84 rfl) rfl rfl ?_
            refine q_iconst (pc' := 139) (dk_at dkX6_removeJob 85 rfl) rfl ?_
            refine q_isub (pc' := 140) (dk_at dkX6_removeJob 86 rfl) rfl ?_
            refine q_goto (tgt := 145) (dk_at dkX6_removeJob 87 rfl) rfl ?_
            refine r_iast (pc' := 146) (dk_at dkX6_removeJob 89 rfl) hM.all (65 + (fN P.od (jn : Int) k)) (by omega) (by omega) (by decide) rfl (fun hh5 ehh5 => ?_)
            have hM := hM.w_all ehh5
            have hF := hF.put ehh5 (by omega)
            refine q_aload_n (pc' := 147) (dk_at dkX6_removeJob 90 rfl) rfl rfl ?_
            refine r_getf (pc' := 150) fl_RX6_7 (dk_at dkX6_removeJob 91 rfl) hM.obj rfl rfl ?_
            refine q_bipush (pc' := 152) (dk_at dkX6_removeJob 92 rfl) (by decide +kernel) rfl ?_
            refine q_iload_n (pc' := 153) (dk_at dkX6_removeJob 93 rfl) rfl rfl ?_
            refine q_iadd (pc' := 154) (dk_at dkX6_removeJob 94 rfl) rfl ?_
            refine q_iload_n (pc' := 155) (dk_at dkX6_removeJob 95 rfl) rfl rfl ?_
            refine q_if_eq (tgt := 162) (pc' := 158) (dk_at dkX6_removeJob 96 rfl) rfl rfl (by omega) (fun c155 => ?_) (fun c155 => ?_)
            · refine q_iconst (pc' := 163) (dk_at dkX6_removeJob 99 rfl) rfl ?_
              refine r_iast (pc' := 164) (dk_at dkX6_removeJob 100 rfl) hM.all (73 + (fN P.od (jn : Int) k)) (by omega) (by omega) (by decide) rfl (fun hh6 ehh6 => ?_)
              have hM := hM.w_all ehh6
              have hF := hF.put ehh6 (by omega)
              refine q_iconst (pc' := 165) (dk_at dkX6_removeJob 101 rfl) rfl ?_
              refine q_istore_n (pc' := 166) (L' := [some (vR m), some (vI (jn : Int)), some (vI ((fN P.od (jn : Int) k : Nat) : Int)), some (vI 0), some (vI (k : Int)), some (vI (P.od k))]) (dk_at dkX6_removeJob 102 rfl) (by decide) rfl rfl ?_
              refine q_iinc (pc' := 169) (L' := [some (vR m), some (vI (jn : Int)), some (vI (((fN P.od (jn : Int) k : Nat) : Int) + 1)), some (vI 0), some (vI (k : Int)), some (vI (P.od k))]) (dk_at dkX6_removeJob 103 rfl) (by decide) rfl rfl rfl ?_
              rw [show (((fN P.od (jn : Int) k : Nat) : Int) + 1) = ((((fN P.od (jn : Int) k) + 1) : Nat) : Int) by omega]
              refine q_iinc (pc' := 172) (L' := [some (vR m), some (vI (jn : Int)), some (vI ((((fN P.od (jn : Int) k) + 1) : Nat) : Int)), some (vI 0), some (vI ((k : Int) + 1)), some (vI (P.od k))]) (dk_at dkX6_removeJob 104 rfl) (by decide) rfl rfl rfl ?_
              rw [show ((k : Int) + 1) = ((k + 1 : Nat) : Int) by omega]
              refine q_goto (tgt := 68) (dk_at dkX6_removeJob 105 rfl) rfl ?_
              have ed : P.od k ≠ (jn : Int) := by omega
              rw [show ((fN P.od (jn : Int) k + 1 : Nat) : Int) = ((fN P.od (jn : Int) (k + 1) : Nat) : Int) by rw [fN_keep ed]]
              refine ih (k + 1) _ _ _ _ (by omega) (Or.inr ⟨rfl, pnd_keep ed⟩) (RmI_keep hkp (by omega) ed hI2 (by unfold dnJ; first | rw [if_pos (by omega)] | rw [if_neg (by omega)]) ?_) hM hF
              rcases ybg with ⟨z1, z2⟩ | ⟨z1, z2⟩
              · first | (exfalso; omega; done) | exact Or.inl ⟨rfl, z2⟩
              · first | (exfalso; omega; done) | exact Or.inr ⟨rfl, z2⟩
            · refine q_iconst (pc' := 159) (dk_at dkX6_removeJob 97 rfl) rfl ?_
              refine q_goto (tgt := 163) (dk_at dkX6_removeJob 98 rfl) rfl ?_
              refine r_iast (pc' := 164) (dk_at dkX6_removeJob 100 rfl) hM.all (73 + (fN P.od (jn : Int) k)) (by omega) (by omega) (by decide) rfl (fun hh7 ehh7 => ?_)
              have hM := hM.w_all ehh7
              have hF := hF.put ehh7 (by omega)
              refine q_iconst (pc' := 165) (dk_at dkX6_removeJob 101 rfl) rfl ?_
              refine q_istore_n (pc' := 166) (L' := [some (vR m), some (vI (jn : Int)), some (vI ((fN P.od (jn : Int) k : Nat) : Int)), some (vI 0), some (vI (k : Int)), some (vI (P.od k))]) (dk_at dkX6_removeJob 102 rfl) (by decide) rfl rfl ?_
              refine q_iinc (pc' := 169) (L' := [some (vR m), some (vI (jn : Int)), some (vI (((fN P.od (jn : Int) k : Nat) : Int) + 1)), some (vI 0), some (vI (k : Int)), some (vI (P.od k))]) (dk_at dkX6_removeJob 103 rfl) (by decide) rfl rfl rfl ?_
              rw [show (((fN P.od (jn : Int) k : Nat) : Int) + 1) = ((((fN P.od (jn : Int) k) + 1) : Nat) : Int) by omega]
              refine q_iinc (pc' := 172) (L' := [some (vR m), some (vI (jn : Int)), some (vI ((((fN P.od (jn : Int) k) + 1) : Nat) : Int)), some (vI 0), some (vI ((k : Int) + 1)), some (vI (P.od k))]) (dk_at dkX6_removeJob 104 rfl) (by decide) rfl rfl rfl ?_
              rw [show ((k : Int) + 1) = ((k + 1 : Nat) : Int) by omega]
              refine q_goto (tgt := 68) (dk_at dkX6_removeJob 105 rfl) rfl ?_
              have ed : P.od k ≠ (jn : Int) := by omega
              rw [show ((fN P.od (jn : Int) k + 1 : Nat) : Int) = ((fN P.od (jn : Int) (k + 1) : Nat) : Int) by rw [fN_keep ed]]
              refine ih (k + 1) _ _ _ _ (by omega) (Or.inr ⟨rfl, pnd_keep ed⟩) (RmI_keep hkp (by omega) ed hI2 (by unfold dnJ; first | rw [if_pos (by omega)] | rw [if_neg (by omega)]) ?_) hM hF
              rcases ybg with ⟨z1, z2⟩ | ⟨z1, z2⟩
              · first | (exfalso; omega; done) | exact Or.inl ⟨rfl, z2⟩
              · first | (exfalso; omega; done) | exact Or.inr ⟨rfl, z2⟩
      refine q_iload_n (pc' := 93) (dk_at dkX6_removeJob 59 rfl) rfl rfl ?_
      refine q_if_ne (tgt := 110) (pc' := 96) (dk_at dkX6_removeJob 60 rfl) rfl rfl (by omega) (fun c93 => ?_) (fun c93 => ?_)
      · refine q_iconst (pc' := 111) (dk_at dkX6_removeJob 69 rfl) rfl ?_
        refine q_goto (tgt := 115) (dk_at dkX6_removeJob 70 rfl) rfl ?_
        exact J115 _ (Or.inl ⟨rfl, pnd_or.mpr (Or.inl (hbg.t c93))⟩)
      · refine q_aload_n (pc' := 97) (dk_at dkX6_removeJob 61 rfl) rfl rfl ?_
        refine r_getf (pc' := 100) fl_RX6_7 (dk_at dkX6_removeJob 62 rfl) hM.obj rfl rfl ?_
        refine q_bipush (pc' := 102) (dk_at dkX6_removeJob 63 rfl) (by decide +kernel) rfl ?_
        refine q_iload (pc' := 104) (dk_at dkX6_removeJob 64 rfl) rfl rfl ?_
        refine q_iadd (pc' := 105) (dk_at dkX6_removeJob 65 rfl) rfl ?_
        refine r_iald (pc' := 106) (dk_at dkX6_removeJob 66 rfl) hM.all (73 + k) (by omega) (by omega) (by decide) rfl ?_
        rw [h4k.2]
        refine q_iconst (pc' := 107) (dk_at dkX6_removeJob 67 rfl) rfl ?_
        refine q_icmp_ne (tgt := 114) (pc' := 110) (dk_at dkX6_removeJob 68 rfl) rfl rfl (by omega) (by omega) (fun c107 => ?_) (fun c107 => ?_)
        · refine q_iconst (pc' := 115) (dk_at dkX6_removeJob 71 rfl) rfl ?_
          exact J115 _ (Or.inr ⟨rfl, fun z => (pnd_or.mp z).elim (hbg.f (by omega)) (hbk.f (by omega))⟩)
        · refine q_iconst (pc' := 111) (dk_at dkX6_removeJob 69 rfl) rfl ?_
          refine q_goto (tgt := 115) (dk_at dkX6_removeJob 70 rfl) rfl ?_
          exact J115 _ (Or.inl ⟨rfl, pnd_or.mpr (Or.inr (hbk.t (by omega)))⟩)

set_option maxHeartbeats 4000000 in
set_option maxRecDepth 100000 in
theorem k_M_removeJob {d n : Nat} {h : PH} {m : Nat} {S : Shp} {P : PlS} {kn bs : Int} {sv tl : Nat} {x : Nat → Snp} {tx : Nat → Int} {th : Int} {j : Int} (hd : 30 ≤ d) (hI : MOI n h m th ((S, P, kn, bs), sv, x, tx, tl)) (hO : BOk ((S, P, kn, bs), sv, x, tx, tl)) (hi1 : IR j) : CtrI mX6_removeJob d [vR m, vI j] n h (fun v h' => (jOk S j ∧ v = (S.cnt : Int) - 1 ∧ MOI n h' m 0 ((S.drop j.toNat, P.drop j, 0, bs), pshN sv, (pshX sv x (S, P, kn, bs)), tx, tl) ∧ Fr h h' m (m + 19)) ∨ (¬ jOk S j ∧ MOI n h' m 1 ((S, P, kn, bs), sv, x, tx, tl) ∧ Fr h h' m (m + 19))) := by
  obtain ⟨A, sd, sq, op, ss, es, bo, su, se, tx1, ba, le, fr, un, sF, sR, sT, ad, l0, bm, nf, ne, nc, hM, ⟨hR, hP⟩, hSv, hTx, hL⟩ := hI
  have hM : isModel n h m A sd (sv : Int) th sq op l0 ss es bo su se bm tx1 (tl : Int) ba le fr un nf ne nc sF sR sT ad := hM
  have hR : MR A S := hR
  have hP : MP A P := hP
  have hSv : MSv sd sv x := hSv
  have hTx : ∀ i, i < tl → tx1 i = tx i := hTx
  obtain ⟨hko, hsv, hks, htl, htx⟩ := hO
  have hko : SnOk (S, P, kn, bs) := hko
  have hsv : sv ≤ 4 := hsv
  have hks : ∀ i, i < sv → SnOk (x i) := hks
  have htl : tl ≤ 60 := htl
  have htx : ∀ i, 0 ≤ tx i ∧ tx i ≤ 127 := htx
  have hk : Sok S := hko.1
  have hc8 := hk.c
  have hkp : Pok S.cnt P.od P.en P.bc P.sz := hko.2.1
  have hp8 : P.sz ≤ 8 := hkp.1
  have hpb : P.bc ≤ P.sz := hkp.2.1
  have hA0 := hR.c
  have hF : Fr h h m (m + 19) := Fr.rf
  refine q_beginI (L := [some (vR m), some (vI j), none, none, none, none]) rfl ?_
  refine q_aload_n (pc' := 1) (dk_at dkX6_removeJob 0 rfl) rfl rfl ?_
  refine q_aload_n (pc' := 2) (dk_at dkX6_removeJob 1 rfl) rfl rfl ?_
  refine q_iload_n (pc' := 3) (dk_at dkX6_removeJob 2 rfl) rfl rfl ?_
  refine r_cVI (pc' := 6) (As := [vI j]) (S := [vR m]) cv_RX6_98 (dk_at dkX6_removeJob 3 rfl) hM.obj rfl (k_M_isJob (d := 1) (by omega) hR hc8 (by omega) hM) (by omega) (Nat.zero_le _) (Nat.zero_le _) rfl (Nat.le_of_ble_eq_true rfl) rfl (Nat.le_of_ble_eq_true rfl) rfl (fun xx1 hh2 hphh2 => ?_)
  obtain ⟨qq3, y3⟩ := hphh2
  rw [qq3]
  have yr3 := y3.r
  refine q_iconst (pc' := 7) (dk_at dkX6_removeJob 4 rfl) rfl ?_
  refine r_cVI (pc' := 10) (As := [vI xx1, vI 1]) (S := []) cv_RX6_91 (dk_at dkX6_removeJob 5 rfl) hM.obj rfl (k_M_goes (d := 0) (by omega) (by omega) hM) (by omega) (Nat.zero_le _) (Nat.zero_le _) rfl (Nat.le_of_ble_eq_true rfl) rfl (Nat.le_of_ble_eq_true rfl) rfl (fun xx4 hh5 hphh5 => ?_)
  obtain ⟨y7, hM, hGf⟩ := hphh5
  have hF := hF.tr hGf (by omega)
  have yr7 := y7.r
  refine q_if_ne (tgt := 15) (pc' := 13) (dk_at dkX6_removeJob 6 rfl) rfl rfl (by omega) (fun c10 => ?_) (fun c10 => ?_)
  · have yy := y7.t (by omega)
    rw [if_neg (by omega), if_neg (by omega)] at hM
    have yj0 : 0 ≤ j ∧ j < (S.cnt : Int) := y3.t (by omega)
    obtain ⟨jn, rfl⟩ : ∃ z : Nat, j = (z : Int) := ⟨j.toNat, by omega⟩
    refine q_aload_n (pc' := 16) (dk_at dkX6_removeJob 9 rfl) rfl rfl ?_
    refine r_cVV (pc' := 19) (As := []) (S := []) cv_RX6_95 (dk_at dkX6_removeJob 10 rfl) hM.obj rfl (k_M_save (d := 0) (c := (S, P, kn, bs)) hko hks hsv ⟨hR, hP⟩ hSv hM) (by omega) (Nat.zero_le _) (Nat.zero_le _) rfl (Nat.le_of_ble_eq_true rfl) rfl (Nat.le_of_ble_eq_true rfl) rfl (fun hh7 hphh7 => ?_)
    obtain ⟨sd2, hM, hSv, hGf⟩ := hphh7
    have hF := hF.tr hGf (by omega)
    refine q_iconst (pc' := 20) (dk_at dkX6_removeJob 11 rfl) rfl ?_
    refine q_iconst (pc' := 21) (dk_at dkX6_removeJob 12 rfl) rfl ?_
    refine q_iload_n (pc' := 22) (dk_at dkX6_removeJob 13 rfl) rfl rfl ?_
    refine q_imul (pc' := 23) (dk_at dkX6_removeJob 14 rfl) rfl ?_
    refine q_iadd (pc' := 24) (dk_at dkX6_removeJob 15 rfl) rfl ?_
    refine q_istore_n (pc' := 25) (L' := [some (vR m), some (vI (jn : Int)), some (vI (1 + (5 * (jn : Int)))), none, none, none]) (dk_at dkX6_removeJob 16 rfl) (by decide) rfl rfl ?_
    refine l_rem1 (A := A) (h := h) (by omega) ?_ (36 - (1 + 5 * jn)) (1 + 5 * jn) _ (by omega) (by omega) (by rw [sh5_0]; exact hM) hF
    intro h1 k hM hF
    refine q_aload_n (pc' := 52) (dk_at dkX6_removeJob 32 rfl) rfl rfl ?_
    refine r_getf (pc' := 55) fl_RX6_7 (dk_at dkX6_removeJob 33 rfl) hM.obj rfl rfl ?_
    refine q_iconst (pc' := 56) (dk_at dkX6_removeJob 34 rfl) rfl ?_
    refine q_dup2 (pc' := 57) (fun _ => rfl) (fun _ => rfl) (dk_at dkX6_removeJob 35 rfl) rfl ?_
    refine r_iald (pc' := 58) (dk_at dkX6_removeJob 36 rfl) hM.all 0 (by omega) (by omega) (by decide) rfl ?_
    refine q_iconst (pc' := 59) (dk_at dkX6_removeJob 37 rfl) rfl ?_
    refine q_isub (pc' := 60) (dk_at dkX6_removeJob 38 rfl) rfl ?_
    refine r_iast (pc' := 61) (dk_at dkX6_removeJob 39 rfl) hM.all 0 (by omega) (by omega) (by decide) rfl (fun hh8 ehh8 => ?_)
    have hM := hM.w_all ehh8
    have hF := hF.put ehh8 (by omega)
    refine q_iconst (pc' := 62) (dk_at dkX6_removeJob 40 rfl) rfl ?_
    refine q_istore_n (pc' := 63) (L' := [some (vR m), some (vI (jn : Int)), some (vI 0), none, none, none]) (dk_at dkX6_removeJob 41 rfl) (by decide) rfl rfl ?_
    refine q_iconst (pc' := 64) (dk_at dkX6_removeJob 42 rfl) rfl ?_
    refine q_istore_n (pc' := 65) (L' := [some (vR m), some (vI (jn : Int)), some (vI 0), some (vI 0), none, none]) (dk_at dkX6_removeJob 43 rfl) (by decide) rfl rfl ?_
    refine q_iconst (pc' := 66) (dk_at dkX6_removeJob 44 rfl) rfl ?_
    refine q_istore (pc' := 68) (L' := [some (vR m), some (vI (jn : Int)), some (vI 0), some (vI 0), some (vI 0), none]) (dk_at dkX6_removeJob 45 rfl) (by decide) rfl rfl ?_
    have hPP : MP (upz (sh5 A (1 + 5 * jn) 36) 0 ((sh5 A (1 + 5 * jn) 36) 0 - 1)) P := hP.cong (fun k k1 k2 => by rw [upz_ne (by omega)]; unfold sh5; rw [if_neg (by omega)]) hp8
    have hA1 : sh5 A (1 + 5 * jn) 36 0 = (S.cnt : Int) := by unfold sh5; rw [if_neg (by omega)]; exact hA0
    refine QNI_mono (l_rem2 (jn := jn) (P := P) (h := h) (by omega) hkp hp8 hPP P.sz 0 0 _ _ _ (by omega) (Or.inr ⟨rfl, fun ⟨b, _, b2, _⟩ => absurd b2 (Nat.not_lt_zero _)⟩) RmI_0 hM hF) (fun v h' z => ?_)
    obtain ⟨z1, A2, hM, hI2, hF⟩ := z
    obtain ⟨d1, d2, d3, d4⟩ := drop_bg (o := P.od) (x := (jn : Int)) P.bc hkp.up
    have hbb := hkp.2.2.2.2.1
    have hfl := fN_le P.od (jn : Int) P.sz
    refine Or.inl ⟨yj0, by rw [z1, upz_eq, hA1], ⟨_, _, _, _, _, _, _, _, _, _, _, _, _, _, _, _, _, _, _, _, _, _, _, hM, ⟨hR.drop hc8 (j := jn) (by omega) ?_ (fun q q1 q2 => ?_), ?_, fun k hk => ?_, fun k hk => ?_⟩, hSv, hTx, hL⟩, hF⟩
    · rw [upz_ne (by omega), hI2.1 0 (by omega), upz_eq, hA1]
    · rw [upz_ne (by omega), hI2.1 q (by omega), upz_ne (by omega)]
    · rw [upz_eq]
      show _ = ((fN P.od (jn : Int) (bgn P.en P.bc) : Nat) : Int)
      rw [hbb]
    · have hk : k < fN P.od (jn : Int) (bgn P.en P.bc) := hk
      rw [hbb] at hk
      show upz A2 64 _ (65 + k) = dO P.od (jn : Int) (bgn P.en P.bc) k
      rw [upz_ne (by omega), hbb]
      exact hI2.2.1 k hk
    · have hk : k < fN P.od (jn : Int) (bgn P.en P.bc) := hk
      rw [hbb] at hk
      show YN (upz A2 64 _ (73 + k)) (BgF (bE P.od P.en (jn : Int) P.bc) (bN P.od P.en (jn : Int) P.bc) k)
      rw [upz_ne (by omega)]
      rcases hI2.2.2.1 k hk with ⟨y1, y2⟩ | ⟨y1, y2⟩
      · exact Or.inl ⟨y1, (d2 k).mpr y2⟩
      · exact Or.inr ⟨y1, fun y => y2 ((d2 k).mp y)⟩
  · refine q_iconst (pc' := 14) (dk_at dkX6_removeJob 7 rfl) rfl ?_
    refine r_iret rfl (dk_at dkX6_removeJob 8 rfl) ?_
    rw [if_pos (by have := y7.f (by omega); have := y3.r; omega)] at hM
    exact Or.inr ⟨y3.f (by have := y7.f (by omega); have := y3.r; omega), ⟨_, _, _, _, _, _, _, _, _, _, _, _, _, _, _, _, _, _, _, _, _, _, _, hM, ⟨hR, hP⟩, hSv, hTx, hL⟩, hF⟩
