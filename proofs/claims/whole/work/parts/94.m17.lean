/-! BatchMachineModel: the table of rests -/
set_option maxHeartbeats 4000000 in
set_option maxRecDepth 100000 in
theorem l_lr2 {d n : Nat} {h : PH} {m : Nat} {S : Shp} {fu : Nat} {A sd sq op ss es bo su se tx ba sF sR sT ad : Nat → Int} {sm th l0 bm tl : Int} (hd : 8 ≤ d) (hR : MR A S) (hk : Sok S) (hSt : SetsM S sF sR sT) (hc8 : S.cnt ≤ 8) (hp8 : 2 ^ S.cnt ≤ 256) (hfu : fu + 1 = 2 ^ S.cnt) {k : Nat} (hk4 : 4 ≤ k) (hk5 : k < 4 * 2 ^ S.cnt) (hex : ∀ (le1 fr1 un1 : Nat → Int) (nf1 ne1 nc1 : Int) (h1 : PH) (x3 : Option PV), DBs S k le1 → LInv le1 fr1 un1 → isModel n h1 m A sd sm th sq op l0 ss es bo su se bm tx tl ba le1 fr1 un1 nf1 ne1 nc1 sF sR sT ad → Fr h h1 m (m + 19) → QN mX6_laysRests d (FV n (fun h' => ∃ (le1 fr1 un1 : Nat → Int) (nf1 ne1 nc1 : Int), isModel n h' m A sd sm th sq op l0 ss es bo su se bm tx tl ba le1 fr1 un1 nf1 ne1 nc1 sF sR sT ad ∧ SetsM S sF sR sT ∧ DBs S 4 le1 ∧ LInv le1 fr1 un1 ∧ Fr h h' m (m + 19))) 100 [some (vR m), some (vI (fu : Int)), some (vI (k : Int)), x3] [] n h1) : ∀ (c : Nat) (t : Nat) (le1 fr1 un1 : Nat → Int) (nf1 ne1 nc1 : Int) (h1 : PH), (t + c = 1200) → (DBs S (k + 1) le1) → (∀ t', t' < t → DBe S k t' (le1 (1200 * k + t'))) → (LInv le1 fr1 un1) → ((fr1 k = 0 ∧ un1 k = 1199)) → (isModel n h1 m A sd sm th sq op l0 ss es bo su se bm tx tl ba le1 fr1 un1 nf1 ne1 nc1 sF sR sT ad) → (Fr h h1 m (m + 19)) → QN mX6_laysRests d (FV n (fun h' => ∃ (le1 fr1 un1 : Nat → Int) (nf1 ne1 nc1 : Int), isModel n h' m A sd sm th sq op l0 ss es bo su se bm tx tl ba le1 fr1 un1 nf1 ne1 nc1 sF sR sT ad ∧ SetsM S sF sR sT ∧ DBs S 4 le1 ∧ LInv le1 fr1 un1 ∧ Fr h h' m (m + 19))) 50 [some (vR m), some (vI (fu : Int)), some (vI (k : Int)), some (vI (t : Int))] [] n h1 := by
  intro c
  induction c with
  | zero =>
    intro t le1 fr1 un1 nf1 ne1 nc1 h1 hc hD hq hL hrow hM hF
    refine q_iload_n (pc' := 51) (dk_at dkX6_laysRests 36 rfl) rfl rfl ?_
    refine q_sipush (pc' := 54) (dk_at dkX6_laysRests 37 rfl) (by decide +kernel) rfl ?_
    refine q_icmp_ge (tgt := 100) (pc' := 57) (dk_at dkX6_laysRests 38 rfl) rfl rfl (by omega) (by omega) (fun c54 => ?_) (fun c54 => ?_)
    · refine hex _ _ _ _ _ _ _ _ (fun k' t' a b c => ?_) hL hM hF
      by_cases z : k' = k
      · rw [z]; exact hq t' (by omega)
      · exact hD k' t' (by omega) b c
    · exfalso
      omega
  | succ c ih =>
    intro t le1 fr1 un1 nf1 ne1 nc1 h1 hc hD hq hL hrow hM hF
    refine q_iload_n (pc' := 51) (dk_at dkX6_laysRests 36 rfl) rfl rfl ?_
    refine q_sipush (pc' := 54) (dk_at dkX6_laysRests 37 rfl) (by decide +kernel) rfl ?_
    refine q_icmp_ge (tgt := 100) (pc' := 57) (dk_at dkX6_laysRests 38 rfl) rfl rfl (by omega) (by omega) (fun c54 => ?_) (fun c54 => ?_)
    · refine hex _ _ _ _ _ _ _ _ (fun k' t' a b c => ?_) hL hM hF
      by_cases z : k' = k
      · rw [z]; exact hq t' (by omega)
      · exact hD k' t' (by omega) b c
    · refine q_aload_n (pc' := 58) (dk_at dkX6_laysRests 39 rfl) rfl rfl ?_
      refine r_getf (pc' := 61) fl_RX6_44 (dk_at dkX6_laysRests 40 rfl) hM.obj rfl rfl ?_
      refine q_sipush (pc' := 64) (dk_at dkX6_laysRests 41 rfl) (by decide +kernel) rfl ?_
      refine q_iload_n (pc' := 65) (dk_at dkX6_laysRests 42 rfl) rfl rfl ?_
      refine q_imul (pc' := 66) (dk_at dkX6_laysRests 43 rfl) rfl ?_
      refine q_iload_n (pc' := 67) (dk_at dkX6_laysRests 44 rfl) rfl rfl ?_
      refine q_iadd (pc' := 68) (dk_at dkX6_laysRests 45 rfl) rfl ?_
      refine q_iload_n (pc' := 69) (dk_at dkX6_laysRests 46 rfl) rfl rfl ?_
      refine q_iconst (pc' := 70) (dk_at dkX6_laysRests 47 rfl) rfl ?_
      refine q_idiv (pc' := 71) (dk_at dkX6_laysRests 48 rfl) (by omega) (by omega) rfl ?_
      rw [show ((k : Int) / 4) = ((k / 4 : Nat) : Int) by omega]
      refine q_iload_n (pc' := 72) (dk_at dkX6_laysRests 49 rfl) rfl rfl ?_
      refine q_icmp_ne (tgt := 82) (pc' := 75) (dk_at dkX6_laysRests 50 rfl) rfl rfl (by omega) (by omega) (fun c72 => ?_) (fun c72 => ?_)
      · refine q_aload_n (pc' := 83) (dk_at dkX6_laysRests 54 rfl) rfl rfl ?_
        refine q_iload_n (pc' := 84) (dk_at dkX6_laysRests 55 rfl) rfl rfl ?_
        refine q_iconst (pc' := 85) (dk_at dkX6_laysRests 56 rfl) rfl ?_
        refine q_idiv (pc' := 86) (dk_at dkX6_laysRests 57 rfl) (by omega) (by omega) rfl ?_
        rw [show ((k : Int) / 4) = ((k / 4 : Nat) : Int) by omega]
        refine q_iload_n (pc' := 87) (dk_at dkX6_laysRests 58 rfl) rfl rfl ?_
        refine q_iconst (pc' := 88) (dk_at dkX6_laysRests 59 rfl) rfl ?_
        refine q_irem (pc' := 89) (dk_at dkX6_laysRests 60 rfl) (by omega) (by omega) rfl ?_
        rw [show ((k : Int) % 4) = ((k % 4 : Nat) : Int) by omega]
        refine q_iload_n (pc' := 90) (dk_at dkX6_laysRests 61 rfl) rfl rfl ?_
        refine r_cVI (pc' := 93) (As := [vI ((k / 4 : Nat) : Int), vI ((k % 4 : Nat) : Int), vI (t : Int)]) (S := [vI ((1200 * (k : Int)) + (t : Int)), vR (m + 12)]) cv_RX6_240 (dk_at dkX6_laysRests 62 rfl) hM.obj rfl (k_M_rest (d := 7) (dn := k / 4) (fv := ((k % 4 : Nat) : Int)) (t := t) (by omega) hR hk hSt (by omega) (by omega) (by omega) (fun k' t' a b c => hD k' t' (by omega) b c) hM) (by omega) (Nat.zero_le _) (Nat.zero_le _) rfl (Nat.le_of_ble_eq_true rfl) rfl (Nat.le_of_ble_eq_true rfl) rfl (fun xx1 hh2 hphh2 => ?_)
        obtain ⟨nf2, ne2, nc2, hM, hri, hGf⟩ := hphh2
        have hF := hF.tr hGf (by omega)
        have hde := RI.fin hk (by omega) (by unfold alS; omega) hri
        refine r_iast (pc' := 94) (dk_at dkX6_laysRests 63 rfl) hM.least (1200 * k + t) (by omega) (by omega) (by decide) rfl (fun hh3 ehh3 => ?_)
        have hM := hM.w_least ehh3
        have hF := hF.put ehh3 (by omega)
        refine q_iinc (pc' := 97) (L' := [some (vR m), some (vI (fu : Int)), some (vI (k : Int)), some (vI ((t : Int) + 1))]) (dk_at dkX6_laysRests 64 rfl) (by decide) rfl rfl rfl ?_
        rw [show ((t : Int) + 1) = ((t + 1 : Nat) : Int) by omega]
        refine q_goto (tgt := 50) (dk_at dkX6_laysRests 65 rfl) rfl ?_
        refine ih (t + 1) _ _ _ _ _ _ _ (by omega) (fun k' t' a b c => by rw [upz_ne (by omega)]; exact hD k' t' a b c) (fun t' ht' => ?_) (hL.any (by omega) hrow) hrow hM hF
        by_cases z : t' = t
        · rw [z, upz_eq]; exact hde
        · rw [upz_ne (by omega)]; exact hq t' (by omega)
      · refine q_aload_n (pc' := 76) (dk_at dkX6_laysRests 51 rfl) rfl rfl ?_
        refine r_cVI (pc' := 79) (As := []) (S := [vI ((1200 * (k : Int)) + (t : Int)), vR (m + 12)]) cv_RX6_122 (dk_at dkX6_laysRests 52 rfl) hM.obj rfl (k_M_costOfNothing (d := 7) (by omega) hR hk hM) (by omega) (Nat.zero_le _) (Nat.zero_le _) rfl (Nat.le_of_ble_eq_true rfl) rfl (Nat.le_of_ble_eq_true rfl) rfl (fun xx4 hh5 hphh5 => ?_)
        obtain ⟨qq6, rfl⟩ := hphh5
        rw [qq6]
        have hde : DBe S k t (neuM S) := DBe.all (by unfold alS; omega)
        refine q_goto (tgt := 93) (dk_at dkX6_laysRests 53 rfl) rfl ?_
        refine r_iast (pc' := 94) (dk_at dkX6_laysRests 63 rfl) hM.least (1200 * k + t) (by omega) (by omega) (by decide) rfl (fun hh7 ehh7 => ?_)
        have hM := hM.w_least ehh7
        have hF := hF.put ehh7 (by omega)
        refine q_iinc (pc' := 97) (L' := [some (vR m), some (vI (fu : Int)), some (vI (k : Int)), some (vI ((t : Int) + 1))]) (dk_at dkX6_laysRests 64 rfl) (by decide) rfl rfl rfl ?_
        rw [show ((t : Int) + 1) = ((t + 1 : Nat) : Int) by omega]
        refine q_goto (tgt := 50) (dk_at dkX6_laysRests 65 rfl) rfl ?_
        refine ih (t + 1) _ _ _ _ _ _ _ (by omega) (fun k' t' a b c => by rw [upz_ne (by omega)]; exact hD k' t' a b c) (fun t' ht' => ?_) (hL.any (by omega) hrow) hrow hM hF
        by_cases z : t' = t
        · rw [z, upz_eq]; exact hde
        · rw [upz_ne (by omega)]; exact hq t' (by omega)

set_option maxHeartbeats 4000000 in
set_option maxRecDepth 100000 in
theorem l_lr1 {d n : Nat} {h : PH} {m : Nat} {S : Shp} {fu : Nat} {A sd sq op ss es bo su se tx ba sF sR sT ad : Nat → Int} {sm th l0 bm tl : Int} (hd : 8 ≤ d) (hR : MR A S) (hk : Sok S) (hSt : SetsM S sF sR sT) (hc8 : S.cnt ≤ 8) (hp8 : 2 ^ S.cnt ≤ 256) (hfu : fu + 1 = 2 ^ S.cnt) : ∀ (c : Nat) (k : Nat) (le1 fr1 un1 : Nat → Int) (nf1 ne1 nc1 : Int) (h1 : PH) (x3 : Option PV), (k = c + 3) → (k < 4 * 2 ^ S.cnt) → (DBs S (k + 1) le1) → (LInv le1 fr1 un1) → (isModel n h1 m A sd sm th sq op l0 ss es bo su se bm tx tl ba le1 fr1 un1 nf1 ne1 nc1 sF sR sT ad) → (Fr h h1 m (m + 19)) → QN mX6_laysRests d (FV n (fun h' => ∃ (le1 fr1 un1 : Nat → Int) (nf1 ne1 nc1 : Int), isModel n h' m A sd sm th sq op l0 ss es bo su se bm tx tl ba le1 fr1 un1 nf1 ne1 nc1 sF sR sT ad ∧ SetsM S sF sR sT ∧ DBs S 4 le1 ∧ LInv le1 fr1 un1 ∧ Fr h h' m (m + 19))) 27 [some (vR m), some (vI (fu : Int)), some (vI (k : Int)), x3] [] n h1 := by
  intro c
  induction c with
  | zero =>
    intro k le1 fr1 un1 nf1 ne1 nc1 h1 x3 hc hk5 hD hL hM hF
    refine q_iload_n (pc' := 28) (dk_at dkX6_laysRests 21 rfl) rfl rfl ?_
    refine q_iconst (pc' := 29) (dk_at dkX6_laysRests 22 rfl) rfl ?_
    refine q_icmp_lt (tgt := 106) (pc' := 32) (dk_at dkX6_laysRests 23 rfl) rfl rfl (by omega) (by omega) (fun c29 => ?_) (fun c29 => ?_)
    · refine r_vret rfl (dk_at dkX6_laysRests 68 rfl) ?_
      exact ⟨_, _, _, _, _, _, hM, hSt, fun k' t' a b c => hD k' t' (by omega) b c, hL, hF⟩
    · exfalso
      omega
  | succ c ih =>
    intro k le1 fr1 un1 nf1 ne1 nc1 h1 x3 hc hk5 hD hL hM hF
    refine q_iload_n (pc' := 28) (dk_at dkX6_laysRests 21 rfl) rfl rfl ?_
    refine q_iconst (pc' := 29) (dk_at dkX6_laysRests 22 rfl) rfl ?_
    refine q_icmp_lt (tgt := 106) (pc' := 32) (dk_at dkX6_laysRests 23 rfl) rfl rfl (by omega) (by omega) (fun c29 => ?_) (fun c29 => ?_)
    · refine r_vret rfl (dk_at dkX6_laysRests 68 rfl) ?_
      exact ⟨_, _, _, _, _, _, hM, hSt, fun k' t' a b c => hD k' t' (by omega) b c, hL, hF⟩
    · refine q_aload_n (pc' := 33) (dk_at dkX6_laysRests 24 rfl) rfl rfl ?_
      refine r_getf (pc' := 36) fl_RX6_47 (dk_at dkX6_laysRests 25 rfl) hM.obj rfl rfl ?_
      refine q_iload_n (pc' := 37) (dk_at dkX6_laysRests 26 rfl) rfl rfl ?_
      refine q_iconst (pc' := 38) (dk_at dkX6_laysRests 27 rfl) rfl ?_
      refine r_iast (pc' := 39) (dk_at dkX6_laysRests 28 rfl) hM.from k (by omega) (by omega) (by decide) rfl (fun hh1 ehh1 => ?_)
      have hM := hM.w_from ehh1
      have hF := hF.put ehh1 (by omega)
      refine q_aload_n (pc' := 40) (dk_at dkX6_laysRests 29 rfl) rfl rfl ?_
      refine r_getf (pc' := 43) fl_RX6_50 (dk_at dkX6_laysRests 30 rfl) hM.obj rfl rfl ?_
      refine q_iload_n (pc' := 44) (dk_at dkX6_laysRests 31 rfl) rfl rfl ?_
      refine q_sipush (pc' := 47) (dk_at dkX6_laysRests 32 rfl) (by decide +kernel) rfl ?_
      refine r_iast (pc' := 48) (dk_at dkX6_laysRests 33 rfl) hM.until k (by omega) (by omega) (by decide) rfl (fun hh2 ehh2 => ?_)
      have hM := hM.w_until ehh2
      have hF := hF.put ehh2 (by omega)
      refine q_iconst (pc' := 49) (dk_at dkX6_laysRests 34 rfl) rfl ?_
      refine q_istore_n (pc' := 50) (L' := [some (vR m), some (vI (fu : Int)), some (vI (k : Int)), some (vI 0)]) (dk_at dkX6_laysRests 35 rfl) (by decide) rfl rfl ?_
      refine l_lr2 (h := h) hd hR hk hSt hc8 hp8 hfu (k := k) (by omega) (by omega) ?_ 1200 0 _ _ _ _ _ _ _ (by omega) hD (fun t' ht' => absurd ht' (Nat.not_lt_zero _)) (hL.row k) ⟨upz_eq _ _ _, upz_eq _ _ _⟩ hM hF
      intro le1 fr1 un1 nf1 ne1 nc1 h1 x3 hD hL hM hF
      refine q_iinc (pc' := 103) (L' := [some (vR m), some (vI (fu : Int)), some (vI ((k : Int) + (-1))), x3]) (dk_at dkX6_laysRests 66 rfl) (by decide) rfl rfl rfl ?_
      rw [show ((k : Int) + (-1)) = ((k - 1 : Nat) : Int) by omega]
      refine q_goto (tgt := 27) (dk_at dkX6_laysRests 67 rfl) rfl ?_
      exact ih (k - 1) _ _ _ _ _ _ _ _ (by omega) (by omega) (by rw [show k - 1 + 1 = k by omega]; exact hD) hL hM hF

set_option maxHeartbeats 4000000 in
set_option maxRecDepth 100000 in
theorem k_M_laysRests {d n : Nat} {h : PH} {m : Nat} {A sd sq op ss es bo su se tx ba le fr un sF sR sT ad : Nat → Int} {sm th l0 bm tl nf ne nc : Int} {S : Shp} (hd : 8 ≤ d) (hR : MR A S) (hk : Sok S) (hL : LInv le fr un) (hM : isModel n h m A sd sm th sq op l0 ss es bo su se bm tx tl ba le fr un nf ne nc sF sR sT ad) : CtrV mX6_laysRests d [vR m] n h (fun h' => ∃ (le1 fr1 un1 sF1 sR1 sT1 : Nat → Int) (nf1 ne1 nc1 : Int), isModel n h' m A sd sm th sq op l0 ss es bo su se bm tx tl ba le1 fr1 un1 nf1 ne1 nc1 sF1 sR1 sT1 ad ∧ SetsM S sF1 sR1 sT1 ∧ DBs S 4 le1 ∧ LInv le1 fr1 un1 ∧ Fr h h' m (m + 19)) := by
  have hF : Fr h h m (m + 19) := Fr.rf
  have hc8 := hk.c
  have hp8 := nt_pow_r hk.c
  obtain ⟨fu, hfu⟩ : ∃ z, z + 1 = 2 ^ S.cnt := ⟨2 ^ S.cnt - 1, by omega⟩
  refine q_beginV (L := [some (vR m), none, none, none]) rfl ?_
  refine q_iconst (pc' := 1) (dk_at dkX6_laysRests 0 rfl) rfl ?_
  refine q_aload_n (pc' := 2) (dk_at dkX6_laysRests 1 rfl) rfl rfl ?_
  refine r_getf (pc' := 5) fl_RX6_7 (dk_at dkX6_laysRests 2 rfl) hM.obj rfl rfl ?_
  refine q_iconst (pc' := 6) (dk_at dkX6_laysRests 3 rfl) rfl ?_
  refine r_iald (pc' := 7) (dk_at dkX6_laysRests 4 rfl) hM.all 0 (by omega) (by omega) (by decide) rfl ?_
  rw [hR.c]
  refine q_ishl (pc' := 8) (dk_at dkX6_laysRests 5 rfl) (by omega) (by omega) rfl ?_
  have bb1 := nt_pow_r (j := S.cnt) (by omega)
  rw [show ((1 : Int) * 2 ^ ((S.cnt : Int)).toNat) = ((2 ^ S.cnt : Nat) : Int) from nt_shl1 S.cnt]
  refine q_iconst (pc' := 9) (dk_at dkX6_laysRests 6 rfl) rfl ?_
  refine q_isub (pc' := 10) (dk_at dkX6_laysRests 7 rfl) rfl ?_
  rw [show (((2 ^ S.cnt : Nat) : Int) - 1) = (fu : Int) by omega]
  refine q_istore_n (pc' := 11) (L' := [some (vR m), some (vI (fu : Int)), none, none]) (dk_at dkX6_laysRests 8 rfl) (by decide) rfl rfl ?_
  refine q_aload_n (pc' := 12) (dk_at dkX6_laysRests 9 rfl) rfl rfl ?_
  refine r_cVV (pc' := 15) (As := []) (S := []) cv_RX6_220 (dk_at dkX6_laysRests 10 rfl) hM.obj rfl (k_M_clears (d := 6) hL hM) (by omega) (Nat.zero_le _) (Nat.zero_le _) rfl (Nat.le_of_ble_eq_true rfl) rfl (Nat.le_of_ble_eq_true rfl) rfl (fun hh3 hphh3 => ?_)
  obtain ⟨le1, fr1, un1, hM, hc1, hc2, hGf⟩ := hphh3
  have hF := hF.tr hGf (by omega)
  refine q_aload_n (pc' := 16) (dk_at dkX6_laysRests 11 rfl) rfl rfl ?_
  refine r_cVV (pc' := 19) (As := []) (S := []) cv_RX6_223 (dk_at dkX6_laysRests 12 rfl) hM.obj rfl (k_M_laysSets (d := 6) (by omega) hR hk hM) (by omega) (Nat.zero_le _) (Nat.zero_le _) rfl (Nat.le_of_ble_eq_true rfl) rfl (Nat.le_of_ble_eq_true rfl) rfl (fun hh5 hphh5 => ?_)
  obtain ⟨sF1, sR1, sT1, hM, hSt, hGf⟩ := hphh5
  have hF := hF.tr hGf (by omega)
  refine q_iconst (pc' := 20) (dk_at dkX6_laysRests 13 rfl) rfl ?_
  refine q_iload_n (pc' := 21) (dk_at dkX6_laysRests 14 rfl) rfl rfl ?_
  refine q_imul (pc' := 22) (dk_at dkX6_laysRests 15 rfl) rfl ?_
  refine q_iconst (pc' := 23) (dk_at dkX6_laysRests 16 rfl) rfl ?_
  refine q_iadd (pc' := 24) (dk_at dkX6_laysRests 17 rfl) rfl ?_
  refine q_iconst (pc' := 25) (dk_at dkX6_laysRests 18 rfl) rfl ?_
  refine q_isub (pc' := 26) (dk_at dkX6_laysRests 19 rfl) rfl ?_
  rw [show (((4 * (fu : Int)) + 4) - 1) = ((4 * fu + 3 : Nat) : Int) by omega]
  refine q_istore_n (pc' := 27) (L' := [some (vR m), some (vI (fu : Int)), some (vI ((4 * fu + 3 : Nat) : Int)), none]) (dk_at dkX6_laysRests 20 rfl) (by decide) rfl rfl ?_
  refine QN_mono (l_lr1 (h := h) hd hR hk hSt hc8 hp8.2 hfu (4 * fu) (4 * fu + 3) _ _ _ _ _ _ _ none (by omega) (by omega) (fun k' t' a b c => by omega) (fun k hk => by have a := hc2 k hk; exact ⟨by omega, by omega, fun t ht _ => hc1 _ (by omega)⟩) hM hF) ?_
  rintro h2 ⟨le1, fr1, un1, nf1, ne1, nc1, z⟩
  exact ⟨_, _, _, _, _, _, _, _, _, z⟩

theorem jn_r4 {S : Shp} {a b : Int} (ha : -1000000 ≤ a ∧ a ≤ 288000000) (hb : -1000000 ≤ b ∧ b ≤ 288000000) : -2000000 ≤ jn S a b ∧ jn S a b ≤ 576000000 := by
  unfold jn
  split <;> omega
set_option maxHeartbeats 4000000 in
set_option maxRecDepth 100000 in
theorem k_M_comes {d n : Nat} {h : PH} {m : Nat} {A sd sq op ss es bo su se tx ba le fr un sF sR sT ad : Nat → Int} {sm th l0 bm tl nf ne nc : Int} {S : Shp} {its dn t : Nat} {fv cs fl : Int} (hd : 6 ≤ d) (hR : MR A S) (hk : Sok S) (hSt : SetsM S sF sR sT) (hdn : dn < 2 ^ S.cnt) (hfv : -1 ≤ fv ∧ fv ≤ 3) (hi1 : 1 ≤ its) (hi2 : its < 2 ^ S.cnt) (hpw : S.wh ≠ 1 → pw2 its = true) (he : Ent S dn (t : Int) cs) (hD : DBs S 4 le) (hfl : -1000000 ≤ fl ∧ fl ≤ 288000000) (hM : isModel n h m A sd sm th sq op l0 ss es bo su se bm tx tl ba le fr un nf ne nc sF sR sT ad) : CtrI mX6_comes d [vR m, vI (its : Int), vI (dn : Int), vI fv, vI (t : Int), vI cs, vI fl] n h (fun x h' => ∃ nf1 ne1 nc1 : Int, isModel n h' m A sd sm th sq op l0 ss es bo su se bm tx tl ba le fr un nf1 ne1 nc1 sF sR sT ad ∧ YN x (alw S (-1) dn its = true ∧ Fx S (-1) dn fv (t : Int) cs its = fl) ∧ (x = 1 → ∃ f1 t1 : Nat, nf1 = (f1 : Int) ∧ ne1 = (t1 : Int) ∧ (f1 : Int) = sfT S.V its S.cnt ∧ (t1 : Int) = endS S its fv (t : Int) ∧ nc1 = smT S its (t1 : Int) (neuM S) S.cnt) ∧ Fr h h' m (m + 19)) := by
  have hF : Fr h h m (m + 19) := Fr.rf
  have hc8 := hk.c
  have hp8 := nt_pow_r hk.c
  have her := he.r
  refine q_beginI (L := [some (vR m), some (vI (its : Int)), some (vI (dn : Int)), some (vI fv), some (vI (t : Int)), some (vI cs), some (vI fl), none]) rfl ?_
  have hSt1 := hSt its hi1 hi2
  have hsr := sfT_r hk.v its S.cnt
  have hAw := hR.w
  have hww := hk.w
  have hand : its &&& dn ≤ its := Nat.and_le_left
  refine q_iload_n (pc' := 1) (dk_at dkX6_comes 0 rfl) rfl rfl ?_
  refine q_iload_n (pc' := 2) (dk_at dkX6_comes 1 rfl) rfl rfl ?_
  refine q_iand (pc' := 3) (dk_at dkX6_comes 2 rfl) (by omega) (by omega) rfl ?_
  rw [show ((((its : Int)).toNat &&& ((dn : Int)).toNat : Nat) : Int) = ((its &&& dn : Nat) : Int) from nt_and its dn]
  refine q_if_ne (tgt := 27) (pc' := 6) (dk_at dkX6_comes 3 rfl) rfl rfl (by omega) (fun c3 => ?_) (fun c3 => ?_)
  · refine q_iconst (pc' := 28) (dk_at dkX6_comes 16 rfl) rfl ?_
    refine r_zret rfl (by omega) (dk_at dkX6_comes 17 rfl) ?_
    refine ⟨_, _, _, hM, Or.inr ⟨rfl, fun z => ?_⟩, fun z => by omega, hF⟩
    have a1 := (alw_i z.1).2.1
    have a2 := (okS_i (alw_i z.1).1).2
    omega
  · refine q_aload_n (pc' := 7) (dk_at dkX6_comes 4 rfl) rfl rfl ?_
    refine r_getf (pc' := 10) fl_RX6_7 (dk_at dkX6_comes 5 rfl) hM.obj rfl rfl ?_
    refine q_bipush (pc' := 12) (dk_at dkX6_comes 6 rfl) (by decide +kernel) rfl ?_
    refine r_iald (pc' := 13) (dk_at dkX6_comes 7 rfl) hM.all 61 (by omega) (by omega) (by decide) rfl ?_
    refine q_iconst (pc' := 14) (dk_at dkX6_comes 8 rfl) rfl ?_
    refine q_icmp_ne (tgt := 29) (pc' := 17) (dk_at dkX6_comes 9 rfl) rfl rfl (by omega) (by omega) (fun c14 => ?_) (fun c14 => ?_)
    · refine q_aload_n (pc' := 30) (dk_at dkX6_comes 18 rfl) rfl rfl ?_
      refine q_iload_n (pc' := 31) (dk_at dkX6_comes 19 rfl) rfl rfl ?_
      refine q_iload_n (pc' := 32) (dk_at dkX6_comes 20 rfl) rfl rfl ?_
      refine q_iload (pc' := 34) (dk_at dkX6_comes 21 rfl) rfl rfl ?_
      have hok : okS S its = true := by first | exact okS_mk (by omega) (by omega) (by omega) | exact okS_pw hk hi2 (hpw (by omega))
      have hal : alw S (-1) dn its = true := alw_mk hok (by omega) (Or.inr (Or.inl rfl))
      have her := he.r
      refine r_cVV (pc' := 37) (As := [vI (its : Int), vI fv, vI (t : Int)]) (S := []) cv_RX6_233 (dk_at dkX6_comes 22 rfl) hM.obj rfl (k_M_takes (d := 5) (s := its) (t := t) (by omega) hR hk hi1 hi2 hSt hfv (by omega) (fun _ => (okS_i hok).2) hpw hM) (by omega) (Nat.zero_le _) (Nat.zero_le _) rfl (Nat.le_of_ble_eq_true rfl) rfl (Nat.le_of_ble_eq_true rfl) rfl (fun hh2 hphh2 => ?_)
      obtain ⟨f2, t2, c2, hM, ⟨ef, et, ec⟩, hGf⟩ := hphh2
      have hF := hF.tr hGf (by omega)
      have h7 := sfT_le3 hk.v (show its ≠ 0 by omega) S.cnt hi2
      have a1 := endS_le hk its fv (f := (t : Int)) (by omega)
      have a2 := swT_r hk.v its S.cnt
      have h8 := or_lt hdn hi2
      refine q_aload_n (pc' := 38) (dk_at dkX6_comes 23 rfl) rfl rfl ?_
      refine q_iload_n (pc' := 39) (dk_at dkX6_comes 24 rfl) rfl rfl ?_
      refine q_iload_n (pc' := 40) (dk_at dkX6_comes 25 rfl) rfl rfl ?_
      refine q_ior (pc' := 41) (dk_at dkX6_comes 26 rfl) (by omega) (by omega) rfl ?_
      rw [show ((((dn : Int)).toNat ||| ((its : Int)).toNat : Nat) : Int) = ((dn ||| its : Nat) : Int) from nt_or dn its]
      refine q_aload_n (pc' := 42) (dk_at dkX6_comes 27 rfl) rfl rfl ?_
      refine r_getf (pc' := 45) fl_RX6_200 (dk_at dkX6_comes 28 rfl) hM.obj rfl rfl ?_
      refine q_aload_n (pc' := 46) (dk_at dkX6_comes 29 rfl) rfl rfl ?_
      refine r_getf (pc' := 49) fl_RX6_203 (dk_at dkX6_comes 30 rfl) hM.obj rfl rfl ?_
      refine r_cVI (pc' := 52) (As := [vI ((dn ||| its : Nat) : Int), vI (f2 : Int), vI (t2 : Int)]) (S := []) cv_RX6_236 (dk_at dkX6_comes 31 rfl) hM.obj rfl (k_M_leftOver (d := 5) (s := dn ||| its) (f := f2) (t := t2) (by omega) (by omega) (by omega) hM) (by omega) (Nat.zero_le _) (Nat.zero_le _) rfl (Nat.le_of_ble_eq_true rfl) rfl (Nat.le_of_ble_eq_true rfl) rfl (fun xx3 hh4 hphh4 => ?_)
      obtain ⟨qq5, ev⟩ := hphh4
      rw [qq5]
      obtain ⟨rc, rv, rg, -⟩ := rest_at hk (w := 0) hdn (fun k' t' a b c => hD k' t' (by omega) b c) hi2 hal (by omega) ef et ec ev
      obtain ⟨g1, g2, g3⟩ := rg he.2.2.1
      have hE := he.step hk (l := fv) (show its ≠ 0 by omega) hi2 (alw_i hal).2.1
      have e1 : jn S cs c2 = smT S its (endS S its fv (t : Int)) cs S.cnt := by rw [ec, smT_jn he.2.1, et]
      have e2 : Fx S (-1) dn fv (t : Int) cs its = jn S (jn S cs c2) xx3 := by
        unfold Fx
        rw [fn_jn hk h8 hE, e1, g3]
      have hEr := hE.r
      rw [← e1] at hEr
      refine q_istore (pc' := 54) (L' := [some (vR m), some (vI (its : Int)), some (vI (dn : Int)), some (vI fv), some (vI (t : Int)), some (vI cs), some (vI fl), some (vI xx3)]) (dk_at dkX6_comes 32 rfl) (by decide) rfl rfl ?_
      refine q_iload (pc' := 56) (dk_at dkX6_comes 33 rfl) rfl rfl ?_
      refine q_ldc (pc' := 58) (z := 2000000000) kc_RX6_65 (by decide +kernel) (dk_at dkX6_comes 34 rfl) rfl ?_
      refine q_icmp_eq (tgt := 86) (pc' := 61) (dk_at dkX6_comes 35 rfl) rfl rfl (by omega) (by omega) (fun c58 => ?_) (fun c58 => ?_)
      · refine q_iconst (pc' := 87) (dk_at dkX6_comes 48 rfl) rfl ?_
        refine r_zret rfl (by omega) (dk_at dkX6_comes 49 rfl) ?_
        first
          | (exfalso; omega; done)
          | exact ⟨_, _, _, hM, Or.inr ⟨rfl, fun z => by have := z.2; rw [e2] at this; omega⟩, fun z => by omega, hF⟩
      · refine q_aload_n (pc' := 62) (dk_at dkX6_comes 36 rfl) rfl rfl ?_
        refine q_aload_n (pc' := 63) (dk_at dkX6_comes 37 rfl) rfl rfl ?_
        refine q_iload (pc' := 65) (dk_at dkX6_comes 38 rfl) rfl rfl ?_
        refine q_aload_n (pc' := 66) (dk_at dkX6_comes 39 rfl) rfl rfl ?_
        refine r_getf (pc' := 69) fl_RX6_206 (dk_at dkX6_comes 40 rfl) hM.obj rfl rfl ?_
        refine r_cVI (pc' := 72) (As := [vI cs, vI c2]) (S := [vR m]) cv_RX6_140 (dk_at dkX6_comes 41 rfl) hM.obj rfl (k_M_with (d := 5) (by omega) hR hk (by omega) (by omega) hM) (by omega) (Nat.zero_le _) (Nat.zero_le _) rfl (Nat.le_of_ble_eq_true rfl) rfl (Nat.le_of_ble_eq_true rfl) rfl (fun xx6 hh7 hphh7 => ?_)
        obtain ⟨qq8, rfl⟩ := hphh7
        rw [qq8]
        refine q_iload (pc' := 74) (dk_at dkX6_comes 42 rfl) rfl rfl ?_
        refine r_cVI (pc' := 77) (As := [vI (jn S cs c2), vI xx3]) (S := []) cv_RX6_140 (dk_at dkX6_comes 43 rfl) hM.obj rfl (k_M_with (d := 5) (by omega) hR hk (by omega) (by omega) hM) (by omega) (Nat.zero_le _) (Nat.zero_le _) rfl (Nat.le_of_ble_eq_true rfl) rfl (Nat.le_of_ble_eq_true rfl) rfl (fun xx9 hh10 hphh10 => ?_)
        obtain ⟨qq11, rfl⟩ := hphh10
        rw [qq11]
        have hj4 := jn_r4 (S := S) hEr.2 (b := xx3) (by omega)
        refine q_iload (pc' := 79) (dk_at dkX6_comes 44 rfl) rfl rfl ?_
        refine q_icmp_ne (tgt := 86) (pc' := 82) (dk_at dkX6_comes 45 rfl) rfl rfl (by omega) (by omega) (fun c79 => ?_) (fun c79 => ?_)
        · refine q_iconst (pc' := 87) (dk_at dkX6_comes 48 rfl) rfl ?_
          refine r_zret rfl (by omega) (dk_at dkX6_comes 49 rfl) ?_
          first
            | (exfalso; omega; done)
            | exact ⟨_, _, _, hM, Or.inr ⟨rfl, fun z => by have := z.2; rw [e2] at this; omega⟩, fun z => by omega, hF⟩
        · refine q_iconst (pc' := 83) (dk_at dkX6_comes 46 rfl) rfl ?_
          refine q_goto (tgt := 87) (dk_at dkX6_comes 47 rfl) rfl ?_
          refine r_zret rfl (by omega) (dk_at dkX6_comes 49 rfl) ?_
          exact ⟨_, _, _, hM, Or.inl ⟨rfl, hal, by rw [e2]; omega⟩, fun _ => ⟨f2, t2, rfl, rfl, ef, et, ec⟩, hF⟩
    · refine q_aload_n (pc' := 18) (dk_at dkX6_comes 10 rfl) rfl rfl ?_
      refine r_getf (pc' := 21) fl_RX6_53 (dk_at dkX6_comes 11 rfl) hM.obj rfl rfl ?_
      refine q_iload_n (pc' := 22) (dk_at dkX6_comes 12 rfl) rfl rfl ?_
      refine r_iald (pc' := 23) (dk_at dkX6_comes 13 rfl) hM.setFamily its (by omega) (by omega) (by decide) rfl ?_
      refine q_iconst (pc' := 24) (dk_at dkX6_comes 14 rfl) rfl ?_
      refine q_icmp_ne (tgt := 29) (pc' := 27) (dk_at dkX6_comes 15 rfl) rfl rfl (by omega) (by omega) (fun c24 => ?_) (fun c24 => ?_)
      · refine q_aload_n (pc' := 30) (dk_at dkX6_comes 18 rfl) rfl rfl ?_
        refine q_iload_n (pc' := 31) (dk_at dkX6_comes 19 rfl) rfl rfl ?_
        refine q_iload_n (pc' := 32) (dk_at dkX6_comes 20 rfl) rfl rfl ?_
        refine q_iload (pc' := 34) (dk_at dkX6_comes 21 rfl) rfl rfl ?_
        have hok : okS S its = true := by first | exact okS_mk (by omega) (by omega) (by omega) | exact okS_pw hk hi2 (hpw (by omega))
        have hal : alw S (-1) dn its = true := alw_mk hok (by omega) (Or.inr (Or.inl rfl))
        have her := he.r
        refine r_cVV (pc' := 37) (As := [vI (its : Int), vI fv, vI (t : Int)]) (S := []) cv_RX6_233 (dk_at dkX6_comes 22 rfl) hM.obj rfl (k_M_takes (d := 5) (s := its) (t := t) (by omega) hR hk hi1 hi2 hSt hfv (by omega) (fun _ => (okS_i hok).2) hpw hM) (by omega) (Nat.zero_le _) (Nat.zero_le _) rfl (Nat.le_of_ble_eq_true rfl) rfl (Nat.le_of_ble_eq_true rfl) rfl (fun hh13 hphh13 => ?_)
        obtain ⟨f2, t2, c2, hM, ⟨ef, et, ec⟩, hGf⟩ := hphh13
        have hF := hF.tr hGf (by omega)
        have h7 := sfT_le3 hk.v (show its ≠ 0 by omega) S.cnt hi2
        have a1 := endS_le hk its fv (f := (t : Int)) (by omega)
        have a2 := swT_r hk.v its S.cnt
        have h8 := or_lt hdn hi2
        refine q_aload_n (pc' := 38) (dk_at dkX6_comes 23 rfl) rfl rfl ?_
        refine q_iload_n (pc' := 39) (dk_at dkX6_comes 24 rfl) rfl rfl ?_
        refine q_iload_n (pc' := 40) (dk_at dkX6_comes 25 rfl) rfl rfl ?_
        refine q_ior (pc' := 41) (dk_at dkX6_comes 26 rfl) (by omega) (by omega) rfl ?_
        rw [show ((((dn : Int)).toNat ||| ((its : Int)).toNat : Nat) : Int) = ((dn ||| its : Nat) : Int) from nt_or dn its]
        refine q_aload_n (pc' := 42) (dk_at dkX6_comes 27 rfl) rfl rfl ?_
        refine r_getf (pc' := 45) fl_RX6_200 (dk_at dkX6_comes 28 rfl) hM.obj rfl rfl ?_
        refine q_aload_n (pc' := 46) (dk_at dkX6_comes 29 rfl) rfl rfl ?_
        refine r_getf (pc' := 49) fl_RX6_203 (dk_at dkX6_comes 30 rfl) hM.obj rfl rfl ?_
        refine r_cVI (pc' := 52) (As := [vI ((dn ||| its : Nat) : Int), vI (f2 : Int), vI (t2 : Int)]) (S := []) cv_RX6_236 (dk_at dkX6_comes 31 rfl) hM.obj rfl (k_M_leftOver (d := 5) (s := dn ||| its) (f := f2) (t := t2) (by omega) (by omega) (by omega) hM) (by omega) (Nat.zero_le _) (Nat.zero_le _) rfl (Nat.le_of_ble_eq_true rfl) rfl (Nat.le_of_ble_eq_true rfl) rfl (fun xx14 hh15 hphh15 => ?_)
        obtain ⟨qq16, ev⟩ := hphh15
        rw [qq16]
        obtain ⟨rc, rv, rg, -⟩ := rest_at hk (w := 0) hdn (fun k' t' a b c => hD k' t' (by omega) b c) hi2 hal (by omega) ef et ec ev
        obtain ⟨g1, g2, g3⟩ := rg he.2.2.1
        have hE := he.step hk (l := fv) (show its ≠ 0 by omega) hi2 (alw_i hal).2.1
        have e1 : jn S cs c2 = smT S its (endS S its fv (t : Int)) cs S.cnt := by rw [ec, smT_jn he.2.1, et]
        have e2 : Fx S (-1) dn fv (t : Int) cs its = jn S (jn S cs c2) xx14 := by
          unfold Fx
          rw [fn_jn hk h8 hE, e1, g3]
        have hEr := hE.r
        rw [← e1] at hEr
        refine q_istore (pc' := 54) (L' := [some (vR m), some (vI (its : Int)), some (vI (dn : Int)), some (vI fv), some (vI (t : Int)), some (vI cs), some (vI fl), some (vI xx14)]) (dk_at dkX6_comes 32 rfl) (by decide) rfl rfl ?_
        refine q_iload (pc' := 56) (dk_at dkX6_comes 33 rfl) rfl rfl ?_
        refine q_ldc (pc' := 58) (z := 2000000000) kc_RX6_65 (by decide +kernel) (dk_at dkX6_comes 34 rfl) rfl ?_
        refine q_icmp_eq (tgt := 86) (pc' := 61) (dk_at dkX6_comes 35 rfl) rfl rfl (by omega) (by omega) (fun c58 => ?_) (fun c58 => ?_)
        · refine q_iconst (pc' := 87) (dk_at dkX6_comes 48 rfl) rfl ?_
          refine r_zret rfl (by omega) (dk_at dkX6_comes 49 rfl) ?_
          first
            | (exfalso; omega; done)
            | exact ⟨_, _, _, hM, Or.inr ⟨rfl, fun z => by have := z.2; rw [e2] at this; omega⟩, fun z => by omega, hF⟩
        · refine q_aload_n (pc' := 62) (dk_at dkX6_comes 36 rfl) rfl rfl ?_
          refine q_aload_n (pc' := 63) (dk_at dkX6_comes 37 rfl) rfl rfl ?_
          refine q_iload (pc' := 65) (dk_at dkX6_comes 38 rfl) rfl rfl ?_
          refine q_aload_n (pc' := 66) (dk_at dkX6_comes 39 rfl) rfl rfl ?_
          refine r_getf (pc' := 69) fl_RX6_206 (dk_at dkX6_comes 40 rfl) hM.obj rfl rfl ?_
          refine r_cVI (pc' := 72) (As := [vI cs, vI c2]) (S := [vR m]) cv_RX6_140 (dk_at dkX6_comes 41 rfl) hM.obj rfl (k_M_with (d := 5) (by omega) hR hk (by omega) (by omega) hM) (by omega) (Nat.zero_le _) (Nat.zero_le _) rfl (Nat.le_of_ble_eq_true rfl) rfl (Nat.le_of_ble_eq_true rfl) rfl (fun xx17 hh18 hphh18 => ?_)
          obtain ⟨qq19, rfl⟩ := hphh18
          rw [qq19]
          refine q_iload (pc' := 74) (dk_at dkX6_comes 42 rfl) rfl rfl ?_
          refine r_cVI (pc' := 77) (As := [vI (jn S cs c2), vI xx14]) (S := []) cv_RX6_140 (dk_at dkX6_comes 43 rfl) hM.obj rfl (k_M_with (d := 5) (by omega) hR hk (by omega) (by omega) hM) (by omega) (Nat.zero_le _) (Nat.zero_le _) rfl (Nat.le_of_ble_eq_true rfl) rfl (Nat.le_of_ble_eq_true rfl) rfl (fun xx20 hh21 hphh21 => ?_)
          obtain ⟨qq22, rfl⟩ := hphh21
          rw [qq22]
          have hj4 := jn_r4 (S := S) hEr.2 (b := xx14) (by omega)
          refine q_iload (pc' := 79) (dk_at dkX6_comes 44 rfl) rfl rfl ?_
          refine q_icmp_ne (tgt := 86) (pc' := 82) (dk_at dkX6_comes 45 rfl) rfl rfl (by omega) (by omega) (fun c79 => ?_) (fun c79 => ?_)
          · refine q_iconst (pc' := 87) (dk_at dkX6_comes 48 rfl) rfl ?_
            refine r_zret rfl (by omega) (dk_at dkX6_comes 49 rfl) ?_
            first
              | (exfalso; omega; done)
              | exact ⟨_, _, _, hM, Or.inr ⟨rfl, fun z => by have := z.2; rw [e2] at this; omega⟩, fun z => by omega, hF⟩
          · refine q_iconst (pc' := 83) (dk_at dkX6_comes 46 rfl) rfl ?_
            refine q_goto (tgt := 87) (dk_at dkX6_comes 47 rfl) rfl ?_
            refine r_zret rfl (by omega) (dk_at dkX6_comes 49 rfl) ?_
            exact ⟨_, _, _, hM, Or.inl ⟨rfl, hal, by rw [e2]; omega⟩, fun _ => ⟨f2, t2, rfl, rfl, ef, et, ec⟩, hF⟩
      · refine q_iconst (pc' := 28) (dk_at dkX6_comes 16 rfl) rfl ?_
        refine r_zret rfl (by omega) (dk_at dkX6_comes 17 rfl) ?_
        refine ⟨_, _, _, hM, Or.inr ⟨rfl, fun z => ?_⟩, fun z => by omega, hF⟩
        have a1 := (alw_i z.1).2.1
        have a2 := (okS_i (alw_i z.1).1).2
        omega
