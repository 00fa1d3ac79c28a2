/-! BatchMachineModel: sets, what comes next, the table -/
set_option maxHeartbeats 4000000 in
set_option maxRecDepth 100000 in
theorem l_ls2 {d n : Nat} {h : PH} {m : Nat} {S : Shp} {A sd sq op ss es bo su se tx ba le fr un ad : Nat → Int} {sm th l0 bm tl nf ne nc : Int} (hd : 2 ≤ d) (hR : MR A S) (hk : Sok S) (hc8 : S.cnt ≤ 8) {s : Nat} (hs1 : 1 ≤ s) (hs2 : s < 2 ^ S.cnt) (hp8 : 2 ^ S.cnt ≤ 256) (hex : ∀ (sF1 sR1 sT1 : Nat → Int) (h1 : PH) (x2 x3 : Option PV), (∀ s', 1 ≤ s' → s' < s + 1 → sF1 s' = sfT S.V s' S.cnt ∧ sR1 s' = srT S.V s' S.cnt ∧ sT1 s' = swT S.V s' S.cnt) → isModel n h1 m A sd sm th sq op l0 ss es bo su se bm tx tl ba le fr un nf ne nc sF1 sR1 sT1 ad → Fr h h1 m (m + 19) → QN mX6_laysSets d (FV n (fun h' => ∃ sF1 sR1 sT1, isModel n h' m A sd sm th sq op l0 ss es bo su se bm tx tl ba le fr un nf ne nc sF1 sR1 sT1 ad ∧ SetsM S sF1 sR1 sT1 ∧ Fr h h' m (m + 19))) 135 [some (vR m), some (vI (s : Int)), x2, x3] [] n h1) : ∀ (c : Nat) (j : Nat) (sF1 sR1 sT1 : Nat → Int) (h1 : PH) (x3 : Option PV), (j + c = S.cnt) → (∀ s', 1 ≤ s' → s' < s → sF1 s' = sfT S.V s' S.cnt ∧ sR1 s' = srT S.V s' S.cnt ∧ sT1 s' = swT S.V s' S.cnt) → (sF1 s = sfT S.V s j ∧ sR1 s = srT S.V s j ∧ sT1 s = swT S.V s j) → (isModel n h1 m A sd sm th sq op l0 ss es bo su se bm tx tl ba le fr un nf ne nc sF1 sR1 sT1 ad) → (Fr h h1 m (m + 19)) → QN mX6_laysSets d (FV n (fun h' => ∃ sF1 sR1 sT1, isModel n h' m A sd sm th sq op l0 ss es bo su se bm tx tl ba le fr un nf ne nc sF1 sR1 sT1 ad ∧ SetsM S sF1 sR1 sT1 ∧ Fr h h' m (m + 19))) 37 [some (vR m), some (vI (s : Int)), some (vI (j : Int)), x3] [] n h1 := by
  intro c
  induction c with
  | zero =>
    intro j sF1 sR1 sT1 h1 x3 hc hq hj hM hF
    refine q_iload_n (pc' := 38) (dk_at dkX6_laysSets 27 rfl) rfl rfl ?_
    refine q_aload_n (pc' := 39) (dk_at dkX6_laysSets 28 rfl) rfl rfl ?_
    refine r_getf (pc' := 42) fl_RX6_7 (dk_at dkX6_laysSets 29 rfl) hM.obj rfl rfl ?_
    refine q_iconst (pc' := 43) (dk_at dkX6_laysSets 30 rfl) rfl ?_
    refine r_iald (pc' := 44) (dk_at dkX6_laysSets 31 rfl) hM.all 0 (by omega) (by omega) (by decide) rfl ?_
    have hA0 := hR.c
    refine q_icmp_ge (tgt := 135) (pc' := 47) (dk_at dkX6_laysSets 32 rfl) rfl rfl (by omega) (by omega) (fun c44 => ?_) (fun c44 => ?_)
    · have ej : j = S.cnt := by omega
      rw [ej] at hj
      refine hex _ _ _ _ _ _ (fun s' a b => ?_) hM hF
      by_cases z : s' = s
      · rw [z]; exact hj
      · exact hq s' a (by omega)
    · exfalso
      omega
  | succ c ih =>
    intro j sF1 sR1 sT1 h1 x3 hc hq hj hM hF
    refine q_iload_n (pc' := 38) (dk_at dkX6_laysSets 27 rfl) rfl rfl ?_
    refine q_aload_n (pc' := 39) (dk_at dkX6_laysSets 28 rfl) rfl rfl ?_
    refine r_getf (pc' := 42) fl_RX6_7 (dk_at dkX6_laysSets 29 rfl) hM.obj rfl rfl ?_
    refine q_iconst (pc' := 43) (dk_at dkX6_laysSets 30 rfl) rfl ?_
    refine r_iald (pc' := 44) (dk_at dkX6_laysSets 31 rfl) hM.all 0 (by omega) (by omega) (by decide) rfl ?_
    have hA0 := hR.c
    refine q_icmp_ge (tgt := 135) (pc' := 47) (dk_at dkX6_laysSets 32 rfl) rfl rfl (by omega) (by omega) (fun c44 => ?_) (fun c44 => ?_)
    · have ej : j = S.cnt := by omega
      rw [ej] at hj
      refine hex _ _ _ _ _ _ (fun s' a b => ?_) hM hF
      by_cases z : s' = s
      · rw [z]; exact hj
      · exact hq s' a (by omega)
    · have v0 := hk.v 0 j
      have v1 := hk.v 1 j
      have v2 := hk.v 2 j
      have v0 : 0 ≤ S.V 0 j ∧ S.V 0 j ≤ 3 := ⟨v0.1, v0.2.2.1 rfl⟩
      have v1 : 0 ≤ S.V 1 j ∧ S.V 1 j ≤ 50 := ⟨v1.1, v1.2.2.2.1 rfl⟩
      have v2 : 0 ≤ S.V 2 j ∧ S.V 2 j ≤ 300 := ⟨v2.1, v2.2.2.2.2.1 rfl⟩
      have r0 := sfT_r hk.v s j
      have r1 := srT_r hk.v s j
      have r2 := swT_r hk.v s j
      have hA0 := hR.c
      refine q_iload_n (pc' := 48) (dk_at dkX6_laysSets 33 rfl) rfl rfl ?_
      refine q_iload_n (pc' := 49) (dk_at dkX6_laysSets 34 rfl) rfl rfl ?_
      refine r_cSI (pc' := 52) (As := [vI (s : Int), vI (j : Int)]) (S := []) cs_RX6_154 (dk_at dkX6_laysSets 35 rfl) (k_M_has (d := 0) (s := s) (k := j) (by omega) (by omega)) (by omega) (Nat.zero_le _) (Nat.zero_le _) rfl (Nat.le_of_ble_eq_true rfl) rfl (Nat.le_of_ble_eq_true rfl) rfl (fun xx1 hh2 hphh2 => ?_)
      obtain ⟨qq3, y49⟩ := hphh2
      rw [qq3]
      have yr49 := y49.r
      refine q_if_eq (tgt := 129) (pc' := 55) (dk_at dkX6_laysSets 36 rfl) rfl rfl (by omega) (fun c52 => ?_) (fun c52 => ?_)
      · refine q_iinc (pc' := 132) (L' := [some (vR m), some (vI (s : Int)), some (vI ((j : Int) + 1)), x3]) (dk_at dkX6_laysSets 85 rfl) (by decide) rfl rfl rfl ?_
        rw [show ((j : Int) + 1) = ((j + 1 : Nat) : Int) by omega]
        refine q_goto (tgt := 37) (dk_at dkX6_laysSets 86 rfl) rfl ?_
        refine ih (j + 1) _ _ _ _ _ (by omega) hq ?_ hM hF
        rw [sfT_s, srT_s, swT_s, if_neg (y49.f (by omega)), if_neg (y49.f (by omega)), if_neg (y49.f (by omega))]
        exact hj
      · refine q_aload_n (pc' := 56) (dk_at dkX6_laysSets 37 rfl) rfl rfl ?_
        refine q_iload_n (pc' := 57) (dk_at dkX6_laysSets 38 rfl) rfl rfl ?_
        refine q_iconst (pc' := 58) (dk_at dkX6_laysSets 39 rfl) rfl ?_
        refine r_cVI (pc' := 61) (As := [vI (j : Int), vI 0]) (S := []) cv_RX6_104 (dk_at dkX6_laysSets 40 rfl) hM.obj rfl (k_M_of (d := 0) (j := j) (w := 0) hR hc8 rfl rfl (by omega) (by omega) hM) (by omega) (Nat.zero_le _) (Nat.zero_le _) rfl (Nat.le_of_ble_eq_true rfl) rfl (Nat.le_of_ble_eq_true rfl) rfl (fun xx4 hh5 hphh5 => ?_)
        obtain ⟨qq6, rfl⟩ := hphh5
        rw [qq6]
        refine q_istore_n (pc' := 62) (L' := [some (vR m), some (vI (s : Int)), some (vI (j : Int)), some (vI (S.V 0 j))]) (dk_at dkX6_laysSets 41 rfl) (by decide) rfl rfl ?_
        refine q_aload_n (pc' := 63) (dk_at dkX6_laysSets 42 rfl) rfl rfl ?_
        refine r_getf (pc' := 66) fl_RX6_53 (dk_at dkX6_laysSets 43 rfl) hM.obj rfl rfl ?_
        refine q_iload_n (pc' := 67) (dk_at dkX6_laysSets 44 rfl) rfl rfl ?_
        refine q_join 92 [some (vR m), some (vI (s : Int)), some (vI (j : Int)), some (vI (S.V 0 j))] [vI (s : Int), vR (m + 15)] (fun jx => jx = (if sfT S.V s j = 4 ∨ sfT S.V s j = S.V 0 j then S.V 0 j else -1)) (fun jx92 e92 => ?_) (fun J92 => ?_)
        · refine r_iast (pc' := 93) (dk_at dkX6_laysSets 60 rfl) hM.setFamily s (by omega) (by omega) (by decide) rfl (fun hh7 ehh7 => ?_)
          have hM := hM.w_setFamily ehh7
          have hF := hF.put ehh7 (by omega)
          refine q_aload_n (pc' := 94) (dk_at dkX6_laysSets 61 rfl) rfl rfl ?_
          refine r_getf (pc' := 97) fl_RX6_56 (dk_at dkX6_laysSets 62 rfl) hM.obj rfl rfl ?_
          refine q_iload_n (pc' := 98) (dk_at dkX6_laysSets 63 rfl) rfl rfl ?_
          refine q_aload_n (pc' := 99) (dk_at dkX6_laysSets 64 rfl) rfl rfl ?_
          refine r_getf (pc' := 102) fl_RX6_56 (dk_at dkX6_laysSets 65 rfl) hM.obj rfl rfl ?_
          refine q_iload_n (pc' := 103) (dk_at dkX6_laysSets 66 rfl) rfl rfl ?_
          refine r_iald (pc' := 104) (dk_at dkX6_laysSets 67 rfl) hM.setReady s (by omega) (by omega) (by decide) rfl ?_
          rw [show (sR1 s) = srT S.V s j from hj.2.1]
          refine q_aload_n (pc' := 105) (dk_at dkX6_laysSets 68 rfl) rfl rfl ?_
          refine q_iload_n (pc' := 106) (dk_at dkX6_laysSets 69 rfl) rfl rfl ?_
          refine q_iconst (pc' := 107) (dk_at dkX6_laysSets 70 rfl) rfl ?_
          refine r_cVI (pc' := 110) (As := [vI (j : Int), vI 2]) (S := [vI (srT S.V s j), vI (s : Int), vR (m + 16)]) cv_RX6_104 (dk_at dkX6_laysSets 71 rfl) hM.obj rfl (k_M_of (d := 0) (j := j) (w := 2) hR hc8 rfl rfl (by omega) (by omega) hM) (by omega) (Nat.zero_le _) (Nat.zero_le _) rfl (Nat.le_of_ble_eq_true rfl) rfl (Nat.le_of_ble_eq_true rfl) rfl (fun xx8 hh9 hphh9 => ?_)
          obtain ⟨qq10, rfl⟩ := hphh9
          rw [qq10]
          refine r_cSI (pc' := 113) (As := [vI (srT S.V s j), vI (S.V 2 j)]) (S := [vI (s : Int), vR (m + 16)]) cs_RX6_143 (dk_at dkX6_laysSets 72 rfl) (k_M_later (d := 0) (by omega) (by omega)) (by omega) (Nat.zero_le _) (Nat.zero_le _) rfl (Nat.le_of_ble_eq_true rfl) rfl (Nat.le_of_ble_eq_true rfl) rfl (fun xx11 hh12 hphh12 => ?_)
          obtain ⟨qq13, rfl⟩ := hphh12
          rw [qq13]
          refine r_iast (pc' := 114) (dk_at dkX6_laysSets 73 rfl) hM.setReady s (by omega) (by omega) (by decide) rfl (fun hh14 ehh14 => ?_)
          have hM := hM.w_setReady ehh14
          have hF := hF.put ehh14 (by omega)
          refine q_aload_n (pc' := 115) (dk_at dkX6_laysSets 74 rfl) rfl rfl ?_
          refine r_getf (pc' := 118) fl_RX6_59 (dk_at dkX6_laysSets 75 rfl) hM.obj rfl rfl ?_
          refine q_iload_n (pc' := 119) (dk_at dkX6_laysSets 76 rfl) rfl rfl ?_
          refine q_dup2 (pc' := 120) (fun _ => rfl) (fun _ => rfl) (dk_at dkX6_laysSets 77 rfl) rfl ?_
          refine r_iald (pc' := 121) (dk_at dkX6_laysSets 78 rfl) hM.setTime s (by omega) (by omega) (by decide) rfl ?_
          rw [show (sT1 s) = swT S.V s j from hj.2.2]
          refine q_aload_n (pc' := 122) (dk_at dkX6_laysSets 79 rfl) rfl rfl ?_
          refine q_iload_n (pc' := 123) (dk_at dkX6_laysSets 80 rfl) rfl rfl ?_
          refine q_iconst (pc' := 124) (dk_at dkX6_laysSets 81 rfl) rfl ?_
          refine r_cVI (pc' := 127) (As := [vI (j : Int), vI 1]) (S := [vI (swT S.V s j), vI (s : Int), vR (m + 17)]) cv_RX6_104 (dk_at dkX6_laysSets 82 rfl) hM.obj rfl (k_M_of (d := 0) (j := j) (w := 1) hR hc8 rfl rfl (by omega) (by omega) hM) (by omega) (Nat.zero_le _) (Nat.zero_le _) rfl (Nat.le_of_ble_eq_true rfl) rfl (Nat.le_of_ble_eq_true rfl) rfl (fun xx15 hh16 hphh16 => ?_)
          obtain ⟨qq17, rfl⟩ := hphh16
          rw [qq17]
          have r2b := hj.2.2
          refine q_iadd (pc' := 128) (dk_at dkX6_laysSets 83 rfl) rfl ?_
          refine r_iast (pc' := 129) (dk_at dkX6_laysSets 84 rfl) hM.setTime s (by omega) (by omega) (by decide) rfl (fun hh18 ehh18 => ?_)
          have hM := hM.w_setTime ehh18
          have hF := hF.put ehh18 (by omega)
          refine q_iinc (pc' := 132) (L' := [some (vR m), some (vI (s : Int)), some (vI ((j : Int) + 1)), some (vI (S.V 0 j))]) (dk_at dkX6_laysSets 85 rfl) (by decide) rfl rfl rfl ?_
          rw [show ((j : Int) + 1) = ((j + 1 : Nat) : Int) by omega]
          refine q_goto (tgt := 37) (dk_at dkX6_laysSets 86 rfl) rfl ?_
          refine ih (j + 1) _ _ _ _ _ (by omega) (fun s' a b => ?_) ?_ hM hF
          · rw [upz_ne (by omega), upz_ne (by omega), upz_ne (by omega)]; exact hq s' a b
          · have yb := y49.t (by omega)
            rw [sfT_s, srT_s, swT_s, if_pos yb, if_pos yb, if_pos yb, upz_eq, upz_eq, upz_eq]
            exact ⟨e92, rfl, rfl⟩
        refine q_aload_n (pc' := 68) (dk_at dkX6_laysSets 45 rfl) rfl rfl ?_
        refine r_getf (pc' := 71) fl_RX6_53 (dk_at dkX6_laysSets 46 rfl) hM.obj rfl rfl ?_
        refine q_iload_n (pc' := 72) (dk_at dkX6_laysSets 47 rfl) rfl rfl ?_
        refine r_iald (pc' := 73) (dk_at dkX6_laysSets 48 rfl) hM.setFamily s (by omega) (by omega) (by decide) rfl ?_
        rw [show (sF1 s) = sfT S.V s j from hj.1]
        refine q_iconst (pc' := 74) (dk_at dkX6_laysSets 49 rfl) rfl ?_
        refine q_icmp_eq (tgt := 87) (pc' := 77) (dk_at dkX6_laysSets 50 rfl) rfl rfl (by omega) (by omega) (fun c74 => ?_) (fun c74 => ?_)
        · refine q_iload_n (pc' := 88) (dk_at dkX6_laysSets 57 rfl) rfl rfl ?_
          refine q_goto (tgt := 92) (dk_at dkX6_laysSets 58 rfl) rfl ?_
          exact J92 _ (by first | rw [if_pos (by omega)] | rw [if_neg (by omega)])
        · refine q_aload_n (pc' := 78) (dk_at dkX6_laysSets 51 rfl) rfl rfl ?_
          refine r_getf (pc' := 81) fl_RX6_53 (dk_at dkX6_laysSets 52 rfl) hM.obj rfl rfl ?_
          refine q_iload_n (pc' := 82) (dk_at dkX6_laysSets 53 rfl) rfl rfl ?_
          refine r_iald (pc' := 83) (dk_at dkX6_laysSets 54 rfl) hM.setFamily s (by omega) (by omega) (by decide) rfl ?_
          rw [show (sF1 s) = sfT S.V s j from hj.1]
          refine q_iload_n (pc' := 84) (dk_at dkX6_laysSets 55 rfl) rfl rfl ?_
          refine q_icmp_ne (tgt := 91) (pc' := 87) (dk_at dkX6_laysSets 56 rfl) rfl rfl (by omega) (by omega) (fun c84 => ?_) (fun c84 => ?_)
          · refine q_iconst (pc' := 92) (dk_at dkX6_laysSets 59 rfl) rfl ?_
            exact J92 _ (by first | rw [if_pos (by omega)] | rw [if_neg (by omega)])
          · refine q_iload_n (pc' := 88) (dk_at dkX6_laysSets 57 rfl) rfl rfl ?_
            refine q_goto (tgt := 92) (dk_at dkX6_laysSets 58 rfl) rfl ?_
            exact J92 _ (by first | rw [if_pos (by omega)] | rw [if_neg (by omega)])

set_option maxHeartbeats 4000000 in
set_option maxRecDepth 100000 in
theorem l_ls1 {d n : Nat} {h : PH} {m : Nat} {S : Shp} {A sd sq op ss es bo su se tx ba le fr un ad : Nat → Int} {sm th l0 bm tl nf ne nc : Int} (hd : 2 ≤ d) (hR : MR A S) (hk : Sok S) (hc8 : S.cnt ≤ 8) (hp8 : 2 ^ S.cnt ≤ 256) : ∀ (c : Nat) (s : Nat) (sF1 sR1 sT1 : Nat → Int) (h1 : PH) (x2 x3 : Option PV), (s + c = 256) → (1 ≤ s) → (∀ s', 1 ≤ s' → s' < s → sF1 s' = sfT S.V s' S.cnt ∧ sR1 s' = srT S.V s' S.cnt ∧ sT1 s' = swT S.V s' S.cnt) → (isModel n h1 m A sd sm th sq op l0 ss es bo su se bm tx tl ba le fr un nf ne nc sF1 sR1 sT1 ad) → (Fr h h1 m (m + 19)) → QN mX6_laysSets d (FV n (fun h' => ∃ sF1 sR1 sT1, isModel n h' m A sd sm th sq op l0 ss es bo su se bm tx tl ba le fr un nf ne nc sF1 sR1 sT1 ad ∧ SetsM S sF1 sR1 sT1 ∧ Fr h h' m (m + 19))) 2 [some (vR m), some (vI (s : Int)), x2, x3] [] n h1 := by
  intro c
  induction c with
  | zero =>
    intro s sF1 sR1 sT1 h1 x2 x3 hc hs1 hq hM hF
    refine q_iload_n (pc' := 3) (dk_at dkX6_laysSets 2 rfl) rfl rfl ?_
    refine q_iconst (pc' := 4) (dk_at dkX6_laysSets 3 rfl) rfl ?_
    refine q_aload_n (pc' := 5) (dk_at dkX6_laysSets 4 rfl) rfl rfl ?_
    refine r_getf (pc' := 8) fl_RX6_7 (dk_at dkX6_laysSets 5 rfl) hM.obj rfl rfl ?_
    refine q_iconst (pc' := 9) (dk_at dkX6_laysSets 6 rfl) rfl ?_
    refine r_iald (pc' := 10) (dk_at dkX6_laysSets 7 rfl) hM.all 0 (by omega) (by omega) (by decide) rfl ?_
    rw [hR.c]
    refine q_ishl (pc' := 11) (dk_at dkX6_laysSets 8 rfl) (by omega) (by omega) rfl ?_
    have bb1 := nt_pow_r (j := S.cnt) (by omega)
    rw [show ((1 : Int) * 2 ^ ((S.cnt : Int)).toNat) = ((2 ^ S.cnt : Nat) : Int) from nt_shl1 S.cnt]
    refine q_icmp_ge (tgt := 141) (pc' := 14) (dk_at dkX6_laysSets 9 rfl) rfl rfl (by omega) (by omega) (fun c11 => ?_) (fun c11 => ?_)
    · refine r_vret rfl (dk_at dkX6_laysSets 89 rfl) ?_
      exact ⟨_, _, _, hM, fun s' a b => hq s' a (by omega), hF⟩
    · exfalso
      omega
  | succ c ih =>
    intro s sF1 sR1 sT1 h1 x2 x3 hc hs1 hq hM hF
    refine q_iload_n (pc' := 3) (dk_at dkX6_laysSets 2 rfl) rfl rfl ?_
    refine q_iconst (pc' := 4) (dk_at dkX6_laysSets 3 rfl) rfl ?_
    refine q_aload_n (pc' := 5) (dk_at dkX6_laysSets 4 rfl) rfl rfl ?_
    refine r_getf (pc' := 8) fl_RX6_7 (dk_at dkX6_laysSets 5 rfl) hM.obj rfl rfl ?_
    refine q_iconst (pc' := 9) (dk_at dkX6_laysSets 6 rfl) rfl ?_
    refine r_iald (pc' := 10) (dk_at dkX6_laysSets 7 rfl) hM.all 0 (by omega) (by omega) (by decide) rfl ?_
    rw [hR.c]
    refine q_ishl (pc' := 11) (dk_at dkX6_laysSets 8 rfl) (by omega) (by omega) rfl ?_
    have bb1 := nt_pow_r (j := S.cnt) (by omega)
    rw [show ((1 : Int) * 2 ^ ((S.cnt : Int)).toNat) = ((2 ^ S.cnt : Nat) : Int) from nt_shl1 S.cnt]
    refine q_icmp_ge (tgt := 141) (pc' := 14) (dk_at dkX6_laysSets 9 rfl) rfl rfl (by omega) (by omega) (fun c11 => ?_) (fun c11 => ?_)
    · refine r_vret rfl (dk_at dkX6_laysSets 89 rfl) ?_
      exact ⟨_, _, _, hM, fun s' a b => hq s' a (by omega), hF⟩
    · refine q_aload_n (pc' := 15) (dk_at dkX6_laysSets 10 rfl) rfl rfl ?_
      refine r_getf (pc' := 18) fl_RX6_53 (dk_at dkX6_laysSets 11 rfl) hM.obj rfl rfl ?_
      refine q_iload_n (pc' := 19) (dk_at dkX6_laysSets 12 rfl) rfl rfl ?_
      refine q_iconst (pc' := 20) (dk_at dkX6_laysSets 13 rfl) rfl ?_
      refine r_iast (pc' := 21) (dk_at dkX6_laysSets 14 rfl) hM.setFamily s (by omega) (by omega) (by decide) rfl (fun hh2 ehh2 => ?_)
      have hM := hM.w_setFamily ehh2
      have hF := hF.put ehh2 (by omega)
      refine q_aload_n (pc' := 22) (dk_at dkX6_laysSets 15 rfl) rfl rfl ?_
      refine r_getf (pc' := 25) fl_RX6_56 (dk_at dkX6_laysSets 16 rfl) hM.obj rfl rfl ?_
      refine q_iload_n (pc' := 26) (dk_at dkX6_laysSets 17 rfl) rfl rfl ?_
      refine q_iconst (pc' := 27) (dk_at dkX6_laysSets 18 rfl) rfl ?_
      refine r_iast (pc' := 28) (dk_at dkX6_laysSets 19 rfl) hM.setReady s (by omega) (by omega) (by decide) rfl (fun hh3 ehh3 => ?_)
      have hM := hM.w_setReady ehh3
      have hF := hF.put ehh3 (by omega)
      refine q_aload_n (pc' := 29) (dk_at dkX6_laysSets 20 rfl) rfl rfl ?_
      refine r_getf (pc' := 32) fl_RX6_59 (dk_at dkX6_laysSets 21 rfl) hM.obj rfl rfl ?_
      refine q_iload_n (pc' := 33) (dk_at dkX6_laysSets 22 rfl) rfl rfl ?_
      refine q_iconst (pc' := 34) (dk_at dkX6_laysSets 23 rfl) rfl ?_
      refine r_iast (pc' := 35) (dk_at dkX6_laysSets 24 rfl) hM.setTime s (by omega) (by omega) (by decide) rfl (fun hh4 ehh4 => ?_)
      have hM := hM.w_setTime ehh4
      have hF := hF.put ehh4 (by omega)
      refine q_iconst (pc' := 36) (dk_at dkX6_laysSets 25 rfl) rfl ?_
      refine q_istore_n (pc' := 37) (L' := [some (vR m), some (vI (s : Int)), some (vI 0), x3]) (dk_at dkX6_laysSets 26 rfl) (by decide) rfl rfl ?_
      refine l_ls2 (h := h) hd hR hk hc8 (s := s) (by omega) (by omega) hp8 ?_ S.cnt 0 _ _ _ _ _ (by omega) (fun s' a b => by rw [upz_ne (by omega), upz_ne (by omega), upz_ne (by omega)]; exact hq s' a b) ⟨upz_eq _ _ _, upz_eq _ _ _, upz_eq _ _ _⟩ hM hF
      intro sF2 sR2 sT2 h2 x2 x3 hq hM hF
      refine q_iinc (pc' := 138) (L' := [some (vR m), some (vI ((s : Int) + 1)), x2, x3]) (dk_at dkX6_laysSets 87 rfl) (by decide) rfl rfl rfl ?_
      rw [show ((s : Int) + 1) = ((s + 1 : Nat) : Int) by omega]
      refine q_goto (tgt := 2) (dk_at dkX6_laysSets 88 rfl) rfl ?_
      exact ih (s + 1) _ _ _ _ _ _ (by omega) (by omega) hq hM hF

set_option maxHeartbeats 4000000 in
set_option maxRecDepth 100000 in
theorem k_M_laysSets {d n : Nat} {h : PH} {m : Nat} {A sd sq op ss es bo su se tx ba le fr un sF sR sT ad : Nat → Int} {sm th l0 bm tl nf ne nc : Int} {S : Shp} (hd : 2 ≤ d) (hR : MR A S) (hk : Sok S) (hM : isModel n h m A sd sm th sq op l0 ss es bo su se bm tx tl ba le fr un nf ne nc sF sR sT ad) : CtrV mX6_laysSets d [vR m] n h (fun h' => ∃ sF1 sR1 sT1, isModel n h' m A sd sm th sq op l0 ss es bo su se bm tx tl ba le fr un nf ne nc sF1 sR1 sT1 ad ∧ SetsM S sF1 sR1 sT1 ∧ Fr h h' m (m + 19)) := by
  have hF : Fr h h m (m + 19) := Fr.rf
  refine q_beginV (L := [some (vR m), none, none, none]) rfl ?_
  refine q_iconst (pc' := 1) (dk_at dkX6_laysSets 0 rfl) rfl ?_
  refine q_istore_n (pc' := 2) (L' := [some (vR m), some (vI 1), none, none]) (dk_at dkX6_laysSets 1 rfl) (by decide) rfl rfl ?_
  exact l_ls1 (h := h) hd hR hk hk.c (nt_pow_r hk.c).2 255 1 _ _ _ _ none none (by omega) (by omega) (fun s' a b => by omega) hM hF

theorem end_item {S : Shp} (hk : Sok S) (hw : S.wh ≠ 1) {j : Nat} (hj : j < S.cnt) {fv t : Int} (hf : -1 ≤ fv) {now : Int} (h : (S.V 0 j ≠ fv ∧ now = (if S.er = 1 then t else max t (S.V 2 j)) + S.T (fv + 1).toNat (S.V 0 j).toNat) ∨ (S.V 0 j = fv ∧ now = t)) : max now (S.V 2 j) + S.V 1 j = endS S (2 ^ j) fv t := by
  rw [one_end hk hj]
  have v0 := hk.v 0 j
  unfold gapS
  rw [if_neg hw]
  rcases h with ⟨h1, h2⟩ | ⟨h1, h2⟩
  · have e : (if (fv + 1).toNat = (S.V 0 j).toNat + 1 then 0 else S.T (fv + 1).toNat (S.V 0 j).toNat) = S.T (fv + 1).toNat (S.V 0 j).toNat := if_neg (by omega)
    rw [e, h2]
  · have e : (if (fv + 1).toNat = (S.V 0 j).toNat + 1 then 0 else S.T (fv + 1).toNat (S.V 0 j).toNat) = 0 := if_pos (by omega)
    rw [e, h2]
    split <;> omega
theorem q_joinL {M : MD} {d n : Nat} {F : FT} {h : PH} (pc2 : Nat) (L0 : List (Option PV)) (P : Int → Prop) {pc : Nat} {L : List (Option PV)} (h2 : ∀ x x5, P x → QN M d F pc2 (L0 ++ [some (vI x), x5]) [] n h) (h1 : (∀ x x5, P x → QN M d F pc2 (L0 ++ [some (vI x), x5]) [] n h) → QN M d F pc L [] n h) : QN M d F pc L [] n h := h1 h2
set_option maxHeartbeats 4000000 in
set_option maxRecDepth 100000 in
theorem k_M_takesJob {d n : Nat} {h : PH} {m : Nat} {S : Shp} {A sd sq op ss es bo su se tx ba le fr un sF sR sT ad : Nat → Int} {sm th l0 bm tl nf ne nc : Int} {j t : Nat} {fv : Int} (hd : 2 ≤ d) (hR : MR A S) (hk : Sok S) (hw : S.wh ≠ 1) (hj : j < S.cnt) (hf : -1 ≤ fv ∧ fv ≤ 3) (ht : t ≤ 1200) (hM : isModel n h m A sd sm th sq op l0 ss es bo su se bm tx tl ba le fr un nf ne nc sF sR sT ad) : CtrV mX6_takesJob d [vR m, vI (j : Int), vI fv, vI (t : Int)] n h (fun h' => ∃ f1 t1 : Nat, ∃ c1 : Int, isModel n h' m A sd sm th sq op l0 ss es bo su se bm tx tl ba le fr un (f1 : Int) (t1 : Int) c1 sF sR sT ad ∧ ((f1 : Int) = S.V 0 j ∧ (t1 : Int) = endS S (2 ^ j) fv (t : Int) ∧ c1 = pen S j (t1 : Int)) ∧ Fr h h' m (m + 19)) := by
  have hc8 := hk.c
  have hF : Fr h h m (m + 19) := Fr.rf
  refine q_beginV (L := [some (vR m), some (vI (j : Int)), some (vI fv), some (vI (t : Int)), none, none]) rfl ?_
  refine q_aload_n (pc' := 1) (dk_at dkX6_takesJob 0 rfl) rfl rfl ?_
  refine q_aload_n (pc' := 2) (dk_at dkX6_takesJob 1 rfl) rfl rfl ?_
  refine q_iload_n (pc' := 3) (dk_at dkX6_takesJob 2 rfl) rfl rfl ?_
  refine q_iconst (pc' := 4) (dk_at dkX6_takesJob 3 rfl) rfl ?_
  have v0 := hk.v 0 j
  have v1 := hk.v 1 j
  have v2 := hk.v 2 j
  have v0 : 0 ≤ S.V 0 j ∧ S.V 0 j ≤ 3 := ⟨v0.1, v0.2.2.1 rfl⟩
  have v1 : 0 ≤ S.V 1 j ∧ S.V 1 j ≤ 50 := ⟨v1.1, v1.2.2.2.1 rfl⟩
  have v2 : 0 ≤ S.V 2 j ∧ S.V 2 j ≤ 300 := ⟨v2.1, v2.2.2.2.2.1 rfl⟩
  refine r_cVI (pc' := 7) (As := [vI (j : Int), vI 0]) (S := [vR m]) cv_RX6_104 (dk_at dkX6_takesJob 4 rfl) hM.obj rfl (k_M_of (d := 0) (j := j) (w := 0) hR hc8 rfl rfl (by omega) (by omega) hM) (by omega) (Nat.zero_le _) (Nat.zero_le _) rfl (Nat.le_of_ble_eq_true rfl) rfl (Nat.le_of_ble_eq_true rfl) rfl (fun xx1 hh2 hphh2 => ?_)
  obtain ⟨qq3, rfl⟩ := hphh2
  rw [qq3]
  obtain ⟨f1, ef⟩ : ∃ z : Nat, (z : Int) = S.V 0 j := ⟨(S.V 0 j).toNat, by omega⟩
  rw [← ef]
  refine r_putf (pc' := 10) fp_RX6_200 (dk_at dkX6_takesJob 5 rfl) hM.obj (Nat.le_of_ble_eq_true rfl) (PT_int _) rfl (fun hh4 ehh4 => ?_)
  have hM := hM.w_obj ehh4
  have hF := hF.put ehh4 (by omega)
  refine q_iload_n (pc' := 11) (dk_at dkX6_takesJob 6 rfl) rfl rfl ?_
  refine q_istore (pc' := 13) (L' := [some (vR m), some (vI (j : Int)), some (vI fv), some (vI (t : Int)), some (vI (t : Int)), none]) (dk_at dkX6_takesJob 7 rfl) (by decide) rfl rfl ?_
  refine q_joinL 62 [some (vR m), some (vI (j : Int)), some (vI fv), some (vI (t : Int))] (fun nw => (S.V 0 j ≠ fv ∧ nw = (if S.er = 1 then (t : Int) else max (t : Int) (S.V 2 j)) + S.T (fv + 1).toNat (S.V 0 j).toNat) ∨ (S.V 0 j = fv ∧ nw = (t : Int))) (fun nw x5 hn => ?_) (fun J62 => ?_)
  · have hnr : 0 ≤ nw ∧ nw ≤ 1900 := by have g := hk.t (fv + 1).toNat (S.V 0 j).toNat; rcases hn with z | z; split at z <;> omega; omega
    refine q_aload_n (pc' := 63) (dk_at dkX6_takesJob 35 rfl) rfl rfl ?_
    refine q_iload (pc' := 65) (dk_at dkX6_takesJob 36 rfl) rfl rfl ?_
    refine q_aload_n (pc' := 66) (dk_at dkX6_takesJob 37 rfl) rfl rfl ?_
    refine q_iload_n (pc' := 67) (dk_at dkX6_takesJob 38 rfl) rfl rfl ?_
    refine q_iconst (pc' := 68) (dk_at dkX6_takesJob 39 rfl) rfl ?_
    refine r_cVI (pc' := 71) (As := [vI (j : Int), vI 2]) (S := [vI nw, vR m]) cv_RX6_104 (dk_at dkX6_takesJob 40 rfl) hM.obj rfl (k_M_of (d := 0) (j := j) (w := 2) hR hc8 rfl rfl (by omega) (by omega) hM) (by omega) (Nat.zero_le _) (Nat.zero_le _) rfl (Nat.le_of_ble_eq_true rfl) rfl (Nat.le_of_ble_eq_true rfl) rfl (fun xx5 hh6 hphh6 => ?_)
    obtain ⟨qq7, rfl⟩ := hphh6
    rw [qq7]
    refine r_cSI (pc' := 74) (As := [vI nw, vI (S.V 2 j)]) (S := [vR m]) cs_RX6_143 (dk_at dkX6_takesJob 41 rfl) (k_M_later (d := 0) (by omega) (by omega)) (by omega) (Nat.zero_le _) (Nat.zero_le _) rfl (Nat.le_of_ble_eq_true rfl) rfl (Nat.le_of_ble_eq_true rfl) rfl (fun xx8 hh9 hphh9 => ?_)
    obtain ⟨qq10, rfl⟩ := hphh9
    rw [qq10]
    refine q_aload_n (pc' := 75) (dk_at dkX6_takesJob 42 rfl) rfl rfl ?_
    refine q_iload_n (pc' := 76) (dk_at dkX6_takesJob 43 rfl) rfl rfl ?_
    refine q_iconst (pc' := 77) (dk_at dkX6_takesJob 44 rfl) rfl ?_
    refine r_cVI (pc' := 80) (As := [vI (j : Int), vI 1]) (S := [vI (max nw (S.V 2 j)), vR m]) cv_RX6_104 (dk_at dkX6_takesJob 45 rfl) hM.obj rfl (k_M_of (d := 0) (j := j) (w := 1) hR hc8 rfl rfl (by omega) (by omega) hM) (by omega) (Nat.zero_le _) (Nat.zero_le _) rfl (Nat.le_of_ble_eq_true rfl) rfl (Nat.le_of_ble_eq_true rfl) rfl (fun xx11 hh12 hphh12 => ?_)
    obtain ⟨qq13, rfl⟩ := hphh12
    rw [qq13]
    refine q_iadd (pc' := 81) (dk_at dkX6_takesJob 46 rfl) rfl ?_
    refine r_putf (pc' := 84) fp_RX6_203 (dk_at dkX6_takesJob 47 rfl) hM.obj (Nat.le_of_ble_eq_true rfl) (PT_int _) rfl (fun hh14 ehh14 => ?_)
    have hM := hM.w_obj ehh14
    have hF := hF.put ehh14 (by omega)
    refine q_aload_n (pc' := 85) (dk_at dkX6_takesJob 48 rfl) rfl rfl ?_
    refine q_aload_n (pc' := 86) (dk_at dkX6_takesJob 49 rfl) rfl rfl ?_
    refine q_iload_n (pc' := 87) (dk_at dkX6_takesJob 50 rfl) rfl rfl ?_
    refine q_aload_n (pc' := 88) (dk_at dkX6_takesJob 51 rfl) rfl rfl ?_
    refine r_getf (pc' := 91) fl_RX6_203 (dk_at dkX6_takesJob 52 rfl) hM.obj rfl rfl ?_
    refine r_cVI (pc' := 94) (As := [vI (j : Int), vI ((max nw (S.V 2 j)) + (S.V 1 j))]) (S := [vR m]) cv_RX6_137 (dk_at dkX6_takesJob 53 rfl) hM.obj rfl (k_M_costOf (d := 1) (j := j) (by omega) hR hk rfl (by omega) (by omega) hM) (by omega) (Nat.zero_le _) (Nat.zero_le _) rfl (Nat.le_of_ble_eq_true rfl) rfl (Nat.le_of_ble_eq_true rfl) rfl (fun xx15 hh16 hphh16 => ?_)
    obtain ⟨qq17, rfl⟩ := hphh16
    rw [qq17]
    refine r_putf (pc' := 97) fp_RX6_206 (dk_at dkX6_takesJob 54 rfl) hM.obj (Nat.le_of_ble_eq_true rfl) (PT_int _) rfl (fun hh18 ehh18 => ?_)
    have hM := hM.w_obj ehh18
    have hF := hF.put ehh18 (by omega)
    refine r_vret rfl (dk_at dkX6_takesJob 55 rfl) ?_
    have eE := end_item hk hw hj (fv := fv) (t := (t : Int)) (now := nw) hf.1 hn
    refine ⟨f1, (max nw (S.V 2 j) + S.V 1 j).toNat, _, ?_, ⟨by omega, by omega, rfl⟩, hF⟩
    rw [show (((max nw (S.V 2 j) + S.V 1 j).toNat : Nat) : Int) = max nw (S.V 2 j) + S.V 1 j by omega]
    exact hM
  refine q_aload_n (pc' := 14) (dk_at dkX6_takesJob 8 rfl) rfl rfl ?_
  refine r_getf (pc' := 17) fl_RX6_200 (dk_at dkX6_takesJob 9 rfl) hM.obj rfl rfl ?_
  refine q_iload_n (pc' := 18) (dk_at dkX6_takesJob 10 rfl) rfl rfl ?_
  refine q_icmp_eq (tgt := 62) (pc' := 21) (dk_at dkX6_takesJob 11 rfl) rfl rfl (by omega) (by omega) (fun c18 => ?_) (fun c18 => ?_)
  · exact J62 _ _ (Or.inr ⟨by omega, rfl⟩)
  · refine q_join 46 [some (vR m), some (vI (j : Int)), some (vI fv), some (vI (t : Int)), some (vI (t : Int)), none] [] (fun jx => jx = (if S.er = 1 then (t : Int) else max (t : Int) (S.V 2 j))) (fun jx46 hbg => ?_) (fun J46 => ?_)
    · refine q_istore (pc' := 48) (L' := [some (vR m), some (vI (j : Int)), some (vI fv), some (vI (t : Int)), some (vI (t : Int)), some (vI jx46)]) (dk_at dkX6_takesJob 26 rfl) (by decide) rfl rfl ?_
      have hbr : 0 ≤ jx46 ∧ jx46 ≤ 1800 := by rw [hbg]; split <;> omega
      have g := hk.t (fv + 1).toNat f1
      refine q_iload (pc' := 50) (dk_at dkX6_takesJob 27 rfl) rfl rfl ?_
      refine q_aload_n (pc' := 51) (dk_at dkX6_takesJob 28 rfl) rfl rfl ?_
      refine q_iload_n (pc' := 52) (dk_at dkX6_takesJob 29 rfl) rfl rfl ?_
      refine q_aload_n (pc' := 53) (dk_at dkX6_takesJob 30 rfl) rfl rfl ?_
      refine r_getf (pc' := 56) fl_RX6_200 (dk_at dkX6_takesJob 31 rfl) hM.obj rfl rfl ?_
      refine r_cVI (pc' := 59) (As := [vI fv, vI (f1 : Int)]) (S := [vI jx46]) cv_RX6_146 (dk_at dkX6_takesJob 32 rfl) hM.obj rfl (k_M_setup (d := 0) (t := f1) (by first | exact hR) (by omega) rfl (by omega) hM) (by omega) (Nat.zero_le _) (Nat.zero_le _) rfl (Nat.le_of_ble_eq_true rfl) rfl (Nat.le_of_ble_eq_true rfl) rfl (fun xx19 hh20 hphh20 => ?_)
      obtain ⟨qq21, rfl⟩ := hphh20
      rw [qq21]
      refine q_iadd (pc' := 60) (dk_at dkX6_takesJob 33 rfl) rfl ?_
      refine q_istore (pc' := 62) (L' := [some (vR m), some (vI (j : Int)), some (vI fv), some (vI (t : Int)), some (vI (jx46 + (S.T (fv + 1).toNat f1))), some (vI jx46)]) (dk_at dkX6_takesJob 34 rfl) (by decide) rfl rfl ?_
      refine J62 _ _ (Or.inl ⟨by omega, ?_⟩)
      rw [← hbg, ← ef, Int.toNat_natCast]
    refine q_aload_n (pc' := 22) (dk_at dkX6_takesJob 12 rfl) rfl rfl ?_
    refine r_getf (pc' := 25) fl_RX6_7 (dk_at dkX6_takesJob 13 rfl) hM.obj rfl rfl ?_
    refine q_bipush (pc' := 27) (dk_at dkX6_takesJob 14 rfl) (by decide +kernel) rfl ?_
    refine r_iald (pc' := 28) (dk_at dkX6_takesJob 15 rfl) hM.all 62 (by omega) (by omega) (by decide) rfl ?_
    have hAe := hR.e
    have her := hk.e
    refine q_iconst (pc' := 29) (dk_at dkX6_takesJob 16 rfl) rfl ?_
    refine q_icmp_ne (tgt := 36) (pc' := 32) (dk_at dkX6_takesJob 17 rfl) rfl rfl (by omega) (by omega) (fun c29 => ?_) (fun c29 => ?_)
    · refine q_iload_n (pc' := 37) (dk_at dkX6_takesJob 20 rfl) rfl rfl ?_
      refine q_aload_n (pc' := 38) (dk_at dkX6_takesJob 21 rfl) rfl rfl ?_
      refine q_iload_n (pc' := 39) (dk_at dkX6_takesJob 22 rfl) rfl rfl ?_
      refine q_iconst (pc' := 40) (dk_at dkX6_takesJob 23 rfl) rfl ?_
      refine r_cVI (pc' := 43) (As := [vI (j : Int), vI 2]) (S := [vI (t : Int)]) cv_RX6_104 (dk_at dkX6_takesJob 24 rfl) hM.obj rfl (k_M_of (d := 0) (j := j) (w := 2) hR hc8 rfl rfl (by omega) (by omega) hM) (by omega) (Nat.zero_le _) (Nat.zero_le _) rfl (Nat.le_of_ble_eq_true rfl) rfl (Nat.le_of_ble_eq_true rfl) rfl (fun xx22 hh23 hphh23 => ?_)
      obtain ⟨qq24, rfl⟩ := hphh23
      rw [qq24]
      refine r_cSI (pc' := 46) (As := [vI (t : Int), vI (S.V 2 j)]) (S := []) cs_RX6_143 (dk_at dkX6_takesJob 25 rfl) (k_M_later (d := 0) (by omega) (by omega)) (by omega) (Nat.zero_le _) (Nat.zero_le _) rfl (Nat.le_of_ble_eq_true rfl) rfl (Nat.le_of_ble_eq_true rfl) rfl (fun xx25 hh26 hphh26 => ?_)
      obtain ⟨qq27, rfl⟩ := hphh26
      rw [qq27]
      exact J46 _ (by first | rw [if_pos (by omega)] | rw [if_neg (by omega)])
    · refine q_iload_n (pc' := 33) (dk_at dkX6_takesJob 18 rfl) rfl rfl ?_
      refine q_goto (tgt := 46) (dk_at dkX6_takesJob 19 rfl) rfl ?_
      exact J46 _ (by first | rw [if_pos (by omega)] | rw [if_neg (by omega)])

theorem smT_2k {S : Shp} (hk : Sok S) {s : Nat} {en : Int} (he : 0 ≤ en ∧ en ≤ 2000) : ∀ j, -1000000 ≤ smT S s en (neuM S) j ∧ smT S s en (neuM S) j ≤ 36000000 * j
  | 0 => by have := neuM_r S; show -1000000 ≤ neuM S ∧ neuM S ≤ 36000000 * ((0 : Nat) : Int); omega
  | j + 1 => by
    have h1 := smT_2k hk (s := s) he j
    have h2 := pen_2k hk j he
    have h3 := fun ho => pen_pos hk.v j ho he.1
    rw [smT_s]
    split
    · unfold jn
      split <;> omega
    · omega
set_option maxHeartbeats 4000000 in
set_option maxRecDepth 100000 in
theorem l_tks {d n : Nat} {h : PH} {m : Nat} {S : Shp} {s t f1 t1 : Nat} {fv x4 : Int} {A sd sq op ss es bo su se tx ba le fr un sF sR sT ad : Nat → Int} {sm th l0 bm tl : Int} (hd : 2 ≤ d) (hR : MR A S) (hk : Sok S) (hs1 : 1 ≤ s) (hs2 : s < 2 ^ S.cnt) (hc8 : S.cnt ≤ 8) (hp8 : 2 ^ S.cnt ≤ 256) (ef : (f1 : Int) = sfT S.V s S.cnt) (et : (t1 : Int) = endS S s fv (t : Int)) (htr : (t1 : Int) ≤ 2000) : ∀ (c : Nat) (j : Nat) (h1 : PH), (j + c = S.cnt) → (isModel n h1 m A sd sm th sq op l0 ss es bo su se bm tx tl ba le fr un (f1 : Int) (t1 : Int) (smT S s (t1 : Int) (neuM S) j) sF sR sT ad) → (Fr h h1 m (m + 19)) → QN mX6_takesSet d (FV n (fun h' => ∃ f1 t1 : Nat, ∃ c1 : Int, isModel n h' m A sd sm th sq op l0 ss es bo su se bm tx tl ba le fr un (f1 : Int) (t1 : Int) c1 sF sR sT ad ∧ ((f1 : Int) = sfT S.V s S.cnt ∧ (t1 : Int) = endS S s fv (t : Int) ∧ c1 = smT S s (t1 : Int) (neuM S) S.cnt) ∧ Fr h h' m (m + 19))) 80 [some (vR m), some (vI (s : Int)), some (vI fv), some (vI (t : Int)), some (vI x4), some (vI (j : Int))] [] n h1 := by
  intro c
  induction c with
  | zero =>
    intro j h1 hc hM hF
    have hA0 := hR.c
    have hb := smT_2k hk (s := s) ⟨Int.natCast_nonneg t1, htr⟩ j
    have hb1 := smT_2k hk (s := s) ⟨Int.natCast_nonneg t1, htr⟩ (j + 1)
    have hpn := pen_2k hk j ⟨Int.natCast_nonneg t1, htr⟩
    refine q_iload (pc' := 82) (dk_at dkX6_takesSet 46 rfl) rfl rfl ?_
    refine q_aload_n (pc' := 83) (dk_at dkX6_takesSet 47 rfl) rfl rfl ?_
    refine r_getf (pc' := 86) fl_RX6_7 (dk_at dkX6_takesSet 48 rfl) hM.obj rfl rfl ?_
    refine q_iconst (pc' := 87) (dk_at dkX6_takesSet 49 rfl) rfl ?_
    refine r_iald (pc' := 88) (dk_at dkX6_takesSet 50 rfl) hM.all 0 (by omega) (by omega) (by decide) rfl ?_
    refine q_icmp_ge (tgt := 135) (pc' := 91) (dk_at dkX6_takesSet 51 rfl) rfl rfl (by omega) (by omega) (fun c88 => ?_) (fun c88 => ?_)
    · refine r_vret rfl (dk_at dkX6_takesSet 72 rfl) ?_
      have ej : j = S.cnt := by omega
      rw [ej] at hM
      exact ⟨f1, t1, _, hM, ⟨ef, et, rfl⟩, hF⟩
    · exfalso
      omega
  | succ c ih =>
    intro j h1 hc hM hF
    have hA0 := hR.c
    have hb := smT_2k hk (s := s) ⟨Int.natCast_nonneg t1, htr⟩ j
    have hb1 := smT_2k hk (s := s) ⟨Int.natCast_nonneg t1, htr⟩ (j + 1)
    have hpn := pen_2k hk j ⟨Int.natCast_nonneg t1, htr⟩
    refine q_iload (pc' := 82) (dk_at dkX6_takesSet 46 rfl) rfl rfl ?_
    refine q_aload_n (pc' := 83) (dk_at dkX6_takesSet 47 rfl) rfl rfl ?_
    refine r_getf (pc' := 86) fl_RX6_7 (dk_at dkX6_takesSet 48 rfl) hM.obj rfl rfl ?_
    refine q_iconst (pc' := 87) (dk_at dkX6_takesSet 49 rfl) rfl ?_
    refine r_iald (pc' := 88) (dk_at dkX6_takesSet 50 rfl) hM.all 0 (by omega) (by omega) (by decide) rfl ?_
    refine q_icmp_ge (tgt := 135) (pc' := 91) (dk_at dkX6_takesSet 51 rfl) rfl rfl (by omega) (by omega) (fun c88 => ?_) (fun c88 => ?_)
    · refine r_vret rfl (dk_at dkX6_takesSet 72 rfl) ?_
      have ej : j = S.cnt := by omega
      rw [ej] at hM
      exact ⟨f1, t1, _, hM, ⟨ef, et, rfl⟩, hF⟩
    · refine q_aload_n (pc' := 92) (dk_at dkX6_takesSet 52 rfl) rfl rfl ?_
      refine q_join 126 [some (vR m), some (vI (s : Int)), some (vI fv), some (vI (t : Int)), some (vI x4), some (vI (j : Int))] [vR m] (fun jx => jx = smT S s (t1 : Int) (neuM S) (j + 1)) (fun jx126 e126 => ?_) (fun J126 => ?_)
      · rw [e126]
        refine r_putf (pc' := 129) fp_RX6_206 (dk_at dkX6_takesSet 69 rfl) hM.obj (Nat.le_of_ble_eq_true rfl) (PT_int _) rfl (fun hh1 ehh1 => ?_)
        have hM := hM.w_obj ehh1
        have hF := hF.put ehh1 (by omega)
        refine q_iinc (pc' := 132) (L' := [some (vR m), some (vI (s : Int)), some (vI fv), some (vI (t : Int)), some (vI x4), some (vI ((j : Int) + 1))]) (dk_at dkX6_takesSet 70 rfl) (by decide) rfl rfl rfl ?_
        rw [show ((j : Int) + 1) = ((j + 1 : Nat) : Int) by omega]
        refine q_goto (tgt := 80) (dk_at dkX6_takesSet 71 rfl) rfl ?_
        exact ih (j + 1) _ (by omega) hM hF
      refine q_iload_n (pc' := 93) (dk_at dkX6_takesSet 53 rfl) rfl rfl ?_
      refine q_iload (pc' := 95) (dk_at dkX6_takesSet 54 rfl) rfl rfl ?_
      refine r_cSI (pc' := 98) (As := [vI (s : Int), vI (j : Int)]) (S := [vR m]) cs_RX6_154 (dk_at dkX6_takesSet 55 rfl) (k_M_has (d := 0) (s := s) (k := j) (by omega) (by omega)) (by omega) (Nat.zero_le _) (Nat.zero_le _) rfl (Nat.le_of_ble_eq_true rfl) rfl (Nat.le_of_ble_eq_true rfl) rfl (fun xx2 hh3 hphh3 => ?_)
      obtain ⟨qq4, y95⟩ := hphh3
      rw [qq4]
      have yr95 := y95.r
      refine q_if_eq (tgt := 122) (pc' := 101) (dk_at dkX6_takesSet 56 rfl) rfl rfl (by omega) (fun c98 => ?_) (fun c98 => ?_)
      · refine q_aload_n (pc' := 123) (dk_at dkX6_takesSet 67 rfl) rfl rfl ?_
        refine r_getf (pc' := 126) fl_RX6_206 (dk_at dkX6_takesSet 68 rfl) hM.obj rfl rfl ?_
        exact J126 _ (by rw [smT_s, if_neg (y95.f (by omega))])
      · refine q_aload_n (pc' := 102) (dk_at dkX6_takesSet 57 rfl) rfl rfl ?_
        refine q_aload_n (pc' := 103) (dk_at dkX6_takesSet 58 rfl) rfl rfl ?_
        refine r_getf (pc' := 106) fl_RX6_206 (dk_at dkX6_takesSet 59 rfl) hM.obj rfl rfl ?_
        refine q_aload_n (pc' := 107) (dk_at dkX6_takesSet 60 rfl) rfl rfl ?_
        refine q_iload (pc' := 109) (dk_at dkX6_takesSet 61 rfl) rfl rfl ?_
        refine q_aload_n (pc' := 110) (dk_at dkX6_takesSet 62 rfl) rfl rfl ?_
        refine r_getf (pc' := 113) fl_RX6_203 (dk_at dkX6_takesSet 63 rfl) hM.obj rfl rfl ?_
        refine r_cVI (pc' := 116) (As := [vI (j : Int), vI (t1 : Int)]) (S := [vI (smT S s (t1 : Int) (neuM S) j), vR m, vR m]) cv_RX6_137 (dk_at dkX6_takesSet 64 rfl) hM.obj rfl (k_M_costOf (d := 1) (j := j) (by omega) hR hk rfl (by omega) (by omega) hM) (by omega) (Nat.zero_le _) (Nat.zero_le _) rfl (Nat.le_of_ble_eq_true rfl) rfl (Nat.le_of_ble_eq_true rfl) rfl (fun xx5 hh6 hphh6 => ?_)
        obtain ⟨qq7, rfl⟩ := hphh6
        rw [qq7]
        refine r_cVI (pc' := 119) (As := [vI (smT S s (t1 : Int) (neuM S) j), vI (pen S j (t1 : Int))]) (S := [vR m]) cv_RX6_140 (dk_at dkX6_takesSet 65 rfl) hM.obj rfl (k_M_with (d := 1) (by omega) hR hk (by omega) (by omega) hM) (by omega) (Nat.zero_le _) (Nat.zero_le _) rfl (Nat.le_of_ble_eq_true rfl) rfl (Nat.le_of_ble_eq_true rfl) rfl (fun xx8 hh9 hphh9 => ?_)
        obtain ⟨qq10, rfl⟩ := hphh9
        rw [qq10]
        refine q_goto (tgt := 126) (dk_at dkX6_takesSet 66 rfl) rfl ?_
        exact J126 _ (by rw [smT_s, if_pos (y95.t (by omega))])

set_option maxHeartbeats 4000000 in
set_option maxRecDepth 100000 in
theorem k_M_takesSet {d n : Nat} {h : PH} {m : Nat} {S : Shp} {A sd sq op ss es bo su se tx ba le fr un sF sR sT ad : Nat → Int} {sm th l0 bm tl nf ne nc : Int} {s t : Nat} {fv : Int} (hd : 2 ≤ d) (hR : MR A S) (hk : Sok S) (hs1 : 1 ≤ s) (hs2 : s < 2 ^ S.cnt) (hw : S.wh = 1) (hSt : SetsM S sF sR sT) (hsf : sfT S.V s S.cnt ≠ -1) (hf : -1 ≤ fv ∧ fv ≤ 3) (ht : t ≤ 1200) (hM : isModel n h m A sd sm th sq op l0 ss es bo su se bm tx tl ba le fr un nf ne nc sF sR sT ad) : CtrV mX6_takesSet d [vR m, vI (s : Int), vI fv, vI (t : Int)] n h (fun h' => ∃ f1 t1 : Nat, ∃ c1 : Int, isModel n h' m A sd sm th sq op l0 ss es bo su se bm tx tl ba le fr un (f1 : Int) (t1 : Int) c1 sF sR sT ad ∧ ((f1 : Int) = sfT S.V s S.cnt ∧ (t1 : Int) = endS S s fv (t : Int) ∧ c1 = smT S s (t1 : Int) (neuM S) S.cnt) ∧ Fr h h' m (m + 19)) := by
  have hc8 := hk.c
  have hF : Fr h h m (m + 19) := Fr.rf
  refine q_beginV (L := [some (vR m), some (vI (s : Int)), some (vI fv), some (vI (t : Int)), none, none]) rfl ?_
  have hSt1 := hSt s hs1 hs2
  have r0 := sfT_r hk.v s S.cnt
  have r1 := srT_r hk.v s S.cnt
  have r2 := swT_r hk.v s S.cnt
  have r3 := sfT_le3 hk.v (show s ≠ 0 by omega) S.cnt hs2
  have hp8 := (nt_pow_r hk.c).2
  refine q_aload_n (pc' := 1) (dk_at dkX6_takesSet 0 rfl) rfl rfl ?_
  refine q_aload_n (pc' := 2) (dk_at dkX6_takesSet 1 rfl) rfl rfl ?_
  refine r_getf (pc' := 5) fl_RX6_53 (dk_at dkX6_takesSet 2 rfl) hM.obj rfl rfl ?_
  refine q_iload_n (pc' := 6) (dk_at dkX6_takesSet 3 rfl) rfl rfl ?_
  refine r_iald (pc' := 7) (dk_at dkX6_takesSet 4 rfl) hM.setFamily s (by omega) (by omega) (by decide) rfl ?_
  obtain ⟨f1, ef⟩ : ∃ z : Nat, (z : Int) = sfT S.V s S.cnt := ⟨(sfT S.V s S.cnt).toNat, by omega⟩
  rw [show (sF s) = (f1 : Int) from hSt1.1.trans ef.symm]
  refine r_putf (pc' := 10) fp_RX6_200 (dk_at dkX6_takesSet 5 rfl) hM.obj (Nat.le_of_ble_eq_true rfl) (PT_int _) rfl (fun hh1 ehh1 => ?_)
  have hM := hM.w_obj ehh1
  have hF := hF.put ehh1 (by omega)
  refine q_join 35 [some (vR m), some (vI (s : Int)), some (vI fv), some (vI (t : Int)), none, none] [] (fun jx => jx = (if S.er = 1 then (t : Int) else max (t : Int) (srT S.V s S.cnt))) (fun jx35 hbg => ?_) (fun J35 => ?_)
  · refine q_istore (pc' := 37) (L' := [some (vR m), some (vI (s : Int)), some (vI fv), some (vI (t : Int)), some (vI jx35), none]) (dk_at dkX6_takesSet 20 rfl) (by decide) rfl rfl ?_
    have hbr : 0 ≤ jx35 ∧ jx35 ≤ 1800 := by rw [hbg]; split <;> omega
    have g := hk.t (fv + 1).toNat f1
    refine q_aload_n (pc' := 38) (dk_at dkX6_takesSet 21 rfl) rfl rfl ?_
    refine q_iload (pc' := 40) (dk_at dkX6_takesSet 22 rfl) rfl rfl ?_
    refine q_aload_n (pc' := 41) (dk_at dkX6_takesSet 23 rfl) rfl rfl ?_
    refine q_iload_n (pc' := 42) (dk_at dkX6_takesSet 24 rfl) rfl rfl ?_
    refine q_aload_n (pc' := 43) (dk_at dkX6_takesSet 25 rfl) rfl rfl ?_
    refine r_getf (pc' := 46) fl_RX6_200 (dk_at dkX6_takesSet 26 rfl) hM.obj rfl rfl ?_
    refine r_cVI (pc' := 49) (As := [vI fv, vI (f1 : Int)]) (S := [vI jx35, vR m]) cv_RX6_146 (dk_at dkX6_takesSet 27 rfl) hM.obj rfl (k_M_setup (d := 0) (t := f1) (by first | exact hR) (by omega) rfl (by omega) hM) (by omega) (Nat.zero_le _) (Nat.zero_le _) rfl (Nat.le_of_ble_eq_true rfl) rfl (Nat.le_of_ble_eq_true rfl) rfl (fun xx2 hh3 hphh3 => ?_)
    obtain ⟨qq4, rfl⟩ := hphh3
    rw [qq4]
    refine q_iadd (pc' := 50) (dk_at dkX6_takesSet 28 rfl) rfl ?_
    refine q_aload_n (pc' := 51) (dk_at dkX6_takesSet 29 rfl) rfl rfl ?_
    refine r_getf (pc' := 54) fl_RX6_56 (dk_at dkX6_takesSet 30 rfl) hM.obj rfl rfl ?_
    refine q_iload_n (pc' := 55) (dk_at dkX6_takesSet 31 rfl) rfl rfl ?_
    refine r_iald (pc' := 56) (dk_at dkX6_takesSet 32 rfl) hM.setReady s (by omega) (by omega) (by decide) rfl ?_
    rw [show (sR s) = (srT S.V s S.cnt) from hSt1.2.1]
    refine r_cSI (pc' := 59) (As := [vI (jx35 + (S.T (fv + 1).toNat f1)), vI (srT S.V s S.cnt)]) (S := [vR m]) cs_RX6_143 (dk_at dkX6_takesSet 33 rfl) (k_M_later (d := 0) (by omega) (by omega)) (by omega) (Nat.zero_le _) (Nat.zero_le _) rfl (Nat.le_of_ble_eq_true rfl) rfl (Nat.le_of_ble_eq_true rfl) rfl (fun xx5 hh6 hphh6 => ?_)
    obtain ⟨qq7, rfl⟩ := hphh6
    rw [qq7]
    refine q_aload_n (pc' := 60) (dk_at dkX6_takesSet 34 rfl) rfl rfl ?_
    refine r_getf (pc' := 63) fl_RX6_59 (dk_at dkX6_takesSet 35 rfl) hM.obj rfl rfl ?_
    refine q_iload_n (pc' := 64) (dk_at dkX6_takesSet 36 rfl) rfl rfl ?_
    refine r_iald (pc' := 65) (dk_at dkX6_takesSet 37 rfl) hM.setTime s (by omega) (by omega) (by decide) rfl ?_
    rw [show (sT s) = (swT S.V s S.cnt) from hSt1.2.2]
    refine q_iadd (pc' := 66) (dk_at dkX6_takesSet 38 rfl) rfl ?_
    have heE : ((max (jx35 + (S.T (fv + 1).toNat f1)) (srT S.V s S.cnt)) + (swT S.V s S.cnt)) = endS S s fv (t : Int) := by
      unfold endS gapS
      rw [if_pos hw, ← ef, Int.toNat_natCast, hbg]
    have heR := endS_le hk s fv (f := (t : Int)) (by omega)
    obtain ⟨t1, et⟩ : ∃ z : Nat, (z : Int) = endS S s fv (t : Int) := ⟨(endS S s fv (t : Int)).toNat, by omega⟩
    rw [show ((max (jx35 + (S.T (fv + 1).toNat f1)) (srT S.V s S.cnt)) + (swT S.V s S.cnt)) = (t1 : Int) from heE.trans et.symm]
    refine r_putf (pc' := 69) fp_RX6_203 (dk_at dkX6_takesSet 39 rfl) hM.obj (Nat.le_of_ble_eq_true rfl) (PT_int _) rfl (fun hh8 ehh8 => ?_)
    have hM := hM.w_obj ehh8
    have hF := hF.put ehh8 (by omega)
    refine q_aload_n (pc' := 70) (dk_at dkX6_takesSet 40 rfl) rfl rfl ?_
    refine q_aload_n (pc' := 71) (dk_at dkX6_takesSet 41 rfl) rfl rfl ?_
    refine r_cVI (pc' := 74) (As := []) (S := [vR m]) cv_RX6_122 (dk_at dkX6_takesSet 42 rfl) hM.obj rfl (k_M_costOfNothing (d := 1) (by omega) hR hk hM) (by omega) (Nat.zero_le _) (Nat.zero_le _) rfl (Nat.le_of_ble_eq_true rfl) rfl (Nat.le_of_ble_eq_true rfl) rfl (fun xx9 hh10 hphh10 => ?_)
    obtain ⟨qq11, rfl⟩ := hphh10
    rw [qq11]
    refine r_putf (pc' := 77) fp_RX6_206 (dk_at dkX6_takesSet 43 rfl) hM.obj (Nat.le_of_ble_eq_true rfl) (PT_int _) rfl (fun hh12 ehh12 => ?_)
    have hM := hM.w_obj ehh12
    have hF := hF.put ehh12 (by omega)
    refine q_iconst (pc' := 78) (dk_at dkX6_takesSet 44 rfl) rfl ?_
    refine q_istore (pc' := 80) (L' := [some (vR m), some (vI (s : Int)), some (vI fv), some (vI (t : Int)), some (vI jx35), some (vI 0)]) (dk_at dkX6_takesSet 45 rfl) (by decide) rfl rfl ?_
    exact l_tks (h := h) hd hR hk hs1 hs2 hc8 hp8 ef et (by omega) S.cnt 0 _ (by omega) hM hF
  refine q_aload_n (pc' := 11) (dk_at dkX6_takesSet 6 rfl) rfl rfl ?_
  refine r_getf (pc' := 14) fl_RX6_7 (dk_at dkX6_takesSet 7 rfl) hM.obj rfl rfl ?_
  refine q_bipush (pc' := 16) (dk_at dkX6_takesSet 8 rfl) (by decide +kernel) rfl ?_
  refine r_iald (pc' := 17) (dk_at dkX6_takesSet 9 rfl) hM.all 62 (by omega) (by omega) (by decide) rfl ?_
  have hAe := hR.e
  have her := hk.e
  refine q_iconst (pc' := 18) (dk_at dkX6_takesSet 10 rfl) rfl ?_
  refine q_icmp_ne (tgt := 25) (pc' := 21) (dk_at dkX6_takesSet 11 rfl) rfl rfl (by omega) (by omega) (fun c18 => ?_) (fun c18 => ?_)
  · refine q_iload_n (pc' := 26) (dk_at dkX6_takesSet 14 rfl) rfl rfl ?_
    refine q_aload_n (pc' := 27) (dk_at dkX6_takesSet 15 rfl) rfl rfl ?_
    refine r_getf (pc' := 30) fl_RX6_56 (dk_at dkX6_takesSet 16 rfl) hM.obj rfl rfl ?_
    refine q_iload_n (pc' := 31) (dk_at dkX6_takesSet 17 rfl) rfl rfl ?_
    refine r_iald (pc' := 32) (dk_at dkX6_takesSet 18 rfl) hM.setReady s (by omega) (by omega) (by decide) rfl ?_
    rw [show (sR s) = (srT S.V s S.cnt) from hSt1.2.1]
    refine r_cSI (pc' := 35) (As := [vI (t : Int), vI (srT S.V s S.cnt)]) (S := []) cs_RX6_143 (dk_at dkX6_takesSet 19 rfl) (k_M_later (d := 0) (by omega) (by omega)) (by omega) (Nat.zero_le _) (Nat.zero_le _) rfl (Nat.le_of_ble_eq_true rfl) rfl (Nat.le_of_ble_eq_true rfl) rfl (fun xx13 hh14 hphh14 => ?_)
    obtain ⟨qq15, rfl⟩ := hphh14
    rw [qq15]
    exact J35 _ (by first | rw [if_pos (by omega)] | rw [if_neg (by omega)])
  · refine q_iload_n (pc' := 22) (dk_at dkX6_takesSet 12 rfl) rfl rfl ?_
    refine q_goto (tgt := 35) (dk_at dkX6_takesSet 13 rfl) rfl ?_
    exact J35 _ (by first | rw [if_pos (by omega)] | rw [if_neg (by omega)])

set_option maxHeartbeats 4000000 in
set_option maxRecDepth 100000 in
theorem k_M_reaches {d n : Nat} {h : PH} {m : Nat} {A sd sq op ss es bo su se tx ba le fr un sF sR sT ad : Nat → Int} {sm th l0 bm tl nf ne nc : Int} {s f t : Nat} {c : Int} (hs : s < 256) (hf : f < 4) (ht : t < 1200) (hc : IR c) (hl : -2000000000 ≤ le (1200 * (4 * s + f) + t) ∧ le (1200 * (4 * s + f) + t) ≤ 2000000000) (hfr : 0 ≤ fr (4 * s + f) ∧ fr (4 * s + f) ≤ 1200) (hun : -1 ≤ un (4 * s + f) ∧ un (4 * s + f) ≤ 1199) (hM : isModel n h m A sd sm th sq op l0 ss es bo su se bm tx tl ba le fr un nf ne nc sF sR sT ad) : CtrV mX6_reaches d [vR m, vI (s : Int), vI (f : Int), vI (t : Int), vI c] n h (fun h' => isModel n h' m A sd sm th sq op l0 ss es bo su se bm tx tl ba (upz le (1200 * (4 * s + f) + t) (min c (le (1200 * (4 * s + f) + t)))) (upz fr (4 * s + f) (min (t : Int) (fr (4 * s + f)))) (upz un (4 * s + f) (max (t : Int) (un (4 * s + f)))) nf ne nc sF sR sT ad ∧ Fr h h' m (m + 19)) := by
  have hF : Fr h h m (m + 19) := Fr.rf
  refine q_beginV (L := [some (vR m), some (vI (s : Int)), some (vI (f : Int)), some (vI (t : Int)), some (vI c), none, none]) rfl ?_
  refine q_iconst (pc' := 1) (dk_at dkX6_reaches 0 rfl) rfl ?_
  refine q_iload_n (pc' := 2) (dk_at dkX6_reaches 1 rfl) rfl rfl ?_
  refine q_imul (pc' := 3) (dk_at dkX6_reaches 2 rfl) rfl ?_
  refine q_iload_n (pc' := 4) (dk_at dkX6_reaches 3 rfl) rfl rfl ?_
  refine q_iadd (pc' := 5) (dk_at dkX6_reaches 4 rfl) rfl ?_
  refine q_istore (pc' := 7) (L' := [some (vR m), some (vI (s : Int)), some (vI (f : Int)), some (vI (t : Int)), some (vI c), some (vI ((4 * (s : Int)) + (f : Int))), none]) (dk_at dkX6_reaches 5 rfl) (by decide) rfl rfl ?_
  refine q_sipush (pc' := 10) (dk_at dkX6_reaches 6 rfl) (by decide +kernel) rfl ?_
  refine q_iload (pc' := 12) (dk_at dkX6_reaches 7 rfl) rfl rfl ?_
  refine q_imul (pc' := 13) (dk_at dkX6_reaches 8 rfl) rfl ?_
  refine q_iload_n (pc' := 14) (dk_at dkX6_reaches 9 rfl) rfl rfl ?_
  refine q_iadd (pc' := 15) (dk_at dkX6_reaches 10 rfl) rfl ?_
  refine q_istore (pc' := 17) (L' := [some (vR m), some (vI (s : Int)), some (vI (f : Int)), some (vI (t : Int)), some (vI c), some (vI ((4 * (s : Int)) + (f : Int))), some (vI ((1200 * ((4 * (s : Int)) + (f : Int))) + (t : Int)))]) (dk_at dkX6_reaches 11 rfl) (by decide) rfl rfl ?_
  refine q_aload_n (pc' := 18) (dk_at dkX6_reaches 12 rfl) rfl rfl ?_
  refine r_getf (pc' := 21) fl_RX6_44 (dk_at dkX6_reaches 13 rfl) hM.obj rfl rfl ?_
  refine q_iload (pc' := 23) (dk_at dkX6_reaches 14 rfl) rfl rfl ?_
  refine q_join 47 [some (vR m), some (vI (s : Int)), some (vI (f : Int)), some (vI (t : Int)), some (vI c), some (vI ((4 * (s : Int)) + (f : Int))), some (vI ((1200 * ((4 * (s : Int)) + (f : Int))) + (t : Int)))] [vI ((1200 * ((4 * (s : Int)) + (f : Int))) + (t : Int)), vR (m + 12)] (fun jx => jx = (min c (le (1200 * (4 * s + f) + t)))) (fun jx47 e47 => ?_) (fun J47 => ?_)
  · rw [e47]
    refine r_iast (pc' := 48) (dk_at dkX6_reaches 27 rfl) hM.least (1200 * (4 * s + f) + t) (by omega) (by omega) (by decide) rfl (fun hh1 ehh1 => ?_)
    have hM := hM.w_least ehh1
    have hF := hF.put ehh1 (by omega)
    refine q_aload_n (pc' := 49) (dk_at dkX6_reaches 28 rfl) rfl rfl ?_
    refine r_getf (pc' := 52) fl_RX6_47 (dk_at dkX6_reaches 29 rfl) hM.obj rfl rfl ?_
    refine q_iload (pc' := 54) (dk_at dkX6_reaches 30 rfl) rfl rfl ?_
    refine q_join 76 [some (vR m), some (vI (s : Int)), some (vI (f : Int)), some (vI (t : Int)), some (vI c), some (vI ((4 * (s : Int)) + (f : Int))), some (vI ((1200 * ((4 * (s : Int)) + (f : Int))) + (t : Int)))] [vI ((4 * (s : Int)) + (f : Int)), vR (m + 13)] (fun jx => jx = (min (t : Int) (fr (4 * s + f)))) (fun jx76 e76 => ?_) (fun J76 => ?_)
    · rw [e76]
      refine r_iast (pc' := 77) (dk_at dkX6_reaches 43 rfl) hM.from (4 * s + f) (by omega) (by omega) (by decide) rfl (fun hh2 ehh2 => ?_)
      have hM := hM.w_from ehh2
      have hF := hF.put ehh2 (by omega)
      refine q_aload_n (pc' := 78) (dk_at dkX6_reaches 44 rfl) rfl rfl ?_
      refine r_getf (pc' := 81) fl_RX6_50 (dk_at dkX6_reaches 45 rfl) hM.obj rfl rfl ?_
      refine q_iload (pc' := 83) (dk_at dkX6_reaches 46 rfl) rfl rfl ?_
      refine q_join 105 [some (vR m), some (vI (s : Int)), some (vI (f : Int)), some (vI (t : Int)), some (vI c), some (vI ((4 * (s : Int)) + (f : Int))), some (vI ((1200 * ((4 * (s : Int)) + (f : Int))) + (t : Int)))] [vI ((4 * (s : Int)) + (f : Int)), vR (m + 14)] (fun jx => jx = (max (t : Int) (un (4 * s + f)))) (fun jx105 e105 => ?_) (fun J105 => ?_)
      · rw [e105]
        refine r_iast (pc' := 106) (dk_at dkX6_reaches 59 rfl) hM.until (4 * s + f) (by omega) (by omega) (by decide) rfl (fun hh3 ehh3 => ?_)
        have hM := hM.w_until ehh3
        have hF := hF.put ehh3 (by omega)
        refine r_vret rfl (dk_at dkX6_reaches 60 rfl) ?_
        exact ⟨hM, hF⟩
      refine q_iload_n (pc' := 84) (dk_at dkX6_reaches 47 rfl) rfl rfl ?_
      refine q_aload_n (pc' := 85) (dk_at dkX6_reaches 48 rfl) rfl rfl ?_
      refine r_getf (pc' := 88) fl_RX6_50 (dk_at dkX6_reaches 49 rfl) hM.obj rfl rfl ?_
      refine q_iload (pc' := 90) (dk_at dkX6_reaches 50 rfl) rfl rfl ?_
      refine r_iald (pc' := 91) (dk_at dkX6_reaches 51 rfl) hM.until (4 * s + f) (by omega) (by omega) (by decide) rfl ?_
      refine q_icmp_le (tgt := 98) (pc' := 94) (dk_at dkX6_reaches 52 rfl) rfl rfl (by omega) (by omega) (fun c91 => ?_) (fun c91 => ?_)
      · refine q_aload_n (pc' := 99) (dk_at dkX6_reaches 55 rfl) rfl rfl ?_
        refine r_getf (pc' := 102) fl_RX6_50 (dk_at dkX6_reaches 56 rfl) hM.obj rfl rfl ?_
        refine q_iload (pc' := 104) (dk_at dkX6_reaches 57 rfl) rfl rfl ?_
        refine r_iald (pc' := 105) (dk_at dkX6_reaches 58 rfl) hM.until (4 * s + f) (by omega) (by omega) (by decide) rfl ?_
        exact J105 _ (by omega)
      · refine q_iload_n (pc' := 95) (dk_at dkX6_reaches 53 rfl) rfl rfl ?_
        refine q_goto (tgt := 105) (dk_at dkX6_reaches 54 rfl) rfl ?_
        exact J105 _ (by omega)
    refine q_iload_n (pc' := 55) (dk_at dkX6_reaches 31 rfl) rfl rfl ?_
    refine q_aload_n (pc' := 56) (dk_at dkX6_reaches 32 rfl) rfl rfl ?_
    refine r_getf (pc' := 59) fl_RX6_47 (dk_at dkX6_reaches 33 rfl) hM.obj rfl rfl ?_
    refine q_iload (pc' := 61) (dk_at dkX6_reaches 34 rfl) rfl rfl ?_
    refine r_iald (pc' := 62) (dk_at dkX6_reaches 35 rfl) hM.from (4 * s + f) (by omega) (by omega) (by decide) rfl ?_
    refine q_icmp_ge (tgt := 69) (pc' := 65) (dk_at dkX6_reaches 36 rfl) rfl rfl (by omega) (by omega) (fun c62 => ?_) (fun c62 => ?_)
    · refine q_aload_n (pc' := 70) (dk_at dkX6_reaches 39 rfl) rfl rfl ?_
      refine r_getf (pc' := 73) fl_RX6_47 (dk_at dkX6_reaches 40 rfl) hM.obj rfl rfl ?_
      refine q_iload (pc' := 75) (dk_at dkX6_reaches 41 rfl) rfl rfl ?_
      refine r_iald (pc' := 76) (dk_at dkX6_reaches 42 rfl) hM.from (4 * s + f) (by omega) (by omega) (by decide) rfl ?_
      exact J76 _ (by omega)
    · refine q_iload_n (pc' := 66) (dk_at dkX6_reaches 37 rfl) rfl rfl ?_
      refine q_goto (tgt := 76) (dk_at dkX6_reaches 38 rfl) rfl ?_
      exact J76 _ (by omega)
  refine q_iload (pc' := 25) (dk_at dkX6_reaches 15 rfl) rfl rfl ?_
  refine q_aload_n (pc' := 26) (dk_at dkX6_reaches 16 rfl) rfl rfl ?_
  refine r_getf (pc' := 29) fl_RX6_44 (dk_at dkX6_reaches 17 rfl) hM.obj rfl rfl ?_
  refine q_iload (pc' := 31) (dk_at dkX6_reaches 18 rfl) rfl rfl ?_
  refine r_iald (pc' := 32) (dk_at dkX6_reaches 19 rfl) hM.least (1200 * (4 * s + f) + t) (by omega) (by omega) (by decide) rfl ?_
  refine q_icmp_ge (tgt := 40) (pc' := 35) (dk_at dkX6_reaches 20 rfl) rfl rfl (by omega) (by omega) (fun c32 => ?_) (fun c32 => ?_)
  · refine q_aload_n (pc' := 41) (dk_at dkX6_reaches 23 rfl) rfl rfl ?_
    refine r_getf (pc' := 44) fl_RX6_44 (dk_at dkX6_reaches 24 rfl) hM.obj rfl rfl ?_
    refine q_iload (pc' := 46) (dk_at dkX6_reaches 25 rfl) rfl rfl ?_
    refine r_iald (pc' := 47) (dk_at dkX6_reaches 26 rfl) hM.least (1200 * (4 * s + f) + t) (by omega) (by omega) (by decide) rfl ?_
    exact J47 _ (by omega)
  · refine q_iload (pc' := 37) (dk_at dkX6_reaches 21 rfl) rfl rfl ?_
    refine q_goto (tgt := 47) (dk_at dkX6_reaches 22 rfl) rfl ?_
    exact J47 _ (by omega)

theorem LInv.clr {le fr un : Nat → Int} (h : LInv le fr un) (i : Nat) : LInv (upz le i 2000000000) fr un := fun k hk => by
  obtain ⟨h1, h2, h3⟩ := h k hk
  refine ⟨h1, h2, fun t ht z => ?_⟩
  by_cases y : 1200 * k + t = i
  · rw [y, upz_eq]
  · rw [upz_ne y]; exact h3 t ht z
theorem LInv.clk {le fr un : Nat → Int} (h : LInv le fr un) (k : Nat) (hc : ∀ t, t < 1200 → le (1200 * k + t) = 2000000000) : LInv le (upz fr k 1200) (upz un k (-1)) := fun k' hk => by
  obtain ⟨h1, h2, h3⟩ := h k' hk
  by_cases y : k' = k
  · rw [y, upz_eq, upz_eq]
    exact ⟨by omega, by omega, fun t ht _ => hc t ht⟩
  · rw [upz_ne y, upz_ne y]
    exact ⟨h1, h2, h3⟩
set_option maxHeartbeats 4000000 in
set_option maxRecDepth 100000 in
theorem l_cl2 {d n : Nat} {h : PH} {m : Nat} {A sd sq op ss es bo su se tx ba sF sR sT ad : Nat → Int} {sm th l0 bm tl nf ne nc : Int} {k : Nat} (hk : k < 1024) (hex : ∀ (le1 fr1 un1 : Nat → Int) (h1 : PH) (x2 : Option PV), LInv le1 fr1 un1 → (∀ i, i < 1200 * k → le1 i = 2000000000) → (∀ k', k' < k → fr1 k' = 1200 ∧ un1 k' = -1) → (∀ t : Nat, t < 1200 → le1 (1200 * k + t) = 2000000000) → isModel n h1 m A sd sm th sq op l0 ss es bo su se bm tx tl ba le1 fr1 un1 nf ne nc sF sR sT ad → Fr h h1 m (m + 19) → QN mX6_clears d (FV n (fun h' => ∃ le1 fr1 un1, isModel n h' m A sd sm th sq op l0 ss es bo su se bm tx tl ba le1 fr1 un1 nf ne nc sF sR sT ad ∧ (∀ i, i < 1228800 → le1 i = 2000000000) ∧ (∀ k, k < 1024 → fr1 k = 1200 ∧ un1 k = -1) ∧ Fr h h' m (m + 19))) 46 [some (vR m), some (vI (k : Int)), x2] [] n h1) : ∀ (c : Nat) (t : Nat) (le1 fr1 un1 : Nat → Int) (h1 : PH), (t + c = 1201) → (LInv le1 fr1 un1) → ((∀ i, i < 1200 * k → le1 i = 2000000000)) → ((∀ k', k' < k → fr1 k' = 1200 ∧ un1 k' = -1)) → (∀ t', t' < 1200 → t' < t → le1 (1200 * k + t') = 2000000000) → (isModel n h1 m A sd sm th sq op l0 ss es bo su se bm tx tl ba le1 fr1 un1 nf ne nc sF sR sT ad) → (Fr h h1 m (m + 19)) → QN mX6_clears d (FV n (fun h' => ∃ le1 fr1 un1, isModel n h' m A sd sm th sq op l0 ss es bo su se bm tx tl ba le1 fr1 un1 nf ne nc sF sR sT ad ∧ (∀ i, i < 1228800 → le1 i = 2000000000) ∧ (∀ k, k < 1024 → fr1 k = 1200 ∧ un1 k = -1) ∧ Fr h h' m (m + 19))) 16 [some (vR m), some (vI (k : Int)), some (vI (t : Int))] [] n h1 := by
  intro c
  induction c with
  | zero =>
    intro t le1 fr1 un1 h1 hc hL hq1 hq2 hq3 hM hF
    have hlk := (hL k hk).2.1
    refine q_iload_n (pc' := 17) (dk_at dkX6_clears 10 rfl) rfl rfl ?_
    refine q_aload_n (pc' := 18) (dk_at dkX6_clears 11 rfl) rfl rfl ?_
    refine r_getf (pc' := 21) fl_RX6_50 (dk_at dkX6_clears 12 rfl) hM.obj rfl rfl ?_
    refine q_iload_n (pc' := 22) (dk_at dkX6_clears 13 rfl) rfl rfl ?_
    refine r_iald (pc' := 23) (dk_at dkX6_clears 14 rfl) hM.until k (by omega) (by omega) (by decide) rfl ?_
    refine q_icmp_gt (tgt := 46) (pc' := 26) (dk_at dkX6_clears 15 rfl) rfl rfl (by omega) (by omega) (fun c23 => ?_) (fun c23 => ?_)
    · refine hex _ _ _ _ _ hL hq1 hq2 (fun t' ht' => ?_) hM hF
      by_cases z : t' < t
      · exact hq3 t' ht' z
      · exact (hL k hk).2.2 t' ht' (by omega)
    · exfalso
      omega
  | succ c ih =>
    intro t le1 fr1 un1 h1 hc hL hq1 hq2 hq3 hM hF
    have hlk := (hL k hk).2.1
    refine q_iload_n (pc' := 17) (dk_at dkX6_clears 10 rfl) rfl rfl ?_
    refine q_aload_n (pc' := 18) (dk_at dkX6_clears 11 rfl) rfl rfl ?_
    refine r_getf (pc' := 21) fl_RX6_50 (dk_at dkX6_clears 12 rfl) hM.obj rfl rfl ?_
    refine q_iload_n (pc' := 22) (dk_at dkX6_clears 13 rfl) rfl rfl ?_
    refine r_iald (pc' := 23) (dk_at dkX6_clears 14 rfl) hM.until k (by omega) (by omega) (by decide) rfl ?_
    refine q_icmp_gt (tgt := 46) (pc' := 26) (dk_at dkX6_clears 15 rfl) rfl rfl (by omega) (by omega) (fun c23 => ?_) (fun c23 => ?_)
    · refine hex _ _ _ _ _ hL hq1 hq2 (fun t' ht' => ?_) hM hF
      by_cases z : t' < t
      · exact hq3 t' ht' z
      · exact (hL k hk).2.2 t' ht' (by omega)
    · have hlt : t < 1200 := by omega
      refine q_aload_n (pc' := 27) (dk_at dkX6_clears 16 rfl) rfl rfl ?_
      refine r_getf (pc' := 30) fl_RX6_44 (dk_at dkX6_clears 17 rfl) hM.obj rfl rfl ?_
      refine q_sipush (pc' := 33) (dk_at dkX6_clears 18 rfl) (by decide +kernel) rfl ?_
      refine q_iload_n (pc' := 34) (dk_at dkX6_clears 19 rfl) rfl rfl ?_
      refine q_imul (pc' := 35) (dk_at dkX6_clears 20 rfl) rfl ?_
      refine q_iload_n (pc' := 36) (dk_at dkX6_clears 21 rfl) rfl rfl ?_
      refine q_iadd (pc' := 37) (dk_at dkX6_clears 22 rfl) rfl ?_
      refine q_ldc (pc' := 39) (z := 2000000000) kc_RX6_65 (by decide +kernel) (dk_at dkX6_clears 23 rfl) rfl ?_
      refine r_iast (pc' := 40) (dk_at dkX6_clears 24 rfl) hM.least (1200 * k + t) (by omega) (by omega) (by decide) rfl (fun hh1 ehh1 => ?_)
      have hM := hM.w_least ehh1
      have hF := hF.put ehh1 (by omega)
      refine q_iinc (pc' := 43) (L' := [some (vR m), some (vI (k : Int)), some (vI ((t : Int) + 1))]) (dk_at dkX6_clears 25 rfl) (by decide) rfl rfl rfl ?_
      rw [show ((t : Int) + 1) = ((t + 1 : Nat) : Int) by omega]
      refine q_goto (tgt := 16) (dk_at dkX6_clears 26 rfl) rfl ?_
      refine ih (t + 1) _ _ _ _ (by omega) (hL.clr _) (fun i hi => by rw [upz_ne (by omega)]; exact hq1 i hi) hq2 (fun t' a b => ?_) hM hF
      by_cases z : t' = t
      · rw [z, upz_eq]
      · rw [upz_ne (by omega)]; exact hq3 t' a (by omega)

set_option maxHeartbeats 4000000 in
set_option maxRecDepth 100000 in
theorem l_cl1 {d n : Nat} {h : PH} {m : Nat} {A sd sq op ss es bo su se tx ba sF sR sT ad : Nat → Int} {sm th l0 bm tl nf ne nc : Int} : ∀ (c : Nat) (k : Nat) (le1 fr1 un1 : Nat → Int) (h1 : PH) (x2 : Option PV), (k + c = 1024) → (LInv le1 fr1 un1) → ((∀ i, i < 1200 * k → le1 i = 2000000000)) → ((∀ k', k' < k → fr1 k' = 1200 ∧ un1 k' = -1)) → (isModel n h1 m A sd sm th sq op l0 ss es bo su se bm tx tl ba le1 fr1 un1 nf ne nc sF sR sT ad) → (Fr h h1 m (m + 19)) → QN mX6_clears d (FV n (fun h' => ∃ le1 fr1 un1, isModel n h' m A sd sm th sq op l0 ss es bo su se bm tx tl ba le1 fr1 un1 nf ne nc sF sR sT ad ∧ (∀ i, i < 1228800 → le1 i = 2000000000) ∧ (∀ k, k < 1024 → fr1 k = 1200 ∧ un1 k = -1) ∧ Fr h h' m (m + 19))) 2 [some (vR m), some (vI (k : Int)), x2] [] n h1 := by
  intro c
  induction c with
  | zero =>
    intro k le1 fr1 un1 h1 x2 hc hL hq1 hq2 hM hF
    refine q_iload_n (pc' := 3) (dk_at dkX6_clears 2 rfl) rfl rfl ?_
    refine q_sipush (pc' := 6) (dk_at dkX6_clears 3 rfl) (by decide +kernel) rfl ?_
    refine q_icmp_ge (tgt := 68) (pc' := 9) (dk_at dkX6_clears 4 rfl) rfl rfl (by omega) (by omega) (fun c6 => ?_) (fun c6 => ?_)
    · refine r_vret rfl (dk_at dkX6_clears 39 rfl) ?_
      have ek : k = 1024 := by omega
      rw [ek] at hq1 hq2
      exact ⟨_, _, _, hM, hq1, hq2, hF⟩
    · exfalso
      omega
  | succ c ih =>
    intro k le1 fr1 un1 h1 x2 hc hL hq1 hq2 hM hF
    refine q_iload_n (pc' := 3) (dk_at dkX6_clears 2 rfl) rfl rfl ?_
    refine q_sipush (pc' := 6) (dk_at dkX6_clears 3 rfl) (by decide +kernel) rfl ?_
    refine q_icmp_ge (tgt := 68) (pc' := 9) (dk_at dkX6_clears 4 rfl) rfl rfl (by omega) (by omega) (fun c6 => ?_) (fun c6 => ?_)
    · refine r_vret rfl (dk_at dkX6_clears 39 rfl) ?_
      have ek : k = 1024 := by omega
      rw [ek] at hq1 hq2
      exact ⟨_, _, _, hM, hq1, hq2, hF⟩
    · refine q_aload_n (pc' := 10) (dk_at dkX6_clears 5 rfl) rfl rfl ?_
      refine r_getf (pc' := 13) fl_RX6_47 (dk_at dkX6_clears 6 rfl) hM.obj rfl rfl ?_
      refine q_iload_n (pc' := 14) (dk_at dkX6_clears 7 rfl) rfl rfl ?_
      refine r_iald (pc' := 15) (dk_at dkX6_clears 8 rfl) hM.from k (by omega) (by omega) (by decide) rfl ?_
      have hlk := hL k (by omega)
      obtain ⟨t, et⟩ : ∃ z : Nat, fr1 k = (z : Int) := ⟨(fr1 k).toNat, by omega⟩
      rw [et]
      refine q_istore_n (pc' := 16) (L' := [some (vR m), some (vI (k : Int)), some (vI (t : Int))]) (dk_at dkX6_clears 9 rfl) (by decide) rfl rfl ?_
      refine l_cl2 (h := h) (k := k) (by omega) ?_ (1201 - t) t _ _ _ _ (by omega) hL hq1 hq2 (fun t' a b => (hL k (by omega)).2.2 t' a (by omega)) hM hF
      intro le2 fr2 un2 h2 x2 hL hq1 hq2 hq3 hM hF
      refine q_aload_n (pc' := 47) (dk_at dkX6_clears 27 rfl) rfl rfl ?_
      refine r_getf (pc' := 50) fl_RX6_47 (dk_at dkX6_clears 28 rfl) hM.obj rfl rfl ?_
      refine q_iload_n (pc' := 51) (dk_at dkX6_clears 29 rfl) rfl rfl ?_
      refine q_sipush (pc' := 54) (dk_at dkX6_clears 30 rfl) (by decide +kernel) rfl ?_
      refine r_iast (pc' := 55) (dk_at dkX6_clears 31 rfl) hM.from k (by omega) (by omega) (by decide) rfl (fun hh1 ehh1 => ?_)
      have hM := hM.w_from ehh1
      have hF := hF.put ehh1 (by omega)
      refine q_aload_n (pc' := 56) (dk_at dkX6_clears 32 rfl) rfl rfl ?_
      refine r_getf (pc' := 59) fl_RX6_50 (dk_at dkX6_clears 33 rfl) hM.obj rfl rfl ?_
      refine q_iload_n (pc' := 60) (dk_at dkX6_clears 34 rfl) rfl rfl ?_
      refine q_iconst (pc' := 61) (dk_at dkX6_clears 35 rfl) rfl ?_
      refine r_iast (pc' := 62) (dk_at dkX6_clears 36 rfl) hM.until k (by omega) (by omega) (by decide) rfl (fun hh2 ehh2 => ?_)
      have hM := hM.w_until ehh2
      have hF := hF.put ehh2 (by omega)
      refine q_iinc (pc' := 65) (L' := [some (vR m), some (vI ((k : Int) + 1)), x2]) (dk_at dkX6_clears 37 rfl) (by decide) rfl rfl rfl ?_
      rw [show ((k : Int) + 1) = ((k + 1 : Nat) : Int) by omega]
      refine q_goto (tgt := 2) (dk_at dkX6_clears 38 rfl) rfl ?_
      refine ih (k + 1) _ _ _ _ _ (by omega) (hL.clk k hq3) (fun i hi => ?_) (fun k' hk' => ?_) hM hF
      · by_cases z : i < 1200 * k
        · exact hq1 i z
        · have := hq3 (i - 1200 * k) (by omega)
          rw [show 1200 * k + (i - 1200 * k) = i by omega] at this
          exact this
      · by_cases z : k' = k
        · rw [z, upz_eq, upz_eq]; exact ⟨rfl, rfl⟩
        · rw [upz_ne z, upz_ne z]; exact hq2 k' (by omega)

set_option maxHeartbeats 4000000 in
set_option maxRecDepth 100000 in
theorem k_M_clears {d n : Nat} {h : PH} {m : Nat} {A sd sq op ss es bo su se tx ba le fr un sF sR sT ad : Nat → Int} {sm th l0 bm tl nf ne nc : Int}  (hL : LInv le fr un) (hM : isModel n h m A sd sm th sq op l0 ss es bo su se bm tx tl ba le fr un nf ne nc sF sR sT ad) : CtrV mX6_clears d [vR m] n h (fun h' => ∃ le1 fr1 un1, isModel n h' m A sd sm th sq op l0 ss es bo su se bm tx tl ba le1 fr1 un1 nf ne nc sF sR sT ad ∧ (∀ i, i < 1228800 → le1 i = 2000000000) ∧ (∀ k, k < 1024 → fr1 k = 1200 ∧ un1 k = -1) ∧ Fr h h' m (m + 19)) := by
  have hF : Fr h h m (m + 19) := Fr.rf
  refine q_beginV (L := [some (vR m), none, none]) rfl ?_
  refine q_iconst (pc' := 1) (dk_at dkX6_clears 0 rfl) rfl ?_
  refine q_istore_n (pc' := 2) (L' := [some (vR m), some (vI 0), none]) (dk_at dkX6_clears 1 rfl) (by decide) rfl rfl ?_
  exact l_cl1 (h := h) 1024 0 _ _ _ _ none (by omega) hL (fun i hi => by omega) (fun k hk => by omega) hM hF
