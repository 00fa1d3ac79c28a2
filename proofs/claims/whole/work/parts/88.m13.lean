/-! BatchMachineModel: going on behind a set -/
theorem pw2_ex {s : Nat} (h : pw2 s = true) : ∃ j, j < 8 ∧ s = 2 ^ j := by
  unfold pw2 at h
  simp only [Bool.or_eq_true, beq_iff_eq] at h
  rcases h with ((((((h | h) | h) | h) | h) | h) | h) | h
  · exact ⟨0, by omega, h⟩
  · exact ⟨1, by omega, h⟩
  · exact ⟨2, by omega, h⟩
  · exact ⟨3, by omega, h⟩
  · exact ⟨4, by omega, h⟩
  · exact ⟨5, by omega, h⟩
  · exact ⟨6, by omega, h⟩
  · exact ⟨7, by omega, h⟩
theorem okS_item {S : Shp} (hk : Sok S) (hw : S.wh ≠ 1) {s : Nat} (hs : s < 2 ^ S.cnt) (h : okS S s = true) : ∃ j, j < S.cnt ∧ s = 2 ^ j := by
  unfold okS at h
  rw [Bool.and_eq_true, Bool.and_eq_true, decide_eq_false hw, Bool.false_or] at h
  obtain ⟨j, h1, h2⟩ := pw2_ex h.1.2
  refine ⟨j, ?_, h2⟩
  rcases Nat.lt_or_ge j S.cnt with q | q
  · exact q
  · have := Nat.pow_le_pow_right (n := 2) (by decide) q
    omega
theorem okS_mk {S : Shp} (hw : S.wh = 1) {s : Nat} (h0 : s ≠ 0) (h : sfT S.V s S.cnt ≠ -1) : okS S s = true := by
  unfold okS
  rw [decide_eq_true hw, Bool.true_or, Bool.and_true, decide_eq_true h, Bool.and_true, bne_iff_ne]
  exact h0
theorem go_reach {S : Shp} (hk : Sok S) {fi F0 : Int} {dn s : Nat} {l t c : Int} {le fr un le1 fr1 un1 : Nat → Int} (hT : TbI S fi F0 le1 fr1 un1) (hG : GoR dn le fr un le1 fr1 un1) (hd : dn < 2 ^ S.cnt) (hs : s < 2 ^ S.cnt) (ha : alw S fi dn s = true) (he : Ent S dn t c) (hF : F0 ≤ fn S fi dn l t c) {f t1 : Nat} {c1 : Int} (ef : (f : Int) = sfT S.V s S.cnt) (et : (t1 : Int) = endS S s l t) (ec : c1 = smT S s (endS S s l t) c S.cnt) :
    ((dn ||| s < 256 ∧ f < 4 ∧ t1 < 1200) ∧ (-1000000 ≤ c1 ∧ c1 ≤ 288000000) ∧ (-1000000 ≤ le1 (1200 * (4 * (dn ||| s) + f) + t1) ∧ le1 (1200 * (4 * (dn ||| s) + f) + t1) ≤ 2000000000) ∧ (0 ≤ fr1 (4 * (dn ||| s) + f) ∧ fr1 (4 * (dn ||| s) + f) ≤ 1200) ∧ (-1 ≤ un1 (4 * (dn ||| s) + f) ∧ un1 (4 * (dn ||| s) + f) ≤ 1199)) ∧
    TbI S fi F0 (upz le1 (1200 * (4 * (dn ||| s) + f) + t1) (min c1 (le1 (1200 * (4 * (dn ||| s) + f) + t1)))) (upz fr1 (4 * (dn ||| s) + f) (min (t1 : Int) (fr1 (4 * (dn ||| s) + f)))) (upz un1 (4 * (dn ||| s) + f) (max (t1 : Int) (un1 (4 * (dn ||| s) + f)))) ∧
    GoR dn le fr un (upz le1 (1200 * (4 * (dn ||| s) + f) + t1) (min c1 (le1 (1200 * (4 * (dn ||| s) + f) + t1)))) (upz fr1 (4 * (dn ||| s) + f) (min (t1 : Int) (fr1 (4 * (dn ||| s) + f)))) (upz un1 (4 * (dn ||| s) + f) (max (t1 : Int) (un1 (4 * (dn ||| s) + f)))) ∧
    Rch S dn l t c (upz le1 (1200 * (4 * (dn ||| s) + f) + t1) (min c1 (le1 (1200 * (4 * (dn ||| s) + f) + t1)))) s ∧
    ∀ s', Rch S dn l t c le1 s' → Rch S dn l t c (upz le1 (1200 * (4 * (dn ||| s) + f) + t1) (min c1 (le1 (1200 * (4 * (dn ||| s) + f) + t1)))) s' := by
  obtain ⟨k, t', e1, e2, e3, e4, e5, e6, e7, e8, e9, e10, e11, e12, e13, e14⟩ := go_to hk (F0 := F0) (l := l) hd hs ha he hF
  have ef2 : (sfT S.V s S.cnt).toNat = f := by omega
  have et2 : t' = t1 := by omega
  rw [ef2] at e1 e6
  rw [et2] at e4 e5 e10 e13 e14
  rw [← ec] at e13 e14
  have h8 := or_lt hd hs
  have hp := nt_pow_r hk.c
  have hr := e13.r
  rw [← e1]
  refine ⟨⟨⟨by omega, e6, e10⟩, by omega, hT.r e7 e10, (hT k e7).1, (hT k e7).2.1⟩, hT.reach e7 e8 e10 e13 e14, hG.reach e9, ?_, fun s' h => ?_⟩
  · unfold Rch
    rw [e5, upz_eq, ec]
    omega
  · refine h.mono ?_
    by_cases z : rcI S dn l t s' = 1200 * k + t1
    · rw [z, upz_eq]; omega
    · rw [upz_ne z]; omega
set_option maxHeartbeats 4000000 in
set_option maxRecDepth 100000 in
theorem l_goj {d n : Nat} {h : PH} {m : Nat} {S : Shp} {dn t : Nat} {fi F0 fv cs f1 : Int} {le fr un : Nat → Int} {A sd sq op ss es bo su se tx ba sF sR sT ad : Nat → Int} {sm th l0 bm tl : Int} (hd : 5 ≤ d) (hR : MR A S) (hk : Sok S) (hdn : dn < 2 ^ S.cnt) (hfv : -1 ≤ fv ∧ fv ≤ 3) (he : Ent S dn (t : Int) cs) (hF0 : F0 ≤ fn S fi dn fv (t : Int) cs) (hfr : f1 = -1 ∨ (0 ≤ f1 ∧ f1 < S.cnt)) (hfi : (dn ≠ 0 ∧ f1 = -1) ∨ (dn = 0 ∧ f1 = fi)) (hc8 : S.cnt ≤ 8) (hp8 : 2 ^ S.cnt ≤ 256) (hw : S.wh ≠ 1) : ∀ (c : Nat) (j : Nat) (le1 fr1 un1 : Nat → Int) (nf1 ne1 nc1 : Int) (h1 : PH), (j + c = S.cnt) → (∀ j2, j2 < j → alw S fi dn (2 ^ j2) = true → Rch S dn fv (t : Int) cs le1 (2 ^ j2)) → (TbI S fi F0 le1 fr1 un1) → (GoR dn le fr un le1 fr1 un1) → (isModel n h1 m A sd sm th sq op l0 ss es bo su se bm tx tl ba le1 fr1 un1 nf1 ne1 nc1 sF sR sT ad) → (Fr h h1 m (m + 19)) → QN mX6_goesOn d (FV n (fun h' => ∃ (le1 fr1 un1 : Nat → Int) (nf1 ne1 nc1 : Int), isModel n h' m A sd sm th sq op l0 ss es bo su se bm tx tl ba le1 fr1 un1 nf1 ne1 nc1 sF sR sT ad ∧ TbI S fi F0 le1 fr1 un1 ∧ GoR dn le fr un le1 fr1 un1 ∧ (∀ s, s < 2 ^ S.cnt → alw S fi dn s = true → Rch S dn fv (t : Int) cs le1 s) ∧ Fr h h' m (m + 19))) 13 [some (vR m), some (vI (dn : Int)), some (vI fv), some (vI (t : Int)), some (vI cs), some (vI f1), some (vI (j : Int)), none] [] n h1 := by
  intro c
  induction c with
  | zero =>
    intro j le1 fr1 un1 nf1 ne1 nc1 h1 hc hq hT hG hM hF
    refine q_iload (pc' := 15) (dk_at dkX6_goesOn 7 rfl) rfl rfl ?_
    refine q_aload_n (pc' := 16) (dk_at dkX6_goesOn 8 rfl) rfl rfl ?_
    refine r_getf (pc' := 19) fl_RX6_7 (dk_at dkX6_goesOn 9 rfl) hM.obj rfl rfl ?_
    refine q_iconst (pc' := 20) (dk_at dkX6_goesOn 10 rfl) rfl ?_
    refine r_iald (pc' := 21) (dk_at dkX6_goesOn 11 rfl) hM.all 0 (by omega) (by omega) (by decide) rfl ?_
    have hA0 := hR.c
    refine q_icmp_ge (tgt := 88) (pc' := 24) (dk_at dkX6_goesOn 12 rfl) rfl rfl (by omega) (by omega) (fun c21 => ?_) (fun c21 => ?_)
    · refine r_vret rfl (dk_at dkX6_goesOn 46 rfl) ?_
      refine ⟨_, _, _, _, _, _, hM, hT, hG, fun s hs ha => ?_, hF⟩
      obtain ⟨j2, h1, h2⟩ := okS_item hk hw hs (alw_i ha).1
      rw [h2] at ha ⊢
      exact hq j2 (by omega) ha
    · exfalso
      omega
  | succ c ih =>
    intro j le1 fr1 un1 nf1 ne1 nc1 h1 hc hq hT hG hM hF
    refine q_iload (pc' := 15) (dk_at dkX6_goesOn 7 rfl) rfl rfl ?_
    refine q_aload_n (pc' := 16) (dk_at dkX6_goesOn 8 rfl) rfl rfl ?_
    refine r_getf (pc' := 19) fl_RX6_7 (dk_at dkX6_goesOn 9 rfl) hM.obj rfl rfl ?_
    refine q_iconst (pc' := 20) (dk_at dkX6_goesOn 10 rfl) rfl ?_
    refine r_iald (pc' := 21) (dk_at dkX6_goesOn 11 rfl) hM.all 0 (by omega) (by omega) (by decide) rfl ?_
    have hA0 := hR.c
    refine q_icmp_ge (tgt := 88) (pc' := 24) (dk_at dkX6_goesOn 12 rfl) rfl rfl (by omega) (by omega) (fun c21 => ?_) (fun c21 => ?_)
    · refine r_vret rfl (dk_at dkX6_goesOn 46 rfl) ?_
      refine ⟨_, _, _, _, _, _, hM, hT, hG, fun s hs ha => ?_, hF⟩
      obtain ⟨j2, h1, h2⟩ := okS_item hk hw hs (alw_i ha).1
      rw [h2] at ha ⊢
      exact hq j2 (by omega) ha
    · refine q_iload_n (pc' := 25) (dk_at dkX6_goesOn 13 rfl) rfl rfl ?_
      refine q_iload (pc' := 27) (dk_at dkX6_goesOn 14 rfl) rfl rfl ?_
      refine r_cSI (pc' := 30) (As := [vI (dn : Int), vI (j : Int)]) (S := []) cs_RX6_154 (dk_at dkX6_goesOn 15 rfl) (k_M_has (d := 0) (s := dn) (k := j) (by omega) (by omega)) (by omega) (Nat.zero_le _) (Nat.zero_le _) rfl (Nat.le_of_ble_eq_true rfl) rfl (Nat.le_of_ble_eq_true rfl) rfl (fun xx1 hh2 hphh2 => ?_)
      obtain ⟨qq3, y27⟩ := hphh2
      rw [qq3]
      have yr27 := y27.r
      refine q_if_ne (tgt := 82) (pc' := 33) (dk_at dkX6_goesOn 16 rfl) rfl rfl (by omega) (fun c30 => ?_) (fun c30 => ?_)
      · refine q_iinc (pc' := 85) (L' := [some (vR m), some (vI (dn : Int)), some (vI fv), some (vI (t : Int)), some (vI cs), some (vI f1), some (vI ((j : Int) + 1)), none]) (dk_at dkX6_goesOn 44 rfl) (by decide) rfl rfl rfl ?_
        rw [show ((j : Int) + 1) = ((j + 1 : Nat) : Int) by omega]
        refine q_goto (tgt := 13) (dk_at dkX6_goesOn 45 rfl) rfl ?_
        refine ih (j + 1) _ _ _ _ _ _ _ (by omega) (fun j2 hj2 ha => ?_) hT hG hM hF
        by_cases z : j2 = j
        · exfalso
          rw [z] at ha
          obtain ⟨-, a2, a3⟩ := alw_i ha
          first
            | exact b_dis a2 j ⟨(b_pow _ _).mpr rfl, y27.t (by omega)⟩
            | (rw [b_pow] at a3; omega)
        · exact hq j2 (by omega) ha
      · refine q_iload (pc' := 35) (dk_at dkX6_goesOn 17 rfl) rfl rfl ?_
        refine q_iconst (pc' := 36) (dk_at dkX6_goesOn 18 rfl) rfl ?_
        refine q_icmp_eq (tgt := 46) (pc' := 39) (dk_at dkX6_goesOn 19 rfl) rfl rfl (by omega) (by omega) (fun c36 => ?_) (fun c36 => ?_)
        · refine q_aload_n (pc' := 47) (dk_at dkX6_goesOn 23 rfl) rfl rfl ?_
          refine q_iload (pc' := 49) (dk_at dkX6_goesOn 24 rfl) rfl rfl ?_
          refine q_iload_n (pc' := 50) (dk_at dkX6_goesOn 25 rfl) rfl rfl ?_
          refine q_iload_n (pc' := 51) (dk_at dkX6_goesOn 26 rfl) rfl rfl ?_
          refine r_cVV (pc' := 54) (As := [vI (j : Int), vI fv, vI (t : Int)]) (S := []) cv_RX6_209 (dk_at dkX6_goesOn 27 rfl) hM.obj rfl (k_M_takesJob (d := 4) (j := j) (t := t) (by omega) hR hk hw (by omega) hfv (by have := he.r; omega) hM) (by omega) (Nat.zero_le _) (Nat.zero_le _) rfl (Nat.le_of_ble_eq_true rfl) rfl (Nat.le_of_ble_eq_true rfl) rfl (fun hh5 hphh5 => ?_)
          obtain ⟨f2, t2, c2, hM, ⟨ef, et, ec2⟩, hGf⟩ := hphh5
          have hF := hF.tr hGf (by omega)
          have hs2 : 2 ^ j < 2 ^ S.cnt := Nat.pow_lt_pow_right (by decide) (by omega)
          rw [← one_fam hk (show j < S.cnt by omega)] at ef
          have ec : jn S cs c2 = smT S (2 ^ j) (endS S (2 ^ j) fv (t : Int)) cs S.cnt := by rw [one_sum (by omega), ec2, et]
          have hal : alw S fi dn (2 ^ j) = true := alw_mk (okS_one hk (by omega)) (pow_dis (y27.f (by omega))) (by rcases hfi with z | z; exact Or.inl z.1; exact Or.inr (by rw [b_pow]; omega))
          have hE2 := (he.step hk (l := fv) (okS_i (alw_i hal).1).1 hs2 (alw_i hal).2.1).r
          rw [← et] at hE2
          have hcr := he.r
          have hpn := pen_2k hk j (show 0 ≤ (t2 : Int) ∧ (t2 : Int) ≤ 2000 by omega)
          rw [← ec2] at hpn
          refine q_aload_n (pc' := 55) (dk_at dkX6_goesOn 28 rfl) rfl rfl ?_
          refine q_iload_n (pc' := 56) (dk_at dkX6_goesOn 29 rfl) rfl rfl ?_
          refine q_iconst (pc' := 57) (dk_at dkX6_goesOn 30 rfl) rfl ?_
          refine q_iload (pc' := 59) (dk_at dkX6_goesOn 31 rfl) rfl rfl ?_
          refine q_ishl (pc' := 60) (dk_at dkX6_goesOn 32 rfl) (by omega) (by omega) rfl ?_
          have bb6 := nt_pow_r (j := j) (by omega)
          rw [show ((1 : Int) * 2 ^ ((j : Int)).toNat) = ((2 ^ j : Nat) : Int) from nt_shl1 j]
          refine q_ior (pc' := 61) (dk_at dkX6_goesOn 33 rfl) (by omega) (by omega) rfl ?_
          rw [show ((((dn : Int)).toNat ||| (((2 ^ j : Nat) : Int)).toNat : Nat) : Int) = ((dn ||| (2 ^ j) : Nat) : Int) from nt_or dn (2 ^ j)]
          refine q_aload_n (pc' := 62) (dk_at dkX6_goesOn 34 rfl) rfl rfl ?_
          refine r_getf (pc' := 65) fl_RX6_200 (dk_at dkX6_goesOn 35 rfl) hM.obj rfl rfl ?_
          refine q_aload_n (pc' := 66) (dk_at dkX6_goesOn 36 rfl) rfl rfl ?_
          refine r_getf (pc' := 69) fl_RX6_203 (dk_at dkX6_goesOn 37 rfl) hM.obj rfl rfl ?_
          refine q_aload_n (pc' := 70) (dk_at dkX6_goesOn 38 rfl) rfl rfl ?_
          refine q_iload (pc' := 72) (dk_at dkX6_goesOn 39 rfl) rfl rfl ?_
          refine q_aload_n (pc' := 73) (dk_at dkX6_goesOn 40 rfl) rfl rfl ?_
          refine r_getf (pc' := 76) fl_RX6_206 (dk_at dkX6_goesOn 41 rfl) hM.obj rfl rfl ?_
          refine r_cVI (pc' := 79) (As := [vI cs, vI c2]) (S := [vI (t2 : Int), vI (f2 : Int), vI ((dn ||| (2 ^ j) : Nat) : Int), vR m]) cv_RX6_140 (dk_at dkX6_goesOn 42 rfl) hM.obj rfl (k_M_with (d := 1) (by omega) hR hk (by omega) (by omega) hM) (by omega) (Nat.zero_le _) (Nat.zero_le _) rfl (Nat.le_of_ble_eq_true rfl) rfl (Nat.le_of_ble_eq_true rfl) rfl (fun xx7 hh8 hphh8 => ?_)
          obtain ⟨qq9, rfl⟩ := hphh8
          rw [qq9]
          obtain ⟨⟨⟨g1, g2, g3⟩, g4, g5, g6, g7⟩, hT, hG, hRc, hRm⟩ := go_reach hk hT hG hdn (s := (2 ^ j)) hs2 hal he hF0 (f := f2) (t1 := t2) (c1 := (jn S cs c2)) ef et ec
          refine r_cVV (pc' := 82) (As := [vI ((dn ||| (2 ^ j) : Nat) : Int), vI (f2 : Int), vI (t2 : Int), vI (jn S cs c2)]) (S := []) cv_RX6_213 (dk_at dkX6_goesOn 43 rfl) hM.obj rfl (k_M_reaches (d := 4) (s := dn ||| (2 ^ j)) (f := f2) (t := t2) g1 g2 g3 (by omega) (by omega) g6 g7 hM) (by omega) (Nat.zero_le _) (Nat.zero_le _) rfl (Nat.le_of_ble_eq_true rfl) rfl (Nat.le_of_ble_eq_true rfl) rfl (fun hh11 hphh11 => ?_)
          obtain ⟨hM, hGf⟩ := hphh11
          have hF := hF.tr hGf (by omega)
          refine q_iinc (pc' := 85) (L' := [some (vR m), some (vI (dn : Int)), some (vI fv), some (vI (t : Int)), some (vI cs), some (vI f1), some (vI ((j : Int) + 1)), none]) (dk_at dkX6_goesOn 44 rfl) (by decide) rfl rfl rfl ?_
          rw [show ((j : Int) + 1) = ((j + 1 : Nat) : Int) by omega]
          refine q_goto (tgt := 13) (dk_at dkX6_goesOn 45 rfl) rfl ?_
          refine ih (j + 1) _ _ _ _ _ _ _ (by omega) (fun j2 hj2 ha => ?_) hT hG hM hF
          by_cases z : j2 = j
          · rw [z]; exact hRc
          · exact hRm _ (hq j2 (by omega) ha)
        · refine q_iload (pc' := 41) (dk_at dkX6_goesOn 20 rfl) rfl rfl ?_
          refine q_iload (pc' := 43) (dk_at dkX6_goesOn 21 rfl) rfl rfl ?_
          refine q_icmp_ne (tgt := 82) (pc' := 46) (dk_at dkX6_goesOn 22 rfl) rfl rfl (by omega) (by omega) (fun c43 => ?_) (fun c43 => ?_)
          · refine q_iinc (pc' := 85) (L' := [some (vR m), some (vI (dn : Int)), some (vI fv), some (vI (t : Int)), some (vI cs), some (vI f1), some (vI ((j : Int) + 1)), none]) (dk_at dkX6_goesOn 44 rfl) (by decide) rfl rfl rfl ?_
            rw [show ((j : Int) + 1) = ((j + 1 : Nat) : Int) by omega]
            refine q_goto (tgt := 13) (dk_at dkX6_goesOn 45 rfl) rfl ?_
            refine ih (j + 1) _ _ _ _ _ _ _ (by omega) (fun j2 hj2 ha => ?_) hT hG hM hF
            by_cases z : j2 = j
            · exfalso
              rw [z] at ha
              obtain ⟨-, a2, a3⟩ := alw_i ha
              first
                | exact b_dis a2 j ⟨(b_pow _ _).mpr rfl, y27.t (by omega)⟩
                | (rw [b_pow] at a3; omega)
            · exact hq j2 (by omega) ha
          · refine q_aload_n (pc' := 47) (dk_at dkX6_goesOn 23 rfl) rfl rfl ?_
            refine q_iload (pc' := 49) (dk_at dkX6_goesOn 24 rfl) rfl rfl ?_
            refine q_iload_n (pc' := 50) (dk_at dkX6_goesOn 25 rfl) rfl rfl ?_
            refine q_iload_n (pc' := 51) (dk_at dkX6_goesOn 26 rfl) rfl rfl ?_
            refine r_cVV (pc' := 54) (As := [vI (j : Int), vI fv, vI (t : Int)]) (S := []) cv_RX6_209 (dk_at dkX6_goesOn 27 rfl) hM.obj rfl (k_M_takesJob (d := 4) (j := j) (t := t) (by omega) hR hk hw (by omega) hfv (by have := he.r; omega) hM) (by omega) (Nat.zero_le _) (Nat.zero_le _) rfl (Nat.le_of_ble_eq_true rfl) rfl (Nat.le_of_ble_eq_true rfl) rfl (fun hh13 hphh13 => ?_)
            obtain ⟨f2, t2, c2, hM, ⟨ef, et, ec2⟩, hGf⟩ := hphh13
            have hF := hF.tr hGf (by omega)
            have hs2 : 2 ^ j < 2 ^ S.cnt := Nat.pow_lt_pow_right (by decide) (by omega)
            rw [← one_fam hk (show j < S.cnt by omega)] at ef
            have ec : jn S cs c2 = smT S (2 ^ j) (endS S (2 ^ j) fv (t : Int)) cs S.cnt := by rw [one_sum (by omega), ec2, et]
            have hal : alw S fi dn (2 ^ j) = true := alw_mk (okS_one hk (by omega)) (pow_dis (y27.f (by omega))) (by rcases hfi with z | z; exact Or.inl z.1; exact Or.inr (by rw [b_pow]; omega))
            have hE2 := (he.step hk (l := fv) (okS_i (alw_i hal).1).1 hs2 (alw_i hal).2.1).r
            rw [← et] at hE2
            have hcr := he.r
            have hpn := pen_2k hk j (show 0 ≤ (t2 : Int) ∧ (t2 : Int) ≤ 2000 by omega)
            rw [← ec2] at hpn
            refine q_aload_n (pc' := 55) (dk_at dkX6_goesOn 28 rfl) rfl rfl ?_
            refine q_iload_n (pc' := 56) (dk_at dkX6_goesOn 29 rfl) rfl rfl ?_
            refine q_iconst (pc' := 57) (dk_at dkX6_goesOn 30 rfl) rfl ?_
            refine q_iload (pc' := 59) (dk_at dkX6_goesOn 31 rfl) rfl rfl ?_
            refine q_ishl (pc' := 60) (dk_at dkX6_goesOn 32 rfl) (by omega) (by omega) rfl ?_
            have bb14 := nt_pow_r (j := j) (by omega)
            rw [show ((1 : Int) * 2 ^ ((j : Int)).toNat) = ((2 ^ j : Nat) : Int) from nt_shl1 j]
            refine q_ior (pc' := 61) (dk_at dkX6_goesOn 33 rfl) (by omega) (by omega) rfl ?_
            rw [show ((((dn : Int)).toNat ||| (((2 ^ j : Nat) : Int)).toNat : Nat) : Int) = ((dn ||| (2 ^ j) : Nat) : Int) from nt_or dn (2 ^ j)]
            refine q_aload_n (pc' := 62) (dk_at dkX6_goesOn 34 rfl) rfl rfl ?_
            refine r_getf (pc' := 65) fl_RX6_200 (dk_at dkX6_goesOn 35 rfl) hM.obj rfl rfl ?_
            refine q_aload_n (pc' := 66) (dk_at dkX6_goesOn 36 rfl) rfl rfl ?_
            refine r_getf (pc' := 69) fl_RX6_203 (dk_at dkX6_goesOn 37 rfl) hM.obj rfl rfl ?_
            refine q_aload_n (pc' := 70) (dk_at dkX6_goesOn 38 rfl) rfl rfl ?_
            refine q_iload (pc' := 72) (dk_at dkX6_goesOn 39 rfl) rfl rfl ?_
            refine q_aload_n (pc' := 73) (dk_at dkX6_goesOn 40 rfl) rfl rfl ?_
            refine r_getf (pc' := 76) fl_RX6_206 (dk_at dkX6_goesOn 41 rfl) hM.obj rfl rfl ?_
            refine r_cVI (pc' := 79) (As := [vI cs, vI c2]) (S := [vI (t2 : Int), vI (f2 : Int), vI ((dn ||| (2 ^ j) : Nat) : Int), vR m]) cv_RX6_140 (dk_at dkX6_goesOn 42 rfl) hM.obj rfl (k_M_with (d := 1) (by omega) hR hk (by omega) (by omega) hM) (by omega) (Nat.zero_le _) (Nat.zero_le _) rfl (Nat.le_of_ble_eq_true rfl) rfl (Nat.le_of_ble_eq_true rfl) rfl (fun xx15 hh16 hphh16 => ?_)
            obtain ⟨qq17, rfl⟩ := hphh16
            rw [qq17]
            obtain ⟨⟨⟨g1, g2, g3⟩, g4, g5, g6, g7⟩, hT, hG, hRc, hRm⟩ := go_reach hk hT hG hdn (s := (2 ^ j)) hs2 hal he hF0 (f := f2) (t1 := t2) (c1 := (jn S cs c2)) ef et ec
            refine r_cVV (pc' := 82) (As := [vI ((dn ||| (2 ^ j) : Nat) : Int), vI (f2 : Int), vI (t2 : Int), vI (jn S cs c2)]) (S := []) cv_RX6_213 (dk_at dkX6_goesOn 43 rfl) hM.obj rfl (k_M_reaches (d := 4) (s := dn ||| (2 ^ j)) (f := f2) (t := t2) g1 g2 g3 (by omega) (by omega) g6 g7 hM) (by omega) (Nat.zero_le _) (Nat.zero_le _) rfl (Nat.le_of_ble_eq_true rfl) rfl (Nat.le_of_ble_eq_true rfl) rfl (fun hh19 hphh19 => ?_)
            obtain ⟨hM, hGf⟩ := hphh19
            have hF := hF.tr hGf (by omega)
            refine q_iinc (pc' := 85) (L' := [some (vR m), some (vI (dn : Int)), some (vI fv), some (vI (t : Int)), some (vI cs), some (vI f1), some (vI ((j : Int) + 1)), none]) (dk_at dkX6_goesOn 44 rfl) (by decide) rfl rfl rfl ?_
            rw [show ((j : Int) + 1) = ((j + 1 : Nat) : Int) by omega]
            refine q_goto (tgt := 13) (dk_at dkX6_goesOn 45 rfl) rfl ?_
            refine ih (j + 1) _ _ _ _ _ _ _ (by omega) (fun j2 hj2 ha => ?_) hT hG hM hF
            by_cases z : j2 = j
            · rw [z]; exact hRc
            · exact hRm _ (hq j2 (by omega) ha)

set_option maxHeartbeats 4000000 in
set_option maxRecDepth 100000 in
theorem l_gob {d n : Nat} {h : PH} {m : Nat} {S : Shp} {dn t : Nat} {fi F0 fv cs f1 : Int} {le fr un : Nat → Int} {A sd sq op ss es bo su se tx ba sF sR sT ad : Nat → Int} {sm th l0 bm tl : Int} (hd : 5 ≤ d) (hR : MR A S) (hk : Sok S) (hdn : dn < 2 ^ S.cnt) (hfv : -1 ≤ fv ∧ fv ≤ 3) (he : Ent S dn (t : Int) cs) (hF0 : F0 ≤ fn S fi dn fv (t : Int) cs) (hfr : f1 = -1 ∨ (0 ≤ f1 ∧ f1 < S.cnt)) (hfi : (dn ≠ 0 ∧ f1 = -1) ∨ (dn = 0 ∧ f1 = fi)) (hc8 : S.cnt ≤ 8) (hp8 : 2 ^ S.cnt ≤ 256) (hw : S.wh = 1) (hSt : SetsM S sF sR sT) : ∀ (c : Nat) (its : Nat) (le1 fr1 un1 : Nat → Int) (nf1 ne1 nc1 : Int) (h1 : PH), (its ≤ c) → (its &&& lfS S dn = its) → (∀ s, s < 2 ^ S.cnt → alw S fi dn s = true → its < s → Rch S dn fv (t : Int) cs le1 s) → (TbI S fi F0 le1 fr1 un1) → (GoR dn le fr un le1 fr1 un1) → (isModel n h1 m A sd sm th sq op l0 ss es bo su se bm tx tl ba le1 fr1 un1 nf1 ne1 nc1 sF sR sT ad) → (Fr h h1 m (m + 19)) → QN mX6_goesOn d (FV n (fun h' => ∃ (le1 fr1 un1 : Nat → Int) (nf1 ne1 nc1 : Int), isModel n h' m A sd sm th sq op l0 ss es bo su se bm tx tl ba le1 fr1 un1 nf1 ne1 nc1 sF sR sT ad ∧ TbI S fi F0 le1 fr1 un1 ∧ GoR dn le fr un le1 fr1 un1 ∧ (∀ s, s < 2 ^ S.cnt → alw S fi dn s = true → Rch S dn fv (t : Int) cs le1 s) ∧ Fr h h' m (m + 19))) 109 [some (vR m), some (vI (dn : Int)), some (vI fv), some (vI (t : Int)), some (vI cs), some (vI f1), some (vI ((lfS S dn : Nat) : Int)), some (vI (its : Int))] [] n h1 := by
  intro c
  induction c with
  | zero =>
    intro its le1 fr1 un1 nf1 ne1 nc1 h1 hc hin hq hT hG hM hF
    have hil := lfS_lt S dn
    have hi256 : its ≤ lfS S dn := by rw [← hin]; exact Nat.and_le_right
    refine q_iload (pc' := 111) (dk_at dkX6_goesOn 62 rfl) rfl rfl ?_
    refine q_if_le (tgt := 187) (pc' := 114) (dk_at dkX6_goesOn 63 rfl) rfl rfl (by omega) (fun c111 => ?_) (fun c111 => ?_)
    · refine r_vret rfl (dk_at dkX6_goesOn 103 rfl) ?_
      refine ⟨_, _, _, _, _, _, hM, hT, hG, fun s hs ha => hq s hs ha ?_, hF⟩
      have := (okS_i (alw_i ha).1).1
      omega
    · exfalso
      omega
  | succ c ih =>
    intro its le1 fr1 un1 nf1 ne1 nc1 h1 hc hin hq hT hG hM hF
    have hil := lfS_lt S dn
    have hi256 : its ≤ lfS S dn := by rw [← hin]; exact Nat.and_le_right
    refine q_iload (pc' := 111) (dk_at dkX6_goesOn 62 rfl) rfl rfl ?_
    refine q_if_le (tgt := 187) (pc' := 114) (dk_at dkX6_goesOn 63 rfl) rfl rfl (by omega) (fun c111 => ?_) (fun c111 => ?_)
    · refine r_vret rfl (dk_at dkX6_goesOn 103 rfl) ?_
      refine ⟨_, _, _, _, _, _, hM, hT, hG, fun s hs ha => hq s hs ha ?_, hF⟩
      have := (okS_i (alw_i ha).1).1
      omega
    · have hls := lfS_in hin
      have hs2 := hls.1
      have hSt1 := hSt its (by omega) hs2
      have hsr := sfT_r hk.v its S.cnt
      refine q_aload_n (pc' := 115) (dk_at dkX6_goesOn 64 rfl) rfl rfl ?_
      refine r_getf (pc' := 118) fl_RX6_53 (dk_at dkX6_goesOn 65 rfl) hM.obj rfl rfl ?_
      refine q_iload (pc' := 120) (dk_at dkX6_goesOn 66 rfl) rfl rfl ?_
      refine r_iald (pc' := 121) (dk_at dkX6_goesOn 67 rfl) hM.setFamily its (by omega) (by omega) (by decide) rfl ?_
      refine q_iconst (pc' := 122) (dk_at dkX6_goesOn 68 rfl) rfl ?_
      refine q_icmp_eq (tgt := 175) (pc' := 125) (dk_at dkX6_goesOn 69 rfl) rfl rfl (by omega) (by omega) (fun c122 => ?_) (fun c122 => ?_)
      · refine q_iload (pc' := 177) (dk_at dkX6_goesOn 96 rfl) rfl rfl ?_
        refine q_iconst (pc' := 178) (dk_at dkX6_goesOn 97 rfl) rfl ?_
        refine q_isub (pc' := 179) (dk_at dkX6_goesOn 98 rfl) rfl ?_
        rw [show ((its : Int) - 1) = ((its - 1 : Nat) : Int) by omega]
        refine q_iload (pc' := 181) (dk_at dkX6_goesOn 99 rfl) rfl rfl ?_
        refine q_iand (pc' := 182) (dk_at dkX6_goesOn 100 rfl) (by omega) (by omega) rfl ?_
        rw [show (((((its - 1 : Nat) : Int)).toNat &&& (((lfS S dn : Nat) : Int)).toNat : Nat) : Int) = (((its - 1) &&& (lfS S dn) : Nat) : Int) from nt_and (its - 1) (lfS S dn)]
        refine q_istore (pc' := 184) (L' := [some (vR m), some (vI (dn : Int)), some (vI fv), some (vI (t : Int)), some (vI cs), some (vI f1), some (vI ((lfS S dn : Nat) : Int)), some (vI (((its - 1) &&& (lfS S dn) : Nat) : Int))]) (dk_at dkX6_goesOn 101 rfl) (by decide) rfl rfl ?_
        refine q_goto (tgt := 109) (dk_at dkX6_goesOn 102 rfl) rfl ?_
        refine ih (its - 1 &&& lfS S dn) _ _ _ _ _ _ _ (by have := sub_lt (left := lfS S dn) (its := its) (by omega); omega) (sub_in _ _ hin) (fun s hs ha hlt => ?_) hT hG hM hF
        have hsi : its ≤ s := by
          rcases Nat.lt_or_ge s its with q | q
          · have := sub_next (lfS S dn) its s hin (lfS_mk hs (alw_i ha).2.1) q
            omega
          · exact q
        by_cases z : s = its
        · exfalso
          rw [z] at ha
          obtain ⟨a1, a2, a3⟩ := alw_i ha
          have a4 := (okS_i a1).2
          first
            | omega
            | (have a5 := y135.f (by omega); rcases hfi with z | z; omega; rw [← z.2, e9t] at a3; omega)
        · exact hq s hs ha (by omega)
      · refine q_iload (pc' := 127) (dk_at dkX6_goesOn 70 rfl) rfl rfl ?_
        refine q_iconst (pc' := 128) (dk_at dkX6_goesOn 71 rfl) rfl ?_
        refine q_icmp_eq (tgt := 141) (pc' := 131) (dk_at dkX6_goesOn 72 rfl) rfl rfl (by omega) (by omega) (fun c128 => ?_) (fun c128 => ?_)
        · refine q_aload_n (pc' := 142) (dk_at dkX6_goesOn 77 rfl) rfl rfl ?_
          refine q_iload (pc' := 144) (dk_at dkX6_goesOn 78 rfl) rfl rfl ?_
          refine q_iload_n (pc' := 145) (dk_at dkX6_goesOn 79 rfl) rfl rfl ?_
          refine q_iload_n (pc' := 146) (dk_at dkX6_goesOn 80 rfl) rfl rfl ?_
          have hal : alw S fi dn its = true := alw_mk (okS_mk hw (by omega) (by omega)) hls.2 (by rcases hfi with z | z; exact Or.inl z.1; right; first | (left; omega; done) | (right; have := y135.t (by omega); rw [← z.2, e9t]; exact this))
          refine r_cVV (pc' := 149) (As := [vI (its : Int), vI fv, vI (t : Int)]) (S := []) cv_RX6_217 (dk_at dkX6_goesOn 81 rfl) hM.obj rfl (k_M_takesSet (d := 4) (s := its) (t := t) (by omega) hR hk (by omega) hs2 hw hSt (by omega) hfv (by have := he.r; omega) hM) (by omega) (Nat.zero_le _) (Nat.zero_le _) rfl (Nat.le_of_ble_eq_true rfl) rfl (Nat.le_of_ble_eq_true rfl) rfl (fun hh2 hphh2 => ?_)
          obtain ⟨f2, t2, c2, hM, ⟨ef, et, ec2⟩, hGf⟩ := hphh2
          have hF := hF.tr hGf (by omega)
          have hcr := he.r
          have ec : jn S cs c2 = smT S its (endS S its fv (t : Int)) cs S.cnt := by rw [ec2, smT_jn hcr.2.1, et]
          have hE2 := (he.step hk (l := fv) (by omega) hs2 hls.2).r
          rw [← et] at hE2
          have hsm := smT_2k hk (s := its) (show 0 ≤ (t2 : Int) ∧ (t2 : Int) ≤ 2000 by omega) S.cnt
          rw [← ec2] at hsm
          refine q_aload_n (pc' := 150) (dk_at dkX6_goesOn 82 rfl) rfl rfl ?_
          refine q_iload_n (pc' := 151) (dk_at dkX6_goesOn 83 rfl) rfl rfl ?_
          refine q_iload (pc' := 153) (dk_at dkX6_goesOn 84 rfl) rfl rfl ?_
          refine q_ior (pc' := 154) (dk_at dkX6_goesOn 85 rfl) (by omega) (by omega) rfl ?_
          rw [show ((((dn : Int)).toNat ||| ((its : Int)).toNat : Nat) : Int) = ((dn ||| its : Nat) : Int) from nt_or dn its]
          refine q_aload_n (pc' := 155) (dk_at dkX6_goesOn 86 rfl) rfl rfl ?_
          refine r_getf (pc' := 158) fl_RX6_200 (dk_at dkX6_goesOn 87 rfl) hM.obj rfl rfl ?_
          refine q_aload_n (pc' := 159) (dk_at dkX6_goesOn 88 rfl) rfl rfl ?_
          refine r_getf (pc' := 162) fl_RX6_203 (dk_at dkX6_goesOn 89 rfl) hM.obj rfl rfl ?_
          refine q_aload_n (pc' := 163) (dk_at dkX6_goesOn 90 rfl) rfl rfl ?_
          refine q_iload (pc' := 165) (dk_at dkX6_goesOn 91 rfl) rfl rfl ?_
          refine q_aload_n (pc' := 166) (dk_at dkX6_goesOn 92 rfl) rfl rfl ?_
          refine r_getf (pc' := 169) fl_RX6_206 (dk_at dkX6_goesOn 93 rfl) hM.obj rfl rfl ?_
          refine r_cVI (pc' := 172) (As := [vI cs, vI c2]) (S := [vI (t2 : Int), vI (f2 : Int), vI ((dn ||| its : Nat) : Int), vR m]) cv_RX6_140 (dk_at dkX6_goesOn 94 rfl) hM.obj rfl (k_M_with (d := 1) (by omega) hR hk (by omega) (by omega) hM) (by omega) (Nat.zero_le _) (Nat.zero_le _) rfl (Nat.le_of_ble_eq_true rfl) rfl (Nat.le_of_ble_eq_true rfl) rfl (fun xx3 hh4 hphh4 => ?_)
          obtain ⟨qq5, rfl⟩ := hphh4
          rw [qq5]
          obtain ⟨⟨⟨g1, g2, g3⟩, g4, g5, g6, g7⟩, hT, hG, hRc, hRm⟩ := go_reach hk hT hG hdn (s := its) hs2 hal he hF0 (f := f2) (t1 := t2) (c1 := (jn S cs c2)) ef et ec
          refine r_cVV (pc' := 175) (As := [vI ((dn ||| its : Nat) : Int), vI (f2 : Int), vI (t2 : Int), vI (jn S cs c2)]) (S := []) cv_RX6_213 (dk_at dkX6_goesOn 95 rfl) hM.obj rfl (k_M_reaches (d := 4) (s := dn ||| its) (f := f2) (t := t2) g1 g2 g3 (by omega) (by omega) g6 g7 hM) (by omega) (Nat.zero_le _) (Nat.zero_le _) rfl (Nat.le_of_ble_eq_true rfl) rfl (Nat.le_of_ble_eq_true rfl) rfl (fun hh7 hphh7 => ?_)
          obtain ⟨hM, hGf⟩ := hphh7
          have hF := hF.tr hGf (by omega)
          refine q_iload (pc' := 177) (dk_at dkX6_goesOn 96 rfl) rfl rfl ?_
          refine q_iconst (pc' := 178) (dk_at dkX6_goesOn 97 rfl) rfl ?_
          refine q_isub (pc' := 179) (dk_at dkX6_goesOn 98 rfl) rfl ?_
          rw [show ((its : Int) - 1) = ((its - 1 : Nat) : Int) by omega]
          refine q_iload (pc' := 181) (dk_at dkX6_goesOn 99 rfl) rfl rfl ?_
          refine q_iand (pc' := 182) (dk_at dkX6_goesOn 100 rfl) (by omega) (by omega) rfl ?_
          rw [show (((((its - 1 : Nat) : Int)).toNat &&& (((lfS S dn : Nat) : Int)).toNat : Nat) : Int) = (((its - 1) &&& (lfS S dn) : Nat) : Int) from nt_and (its - 1) (lfS S dn)]
          refine q_istore (pc' := 184) (L' := [some (vR m), some (vI (dn : Int)), some (vI fv), some (vI (t : Int)), some (vI cs), some (vI f1), some (vI ((lfS S dn : Nat) : Int)), some (vI (((its - 1) &&& (lfS S dn) : Nat) : Int))]) (dk_at dkX6_goesOn 101 rfl) (by decide) rfl rfl ?_
          refine q_goto (tgt := 109) (dk_at dkX6_goesOn 102 rfl) rfl ?_
          refine ih (its - 1 &&& lfS S dn) _ _ _ _ _ _ _ (by have := sub_lt (left := lfS S dn) (its := its) (by omega); omega) (sub_in _ _ hin) (fun s hs ha hlt => ?_) hT hG hM hF
          have hsi : its ≤ s := by
            rcases Nat.lt_or_ge s its with q | q
            · have := sub_next (lfS S dn) its s hin (lfS_mk hs (alw_i ha).2.1) q
              omega
            · exact q
          by_cases z : s = its
          · rw [z]; exact hRc
          · exact hRm _ (hq s hs ha (by omega))
        · refine q_iload (pc' := 133) (dk_at dkX6_goesOn 73 rfl) rfl rfl ?_
          refine q_iload (pc' := 135) (dk_at dkX6_goesOn 74 rfl) rfl rfl ?_
          obtain ⟨f9, e9⟩ : ∃ z : Nat, f1 = (z : Int) := ⟨f1.toNat, by omega⟩
          have e9t : f1.toNat = f9 := by omega
          refine r_cSI (pc' := 138) (As := [vI (its : Int), vI f1]) (S := []) cs_RX6_154 (dk_at dkX6_goesOn 75 rfl) (by rw [e9]; exact k_M_has (d := 0) (s := its) (k := f9) (by omega) (by omega) : CtrI mX6_has 0 [vI (its : Int), vI f1] n _ (fun x h' => h' = _ ∧ YN x (its / 2 ^ f9 % 2 = 1))) (by omega) (Nat.zero_le _) (Nat.zero_le _) rfl (Nat.le_of_ble_eq_true rfl) rfl (Nat.le_of_ble_eq_true rfl) rfl (fun xx8 hh9 hphh9 => ?_)
          obtain ⟨qq10, y135⟩ := hphh9
          rw [qq10]
          have yr135 := y135.r
          refine q_if_eq (tgt := 175) (pc' := 141) (dk_at dkX6_goesOn 76 rfl) rfl rfl (by omega) (fun c138 => ?_) (fun c138 => ?_)
          · refine q_iload (pc' := 177) (dk_at dkX6_goesOn 96 rfl) rfl rfl ?_
            refine q_iconst (pc' := 178) (dk_at dkX6_goesOn 97 rfl) rfl ?_
            refine q_isub (pc' := 179) (dk_at dkX6_goesOn 98 rfl) rfl ?_
            rw [show ((its : Int) - 1) = ((its - 1 : Nat) : Int) by omega]
            refine q_iload (pc' := 181) (dk_at dkX6_goesOn 99 rfl) rfl rfl ?_
            refine q_iand (pc' := 182) (dk_at dkX6_goesOn 100 rfl) (by omega) (by omega) rfl ?_
            rw [show (((((its - 1 : Nat) : Int)).toNat &&& (((lfS S dn : Nat) : Int)).toNat : Nat) : Int) = (((its - 1) &&& (lfS S dn) : Nat) : Int) from nt_and (its - 1) (lfS S dn)]
            refine q_istore (pc' := 184) (L' := [some (vR m), some (vI (dn : Int)), some (vI fv), some (vI (t : Int)), some (vI cs), some (vI f1), some (vI ((lfS S dn : Nat) : Int)), some (vI (((its - 1) &&& (lfS S dn) : Nat) : Int))]) (dk_at dkX6_goesOn 101 rfl) (by decide) rfl rfl ?_
            refine q_goto (tgt := 109) (dk_at dkX6_goesOn 102 rfl) rfl ?_
            refine ih (its - 1 &&& lfS S dn) _ _ _ _ _ _ _ (by have := sub_lt (left := lfS S dn) (its := its) (by omega); omega) (sub_in _ _ hin) (fun s hs ha hlt => ?_) hT hG hM hF
            have hsi : its ≤ s := by
              rcases Nat.lt_or_ge s its with q | q
              · have := sub_next (lfS S dn) its s hin (lfS_mk hs (alw_i ha).2.1) q
                omega
              · exact q
            by_cases z : s = its
            · exfalso
              rw [z] at ha
              obtain ⟨a1, a2, a3⟩ := alw_i ha
              have a4 := (okS_i a1).2
              first
                | omega
                | (have a5 := y135.f (by omega); rcases hfi with z | z; omega; rw [← z.2, e9t] at a3; omega)
            · exact hq s hs ha (by omega)
          · refine q_aload_n (pc' := 142) (dk_at dkX6_goesOn 77 rfl) rfl rfl ?_
            refine q_iload (pc' := 144) (dk_at dkX6_goesOn 78 rfl) rfl rfl ?_
            refine q_iload_n (pc' := 145) (dk_at dkX6_goesOn 79 rfl) rfl rfl ?_
            refine q_iload_n (pc' := 146) (dk_at dkX6_goesOn 80 rfl) rfl rfl ?_
            have hal : alw S fi dn its = true := alw_mk (okS_mk hw (by omega) (by omega)) hls.2 (by rcases hfi with z | z; exact Or.inl z.1; right; first | (left; omega; done) | (right; have := y135.t (by omega); rw [← z.2, e9t]; exact this))
            refine r_cVV (pc' := 149) (As := [vI (its : Int), vI fv, vI (t : Int)]) (S := []) cv_RX6_217 (dk_at dkX6_goesOn 81 rfl) hM.obj rfl (k_M_takesSet (d := 4) (s := its) (t := t) (by omega) hR hk (by omega) hs2 hw hSt (by omega) hfv (by have := he.r; omega) hM) (by omega) (Nat.zero_le _) (Nat.zero_le _) rfl (Nat.le_of_ble_eq_true rfl) rfl (Nat.le_of_ble_eq_true rfl) rfl (fun hh12 hphh12 => ?_)
            obtain ⟨f2, t2, c2, hM, ⟨ef, et, ec2⟩, hGf⟩ := hphh12
            have hF := hF.tr hGf (by omega)
            have hcr := he.r
            have ec : jn S cs c2 = smT S its (endS S its fv (t : Int)) cs S.cnt := by rw [ec2, smT_jn hcr.2.1, et]
            have hE2 := (he.step hk (l := fv) (by omega) hs2 hls.2).r
            rw [← et] at hE2
            have hsm := smT_2k hk (s := its) (show 0 ≤ (t2 : Int) ∧ (t2 : Int) ≤ 2000 by omega) S.cnt
            rw [← ec2] at hsm
            refine q_aload_n (pc' := 150) (dk_at dkX6_goesOn 82 rfl) rfl rfl ?_
            refine q_iload_n (pc' := 151) (dk_at dkX6_goesOn 83 rfl) rfl rfl ?_
            refine q_iload (pc' := 153) (dk_at dkX6_goesOn 84 rfl) rfl rfl ?_
            refine q_ior (pc' := 154) (dk_at dkX6_goesOn 85 rfl) (by omega) (by omega) rfl ?_
            rw [show ((((dn : Int)).toNat ||| ((its : Int)).toNat : Nat) : Int) = ((dn ||| its : Nat) : Int) from nt_or dn its]
            refine q_aload_n (pc' := 155) (dk_at dkX6_goesOn 86 rfl) rfl rfl ?_
            refine r_getf (pc' := 158) fl_RX6_200 (dk_at dkX6_goesOn 87 rfl) hM.obj rfl rfl ?_
            refine q_aload_n (pc' := 159) (dk_at dkX6_goesOn 88 rfl) rfl rfl ?_
            refine r_getf (pc' := 162) fl_RX6_203 (dk_at dkX6_goesOn 89 rfl) hM.obj rfl rfl ?_
            refine q_aload_n (pc' := 163) (dk_at dkX6_goesOn 90 rfl) rfl rfl ?_
            refine q_iload (pc' := 165) (dk_at dkX6_goesOn 91 rfl) rfl rfl ?_
            refine q_aload_n (pc' := 166) (dk_at dkX6_goesOn 92 rfl) rfl rfl ?_
            refine r_getf (pc' := 169) fl_RX6_206 (dk_at dkX6_goesOn 93 rfl) hM.obj rfl rfl ?_
            refine r_cVI (pc' := 172) (As := [vI cs, vI c2]) (S := [vI (t2 : Int), vI (f2 : Int), vI ((dn ||| its : Nat) : Int), vR m]) cv_RX6_140 (dk_at dkX6_goesOn 94 rfl) hM.obj rfl (k_M_with (d := 1) (by omega) hR hk (by omega) (by omega) hM) (by omega) (Nat.zero_le _) (Nat.zero_le _) rfl (Nat.le_of_ble_eq_true rfl) rfl (Nat.le_of_ble_eq_true rfl) rfl (fun xx13 hh14 hphh14 => ?_)
            obtain ⟨qq15, rfl⟩ := hphh14
            rw [qq15]
            obtain ⟨⟨⟨g1, g2, g3⟩, g4, g5, g6, g7⟩, hT, hG, hRc, hRm⟩ := go_reach hk hT hG hdn (s := its) hs2 hal he hF0 (f := f2) (t1 := t2) (c1 := (jn S cs c2)) ef et ec
            refine r_cVV (pc' := 175) (As := [vI ((dn ||| its : Nat) : Int), vI (f2 : Int), vI (t2 : Int), vI (jn S cs c2)]) (S := []) cv_RX6_213 (dk_at dkX6_goesOn 95 rfl) hM.obj rfl (k_M_reaches (d := 4) (s := dn ||| its) (f := f2) (t := t2) g1 g2 g3 (by omega) (by omega) g6 g7 hM) (by omega) (Nat.zero_le _) (Nat.zero_le _) rfl (Nat.le_of_ble_eq_true rfl) rfl (Nat.le_of_ble_eq_true rfl) rfl (fun hh17 hphh17 => ?_)
            obtain ⟨hM, hGf⟩ := hphh17
            have hF := hF.tr hGf (by omega)
            refine q_iload (pc' := 177) (dk_at dkX6_goesOn 96 rfl) rfl rfl ?_
            refine q_iconst (pc' := 178) (dk_at dkX6_goesOn 97 rfl) rfl ?_
            refine q_isub (pc' := 179) (dk_at dkX6_goesOn 98 rfl) rfl ?_
            rw [show ((its : Int) - 1) = ((its - 1 : Nat) : Int) by omega]
            refine q_iload (pc' := 181) (dk_at dkX6_goesOn 99 rfl) rfl rfl ?_
            refine q_iand (pc' := 182) (dk_at dkX6_goesOn 100 rfl) (by omega) (by omega) rfl ?_
            rw [show (((((its - 1 : Nat) : Int)).toNat &&& (((lfS S dn : Nat) : Int)).toNat : Nat) : Int) = (((its - 1) &&& (lfS S dn) : Nat) : Int) from nt_and (its - 1) (lfS S dn)]
            refine q_istore (pc' := 184) (L' := [some (vR m), some (vI (dn : Int)), some (vI fv), some (vI (t : Int)), some (vI cs), some (vI f1), some (vI ((lfS S dn : Nat) : Int)), some (vI (((its - 1) &&& (lfS S dn) : Nat) : Int))]) (dk_at dkX6_goesOn 101 rfl) (by decide) rfl rfl ?_
            refine q_goto (tgt := 109) (dk_at dkX6_goesOn 102 rfl) rfl ?_
            refine ih (its - 1 &&& lfS S dn) _ _ _ _ _ _ _ (by have := sub_lt (left := lfS S dn) (its := its) (by omega); omega) (sub_in _ _ hin) (fun s hs ha hlt => ?_) hT hG hM hF
            have hsi : its ≤ s := by
              rcases Nat.lt_or_ge s its with q | q
              · have := sub_next (lfS S dn) its s hin (lfS_mk hs (alw_i ha).2.1) q
                omega
              · exact q
            by_cases z : s = its
            · rw [z]; exact hRc
            · exact hRm _ (hq s hs ha (by omega))

set_option maxHeartbeats 4000000 in
set_option maxRecDepth 100000 in
theorem k_M_goesOn {d n : Nat} {h : PH} {m : Nat} {S : Shp} {A sd sq op ss es bo su se tx ba le fr un sF sR sT ad : Nat → Int} {sm th l0 bm tl nf ne nc : Int} {dn t : Nat} {fi F0 fv cs f1 : Int} (hd : 5 ≤ d) (hR : MR A S) (hk : Sok S) (hdn : dn < 2 ^ S.cnt) (hfv : -1 ≤ fv ∧ fv ≤ 3) (he : Ent S dn (t : Int) cs) (hF0 : F0 ≤ fn S fi dn fv (t : Int) cs) (hfr : f1 = -1 ∨ (0 ≤ f1 ∧ f1 < S.cnt)) (hfi : (dn ≠ 0 ∧ f1 = -1) ∨ (dn = 0 ∧ f1 = fi)) (hSt : SetsM S sF sR sT) (hT : TbI S fi F0 le fr un) (hM : isModel n h m A sd sm th sq op l0 ss es bo su se bm tx tl ba le fr un nf ne nc sF sR sT ad) : CtrV mX6_goesOn d [vR m, vI (dn : Int), vI fv, vI (t : Int), vI cs, vI f1] n h (fun h' => ∃ (le1 fr1 un1 : Nat → Int) (nf1 ne1 nc1 : Int), isModel n h' m A sd sm th sq op l0 ss es bo su se bm tx tl ba le1 fr1 un1 nf1 ne1 nc1 sF sR sT ad ∧ TbI S fi F0 le1 fr1 un1 ∧ GoR dn le fr un le1 fr1 un1 ∧ (∀ s, s < 2 ^ S.cnt → alw S fi dn s = true → Rch S dn fv (t : Int) cs le1 s) ∧ Fr h h' m (m + 19)) := by
  have hc8 := hk.c
  have hp8 := (nt_pow_r hk.c).2
  have hp1 := (nt_pow_r hk.c).1
  have hF : Fr h h m (m + 19) := Fr.rf
  refine q_beginV (L := [some (vR m), some (vI (dn : Int)), some (vI fv), some (vI (t : Int)), some (vI cs), some (vI f1), none, none]) rfl ?_
  refine q_aload_n (pc' := 1) (dk_at dkX6_goesOn 0 rfl) rfl rfl ?_
  refine r_getf (pc' := 4) fl_RX6_7 (dk_at dkX6_goesOn 1 rfl) hM.obj rfl rfl ?_
  refine q_bipush (pc' := 6) (dk_at dkX6_goesOn 2 rfl) (by decide +kernel) rfl ?_
  refine r_iald (pc' := 7) (dk_at dkX6_goesOn 3 rfl) hM.all 61 (by omega) (by omega) (by decide) rfl ?_
  have hAw := hR.w
  have hww := hk.w
  refine q_if_ne (tgt := 89) (pc' := 10) (dk_at dkX6_goesOn 4 rfl) rfl rfl (by omega) (fun c7 => ?_) (fun c7 => ?_)
  · refine q_iconst (pc' := 90) (dk_at dkX6_goesOn 47 rfl) rfl ?_
    refine q_aload_n (pc' := 91) (dk_at dkX6_goesOn 48 rfl) rfl rfl ?_
    refine r_getf (pc' := 94) fl_RX6_7 (dk_at dkX6_goesOn 49 rfl) hM.obj rfl rfl ?_
    refine q_iconst (pc' := 95) (dk_at dkX6_goesOn 50 rfl) rfl ?_
    refine r_iald (pc' := 96) (dk_at dkX6_goesOn 51 rfl) hM.all 0 (by omega) (by omega) (by decide) rfl ?_
    rw [hR.c]
    refine q_ishl (pc' := 97) (dk_at dkX6_goesOn 52 rfl) (by omega) (by omega) rfl ?_
    have bb1 := nt_pow_r (j := S.cnt) (by omega)
    rw [show ((1 : Int) * 2 ^ ((S.cnt : Int)).toNat) = ((2 ^ S.cnt : Nat) : Int) from nt_shl1 S.cnt]
    refine q_iconst (pc' := 98) (dk_at dkX6_goesOn 53 rfl) rfl ?_
    refine q_isub (pc' := 99) (dk_at dkX6_goesOn 54 rfl) rfl ?_
    rw [show (((2 ^ S.cnt : Nat) : Int) - 1) = ((2 ^ S.cnt - 1 : Nat) : Int) by omega]
    refine q_iload_n (pc' := 100) (dk_at dkX6_goesOn 55 rfl) rfl rfl ?_
    refine q_iconst (pc' := 101) (dk_at dkX6_goesOn 56 rfl) rfl ?_
    refine q_inot (pc' := 102) (dk_at dkX6_goesOn 57 rfl) rfl ?_
    refine q_iandn (pc' := 103) (dk_at dkX6_goesOn 58 rfl) (by omega) (by omega) rfl ?_
    rw [show (((2 ^ S.cnt - 1 : Nat) : Int) - (((((2 ^ S.cnt - 1 : Nat) : Int)).toNat &&& ((dn : Int)).toNat : Nat) : Int)) = (((2 ^ S.cnt - 1) - ((2 ^ S.cnt - 1) &&& dn) : Nat) : Int) from nt_andn (2 ^ S.cnt - 1) dn]
    rw [show (((2 ^ S.cnt - 1) - ((2 ^ S.cnt - 1) &&& dn) : Nat) : Int) = ((lfS S dn : Nat) : Int) from rfl]
    refine q_istore (pc' := 105) (L' := [some (vR m), some (vI (dn : Int)), some (vI fv), some (vI (t : Int)), some (vI cs), some (vI f1), some (vI ((lfS S dn : Nat) : Int)), none]) (dk_at dkX6_goesOn 59 rfl) (by decide) rfl rfl ?_
    refine q_iload (pc' := 107) (dk_at dkX6_goesOn 60 rfl) rfl rfl ?_
    refine q_istore (pc' := 109) (L' := [some (vR m), some (vI (dn : Int)), some (vI fv), some (vI (t : Int)), some (vI cs), some (vI f1), some (vI ((lfS S dn : Nat) : Int)), some (vI ((lfS S dn : Nat) : Int))]) (dk_at dkX6_goesOn 61 rfl) (by decide) rfl rfl ?_
    exact l_gob (h := h) (le := le) (fr := fr) (un := un) hd hR hk hdn hfv he hF0 hfr hfi hc8 hp8 (by omega) hSt (lfS S dn) (lfS S dn) _ _ _ _ _ _ _ (Nat.le_refl _) (Nat.and_self _) (fun s hs ha hlt => by have := Nat.and_le_right (n := s) (m := lfS S dn); rw [lfS_mk hs (alw_i ha).2.1] at this; omega) hT (GoR.rf _ _ _ _) hM hF
  · refine q_iconst (pc' := 11) (dk_at dkX6_goesOn 5 rfl) rfl ?_
    refine q_istore (pc' := 13) (L' := [some (vR m), some (vI (dn : Int)), some (vI fv), some (vI (t : Int)), some (vI cs), some (vI f1), some (vI 0), none]) (dk_at dkX6_goesOn 6 rfl) (by decide) rfl rfl ?_
    exact l_goj (h := h) (le := le) (fr := fr) (un := un) hd hR hk hdn hfv he hF0 hfr hfi hc8 hp8 (by omega) S.cnt 0 _ _ _ _ _ _ _ (by omega) (fun j2 hj2 => absurd hj2 (Nat.not_lt_zero _)) hT (GoR.rf _ _ _ _) hM hF
