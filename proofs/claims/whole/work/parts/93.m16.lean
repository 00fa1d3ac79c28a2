/-! BatchMachineModel: what comes behind -/
theorem okS_pw {S : Shp} (hk : Sok S) {s : Nat} (hs : s < 2 ^ S.cnt) (h : pw2 s = true) : okS S s = true := by
  obtain ⟨j, h1, h2⟩ := pw2_ex h
  rw [h2] at hs ⊢
  refine okS_one hk ?_
  rcases Nat.lt_or_ge j S.cnt with q | q
  · exact q
  · have := Nat.pow_le_pow_right (n := 2) (by decide) q
    omega
theorem okS_pw2 {S : Shp} (hw : S.wh ≠ 1) {s : Nat} (h : okS S s = true) : pw2 s = true := by
  unfold okS at h
  rw [Bool.and_eq_true, Bool.and_eq_true, decide_eq_false hw, Bool.false_or] at h
  exact h.1.2
set_option maxHeartbeats 4000000 in
set_option maxRecDepth 100000 in
theorem k_M_leftOver {d n : Nat} {h : PH} {m : Nat} {A sd sq op ss es bo su se tx ba le fr un sF sR sT ad : Nat → Int} {sm th l0 bm tl nf ne nc : Int} {s f t : Nat} (hs : s < 256) (hf : f < 4) (ht : t ≤ 2000) (hM : isModel n h m A sd sm th sq op l0 ss es bo su se bm tx tl ba le fr un nf ne nc sF sR sT ad) : CtrI mX6_leftOver d [vR m, vI (s : Int), vI (f : Int), vI (t : Int)] n h (fun x h' => h' = h ∧ ((t < 1200 ∧ x = le (1200 * (4 * s + f) + t)) ∨ (1200 ≤ t ∧ x = 2000000000))) := by
  refine q_beginI (L := [some (vR m), some (vI (s : Int)), some (vI (f : Int)), some (vI (t : Int))]) rfl ?_
  refine q_iload_n (pc' := 1) (dk_at dkX6_leftOver 0 rfl) rfl rfl ?_
  refine q_sipush (pc' := 4) (dk_at dkX6_leftOver 1 rfl) (by decide +kernel) rfl ?_
  refine q_icmp_ge (tgt := 26) (pc' := 7) (dk_at dkX6_leftOver 2 rfl) rfl rfl (by omega) (by omega) (fun c4 => ?_) (fun c4 => ?_)
  · refine q_ldc (pc' := 28) (z := 2000000000) kc_RX6_65 (by decide +kernel) (dk_at dkX6_leftOver 16 rfl) rfl ?_
    refine r_iret rfl (dk_at dkX6_leftOver 17 rfl) ?_
    exact ⟨rfl, Or.inr ⟨by omega, rfl⟩⟩
  · refine q_aload_n (pc' := 8) (dk_at dkX6_leftOver 3 rfl) rfl rfl ?_
    refine r_getf (pc' := 11) fl_RX6_44 (dk_at dkX6_leftOver 4 rfl) hM.obj rfl rfl ?_
    refine q_sipush (pc' := 14) (dk_at dkX6_leftOver 5 rfl) (by decide +kernel) rfl ?_
    refine q_iconst (pc' := 15) (dk_at dkX6_leftOver 6 rfl) rfl ?_
    refine q_iload_n (pc' := 16) (dk_at dkX6_leftOver 7 rfl) rfl rfl ?_
    refine q_imul (pc' := 17) (dk_at dkX6_leftOver 8 rfl) rfl ?_
    refine q_iload_n (pc' := 18) (dk_at dkX6_leftOver 9 rfl) rfl rfl ?_
    refine q_iadd (pc' := 19) (dk_at dkX6_leftOver 10 rfl) rfl ?_
    refine q_imul (pc' := 20) (dk_at dkX6_leftOver 11 rfl) rfl ?_
    refine q_iload_n (pc' := 21) (dk_at dkX6_leftOver 12 rfl) rfl rfl ?_
    refine q_iadd (pc' := 22) (dk_at dkX6_leftOver 13 rfl) rfl ?_
    refine r_iald (pc' := 23) (dk_at dkX6_leftOver 14 rfl) hM.least (1200 * (4 * s + f) + t) (by omega) (by omega) (by decide) rfl ?_
    refine q_goto (tgt := 28) (dk_at dkX6_leftOver 15 rfl) rfl ?_
    refine r_iret rfl (dk_at dkX6_leftOver 17 rfl) ?_
    exact ⟨rfl, Or.inl ⟨by omega, rfl⟩⟩

set_option maxHeartbeats 4000000 in
set_option maxRecDepth 100000 in
theorem l_tk2 {d n : Nat} {h : PH} {m : Nat} {S : Shp} {s t j0 : Nat} {fv : Int} {A sd sq op ss es bo su se tx ba le fr un sF sR sT ad : Nat → Int} {sm th l0 bm tl nf ne nc : Int} (hd : 3 ≤ d) (hR : MR A S) (hk : Sok S) (hs1 : 1 ≤ s) (hs2 : s < 2 ^ S.cnt) (hSt : SetsM S sF sR sT) (hf : -1 ≤ fv ∧ fv ≤ 3) (ht : t ≤ 1200) (hw : S.wh ≠ 1) (es0 : s = 2 ^ j0) (hj0 : j0 < S.cnt) (hc8 : S.cnt ≤ 8) (hp8 : 2 ^ S.cnt ≤ 256) (hM : isModel n h m A sd sm th sq op l0 ss es bo su se bm tx tl ba le fr un nf ne nc sF sR sT ad) (hF : Fr h h m (m + 19)) : ∀ (c : Nat) (j : Nat), (j + c = j0 + 1) → (j ≤ j0) → QN mX6_takes d (FV n (fun h' => ∃ f1 t1 : Nat, ∃ c1 : Int, isModel n h' m A sd sm th sq op l0 ss es bo su se bm tx tl ba le fr un (f1 : Int) (t1 : Int) c1 sF sR sT ad ∧ ((f1 : Int) = sfT S.V s S.cnt ∧ (t1 : Int) = endS S s fv (t : Int) ∧ c1 = smT S s (t1 : Int) (neuM S) S.cnt) ∧ Fr h h' m (m + 19))) 22 [some (vR m), some (vI (s : Int)), some (vI fv), some (vI (t : Int)), some (vI (j : Int))] [] n h := by
  intro c
  induction c with
  | zero =>
    intro j hc hj
    refine q_iload_n (pc' := 23) (dk_at dkX6_takes 14 rfl) rfl rfl ?_
    refine q_iload (pc' := 25) (dk_at dkX6_takes 15 rfl) rfl rfl ?_
    refine r_cSI (pc' := 28) (As := [vI (s : Int), vI (j : Int)]) (S := []) cs_RX6_154 (dk_at dkX6_takes 16 rfl) (k_M_has (d := 0) (s := s) (k := j) (by omega) (by omega)) (by omega) (Nat.zero_le _) (Nat.zero_le _) rfl (Nat.le_of_ble_eq_true rfl) rfl (Nat.le_of_ble_eq_true rfl) rfl (fun xx1 hh2 hphh2 => ?_)
    obtain ⟨qq3, y25⟩ := hphh2
    rw [qq3]
    have yr25 := y25.r
    refine q_if_ne (tgt := 37) (pc' := 31) (dk_at dkX6_takes 17 rfl) rfl rfl (by omega) (fun c28 => ?_) (fun c28 => ?_)
    · refine q_aload_n (pc' := 38) (dk_at dkX6_takes 20 rfl) rfl rfl ?_
      refine q_iload (pc' := 40) (dk_at dkX6_takes 21 rfl) rfl rfl ?_
      refine q_iload_n (pc' := 41) (dk_at dkX6_takes 22 rfl) rfl rfl ?_
      refine q_iload_n (pc' := 42) (dk_at dkX6_takes 23 rfl) rfl rfl ?_
      have ej : j = j0 := by have := (b_pow j0 j).mp (by rw [← es0]; exact y25.t (by omega)); omega
      refine r_cVV (pc' := 45) (As := [vI (j : Int), vI fv, vI (t : Int)]) (S := []) cv_RX6_209 (dk_at dkX6_takes 24 rfl) hM.obj rfl (k_M_takesJob (d := 2) (j := j) (t := t) (by omega) hR hk hw (by omega) hf ht hM) (by omega) (Nat.zero_le _) (Nat.zero_le _) rfl (Nat.le_of_ble_eq_true rfl) rfl (Nat.le_of_ble_eq_true rfl) rfl (fun hh5 hphh5 => ?_)
      obtain ⟨f1, t1, c1, hM, ⟨e1, e2, e3⟩, hGf⟩ := hphh5
      have hF := hF.tr hGf (by omega)
      have hx : (f1 : Int) = sfT S.V s S.cnt ∧ (t1 : Int) = endS S s fv (t : Int) ∧ c1 = smT S s (t1 : Int) (neuM S) S.cnt := by
        rw [es0, ← ej]
        have a1 := endS_le hk (2 ^ j) fv (f := (t : Int)) (by omega)
        have a2 := swT_r hk.v (2 ^ j) S.cnt
        have a3 := hk.c
        have a4 := pen_2k hk j (C := (t1 : Int)) (by omega)
        exact ⟨by rw [one_fam hk (by omega)]; exact e1, e2, by rw [one_sum (by omega), jn_neuM S (by omega)]; exact e3⟩
      refine r_vret rfl (dk_at dkX6_takes 25 rfl) ?_
      exact ⟨f1, t1, c1, hM, hx, hF⟩
    · exfalso
      omega
  | succ c ih =>
    intro j hc hj
    refine q_iload_n (pc' := 23) (dk_at dkX6_takes 14 rfl) rfl rfl ?_
    refine q_iload (pc' := 25) (dk_at dkX6_takes 15 rfl) rfl rfl ?_
    refine r_cSI (pc' := 28) (As := [vI (s : Int), vI (j : Int)]) (S := []) cs_RX6_154 (dk_at dkX6_takes 16 rfl) (k_M_has (d := 0) (s := s) (k := j) (by omega) (by omega)) (by omega) (Nat.zero_le _) (Nat.zero_le _) rfl (Nat.le_of_ble_eq_true rfl) rfl (Nat.le_of_ble_eq_true rfl) rfl (fun xx1 hh2 hphh2 => ?_)
    obtain ⟨qq3, y25⟩ := hphh2
    rw [qq3]
    have yr25 := y25.r
    refine q_if_ne (tgt := 37) (pc' := 31) (dk_at dkX6_takes 17 rfl) rfl rfl (by omega) (fun c28 => ?_) (fun c28 => ?_)
    · refine q_aload_n (pc' := 38) (dk_at dkX6_takes 20 rfl) rfl rfl ?_
      refine q_iload (pc' := 40) (dk_at dkX6_takes 21 rfl) rfl rfl ?_
      refine q_iload_n (pc' := 41) (dk_at dkX6_takes 22 rfl) rfl rfl ?_
      refine q_iload_n (pc' := 42) (dk_at dkX6_takes 23 rfl) rfl rfl ?_
      have ej : j = j0 := by have := (b_pow j0 j).mp (by rw [← es0]; exact y25.t (by omega)); omega
      refine r_cVV (pc' := 45) (As := [vI (j : Int), vI fv, vI (t : Int)]) (S := []) cv_RX6_209 (dk_at dkX6_takes 24 rfl) hM.obj rfl (k_M_takesJob (d := 2) (j := j) (t := t) (by omega) hR hk hw (by omega) hf ht hM) (by omega) (Nat.zero_le _) (Nat.zero_le _) rfl (Nat.le_of_ble_eq_true rfl) rfl (Nat.le_of_ble_eq_true rfl) rfl (fun hh5 hphh5 => ?_)
      obtain ⟨f1, t1, c1, hM, ⟨e1, e2, e3⟩, hGf⟩ := hphh5
      have hF := hF.tr hGf (by omega)
      have hx : (f1 : Int) = sfT S.V s S.cnt ∧ (t1 : Int) = endS S s fv (t : Int) ∧ c1 = smT S s (t1 : Int) (neuM S) S.cnt := by
        rw [es0, ← ej]
        have a1 := endS_le hk (2 ^ j) fv (f := (t : Int)) (by omega)
        have a2 := swT_r hk.v (2 ^ j) S.cnt
        have a3 := hk.c
        have a4 := pen_2k hk j (C := (t1 : Int)) (by omega)
        exact ⟨by rw [one_fam hk (by omega)]; exact e1, e2, by rw [one_sum (by omega), jn_neuM S (by omega)]; exact e3⟩
      refine r_vret rfl (dk_at dkX6_takes 25 rfl) ?_
      exact ⟨f1, t1, c1, hM, hx, hF⟩
    · refine q_iinc (pc' := 34) (L' := [some (vR m), some (vI (s : Int)), some (vI fv), some (vI (t : Int)), some (vI ((j : Int) + 1))]) (dk_at dkX6_takes 18 rfl) (by decide) rfl rfl rfl ?_
      rw [show ((j : Int) + 1) = ((j + 1 : Nat) : Int) by omega]
      refine q_goto (tgt := 22) (dk_at dkX6_takes 19 rfl) rfl ?_
      refine ih (j + 1) (by omega) ?_
      by_cases z : j = j0
      · exact absurd (by rw [es0, z]; exact (b_pow j0 j0).mpr rfl) (y25.f (by omega))
      · omega

set_option maxHeartbeats 4000000 in
set_option maxRecDepth 100000 in
theorem k_M_takes {d n : Nat} {h : PH} {m : Nat} {A sd sq op ss es bo su se tx ba le fr un sF sR sT ad : Nat → Int} {sm th l0 bm tl nf ne nc : Int} {S : Shp} {s t : Nat} {fv : Int} (hd : 3 ≤ d) (hR : MR A S) (hk : Sok S) (hs1 : 1 ≤ s) (hs2 : s < 2 ^ S.cnt) (hSt : SetsM S sF sR sT) (hf : -1 ≤ fv ∧ fv ≤ 3) (ht : t ≤ 1200) (hwf : S.wh = 1 → sfT S.V s S.cnt ≠ -1) (hwp : S.wh ≠ 1 → pw2 s = true) (hM : isModel n h m A sd sm th sq op l0 ss es bo su se bm tx tl ba le fr un nf ne nc sF sR sT ad) : CtrV mX6_takes d [vR m, vI (s : Int), vI fv, vI (t : Int)] n h (fun h' => ∃ f1 t1 : Nat, ∃ c1 : Int, isModel n h' m A sd sm th sq op l0 ss es bo su se bm tx tl ba le fr un (f1 : Int) (t1 : Int) c1 sF sR sT ad ∧ ((f1 : Int) = sfT S.V s S.cnt ∧ (t1 : Int) = endS S s fv (t : Int) ∧ c1 = smT S s (t1 : Int) (neuM S) S.cnt) ∧ Fr h h' m (m + 19)) := by
  have hF : Fr h h m (m + 19) := Fr.rf
  have hc8 := hk.c
  have hp8 := (nt_pow_r hk.c).2
  refine q_beginV (L := [some (vR m), some (vI (s : Int)), some (vI fv), some (vI (t : Int)), none]) rfl ?_
  refine q_aload_n (pc' := 1) (dk_at dkX6_takes 0 rfl) rfl rfl ?_
  refine r_getf (pc' := 4) fl_RX6_7 (dk_at dkX6_takes 1 rfl) hM.obj rfl rfl ?_
  refine q_bipush (pc' := 6) (dk_at dkX6_takes 2 rfl) (by decide +kernel) rfl ?_
  refine r_iald (pc' := 7) (dk_at dkX6_takes 3 rfl) hM.all 61 (by omega) (by omega) (by decide) rfl ?_
  have hAw := hR.w
  have hww := hk.w
  refine q_iconst (pc' := 8) (dk_at dkX6_takes 4 rfl) rfl ?_
  refine q_icmp_ne (tgt := 19) (pc' := 11) (dk_at dkX6_takes 5 rfl) rfl rfl (by omega) (by omega) (fun c8 => ?_) (fun c8 => ?_)
  · refine q_iconst (pc' := 20) (dk_at dkX6_takes 12 rfl) rfl ?_
    refine q_istore (pc' := 22) (L' := [some (vR m), some (vI (s : Int)), some (vI fv), some (vI (t : Int)), some (vI 0)]) (dk_at dkX6_takes 13 rfl) (by decide) rfl rfl ?_
    obtain ⟨j0, j1, j2⟩ := okS_item hk (by omega) hs2 (okS_pw hk hs2 (hwp (by omega)))
    exact l_tk2 (h := h) hd hR hk hs1 hs2 hSt hf ht (by omega) j2 j1 hk.c (nt_pow_r hk.c).2 hM hF (j0 + 1) 0 (by omega) (by omega)
  · refine q_aload_n (pc' := 12) (dk_at dkX6_takes 6 rfl) rfl rfl ?_
    refine q_iload_n (pc' := 13) (dk_at dkX6_takes 7 rfl) rfl rfl ?_
    refine q_iload_n (pc' := 14) (dk_at dkX6_takes 8 rfl) rfl rfl ?_
    refine q_iload_n (pc' := 15) (dk_at dkX6_takes 9 rfl) rfl rfl ?_
    refine r_cVV (pc' := 18) (As := [vI (s : Int), vI fv, vI (t : Int)]) (S := []) cv_RX6_217 (dk_at dkX6_takes 10 rfl) hM.obj rfl (k_M_takesSet (d := 2) (s := s) (t := t) (by omega) hR hk hs1 hs2 (by omega) hSt (hwf (by omega)) hf ht hM) (by omega) (Nat.zero_le _) (Nat.zero_le _) rfl (Nat.le_of_ble_eq_true rfl) rfl (Nat.le_of_ble_eq_true rfl) rfl (fun hh2 hphh2 => ?_)
    obtain ⟨f1, t1, c1, hM, hx, hGf⟩ := hphh2
    have hF := hF.tr hGf (by omega)
    refine r_vret rfl (dk_at dkX6_takes 11 rfl) ?_
    exact ⟨f1, t1, c1, hM, hx, hF⟩

set_option maxHeartbeats 4000000 in
set_option maxRecDepth 100000 in
theorem l_rs {d n : Nat} {h : PH} {m : Nat} {S : Shp} {dn t : Nat} {fv x4 : Int} {A sd sq op ss es bo su se tx ba le fr un sF sR sT ad : Nat → Int} {sm th l0 bm tl : Int} (hd : 6 ≤ d) (hR : MR A S) (hk : Sok S) (hSt : SetsM S sF sR sT) (hdn : dn < 2 ^ S.cnt) (hfv : -1 ≤ fv ∧ fv ≤ 3) (ht : t < 1200) (hD : DBs S (4 * (dn + 1)) le) (hc8 : S.cnt ≤ 8) (hp8 : 2 ^ S.cnt ≤ 256) : ∀ (c : Nat) (its : Nat) (b nf1 ne1 nc1 : Int) (h1 : PH) (x8 x9 x10 : Option PV), (its ≤ c) → (its &&& lfS S dn = its) → (RI S dn fv (t : Int) its b) → (isModel n h1 m A sd sm th sq op l0 ss es bo su se bm tx tl ba le fr un nf1 ne1 nc1 sF sR sT ad) → (Fr h h1 m (m + 19)) → QN mX6_rest d (FI n (fun x h' => ∃ nf1 ne1 nc1 : Int, isModel n h' m A sd sm th sq op l0 ss es bo su se bm tx tl ba le fr un nf1 ne1 nc1 sF sR sT ad ∧ RI S dn fv (t : Int) 0 x ∧ Fr h h' m (m + 19))) 28 [some (vR m), some (vI (dn : Int)), some (vI fv), some (vI (t : Int)), some (vI x4), some (vI b), some (vI ((lfS S dn : Nat) : Int)), some (vI (its : Int)), x8, x9, x10] [] n h1 := by
  intro c
  induction c with
  | zero =>
    intro its b nf1 ne1 nc1 h1 x8 x9 x10 hc hin hri hM hF
    have hil := lfS_lt S dn
    have hi256 : its ≤ lfS S dn := by rw [← hin]; exact Nat.and_le_right
    have hbr : -1000000 ≤ b ∧ b ≤ 2000000000 := by have := neuM_r S; have := rmT_le dn S.cnt; rcases hri.1 with y | y <;> omega
    refine q_iload (pc' := 30) (dk_at dkX6_rest 19 rfl) rfl rfl ?_
    refine q_if_le (tgt := 158) (pc' := 33) (dk_at dkX6_rest 20 rfl) rfl rfl (by omega) (fun c30 => ?_) (fun c30 => ?_)
    · refine q_iload (pc' := 160) (dk_at dkX6_rest 86 rfl) rfl rfl ?_
      refine r_iret rfl (dk_at dkX6_rest 87 rfl) ?_
      have e0 : its = 0 := by omega
      rw [e0] at hri
      exact ⟨_, _, _, hM, hri, hF⟩
    · exfalso
      omega
  | succ c ih =>
    intro its b nf1 ne1 nc1 h1 x8 x9 x10 hc hin hri hM hF
    have hil := lfS_lt S dn
    have hi256 : its ≤ lfS S dn := by rw [← hin]; exact Nat.and_le_right
    have hbr : -1000000 ≤ b ∧ b ≤ 2000000000 := by have := neuM_r S; have := rmT_le dn S.cnt; rcases hri.1 with y | y <;> omega
    refine q_iload (pc' := 30) (dk_at dkX6_rest 19 rfl) rfl rfl ?_
    refine q_if_le (tgt := 158) (pc' := 33) (dk_at dkX6_rest 20 rfl) rfl rfl (by omega) (fun c30 => ?_) (fun c30 => ?_)
    · refine q_iload (pc' := 160) (dk_at dkX6_rest 86 rfl) rfl rfl ?_
      refine r_iret rfl (dk_at dkX6_rest 87 rfl) ?_
      have e0 : its = 0 := by omega
      rw [e0] at hri
      exact ⟨_, _, _, hM, hri, hF⟩
    · have hls := lfS_in hin
      have hSt1 := hSt its (by omega) hls.1
      have hsr := sfT_r hk.v its S.cnt
      have hand : its &&& (its - 1) ≤ its := Nat.and_le_left
      have hAw := hR.w
      have hww := hk.w
      refine q_join 48 [some (vR m), some (vI (dn : Int)), some (vI fv), some (vI (t : Int)), some (vI x4), some (vI b), some (vI ((lfS S dn : Nat) : Int)), some (vI (its : Int)), x8, x9, x10] [] (fun jx => (jx = 1 ∧ its &&& (its - 1) = 0) ∨ (jx = 0 ∧ its &&& (its - 1) ≠ 0)) (fun jx48 e48 => ?_) (fun J48 => ?_)
      · refine q_istore (pc' := 50) (L' := [some (vR m), some (vI (dn : Int)), some (vI fv), some (vI (t : Int)), some (vI x4), some (vI b), some (vI ((lfS S dn : Nat) : Int)), some (vI (its : Int)), some (vI jx48), x9, x10]) (dk_at dkX6_rest 30 rfl) (by decide) rfl rfl ?_
        refine q_aload_n (pc' := 51) (dk_at dkX6_rest 31 rfl) rfl rfl ?_
        refine r_getf (pc' := 54) fl_RX6_7 (dk_at dkX6_rest 32 rfl) hM.obj rfl rfl ?_
        refine q_bipush (pc' := 56) (dk_at dkX6_rest 33 rfl) (by decide +kernel) rfl ?_
        refine r_iald (pc' := 57) (dk_at dkX6_rest 34 rfl) hM.all 61 (by omega) (by omega) (by decide) rfl ?_
        refine q_iconst (pc' := 58) (dk_at dkX6_rest 35 rfl) rfl ?_
        refine q_icmp_ne (tgt := 75) (pc' := 61) (dk_at dkX6_rest 36 rfl) rfl rfl (by omega) (by omega) (fun c58 => ?_) (fun c58 => ?_)
        · refine q_iload (pc' := 77) (dk_at dkX6_rest 44 rfl) rfl rfl ?_
          refine q_if_eq (tgt := 146) (pc' := 80) (dk_at dkX6_rest 45 rfl) rfl rfl (by omega) (fun c77 => ?_) (fun c77 => ?_)
          · refine q_iload (pc' := 148) (dk_at dkX6_rest 79 rfl) rfl rfl ?_
            refine q_iconst (pc' := 149) (dk_at dkX6_rest 80 rfl) rfl ?_
            refine q_isub (pc' := 150) (dk_at dkX6_rest 81 rfl) rfl ?_
            rw [show ((its : Int) - 1) = ((its - 1 : Nat) : Int) by omega]
            refine q_iload (pc' := 152) (dk_at dkX6_rest 82 rfl) rfl rfl ?_
            refine q_iand (pc' := 153) (dk_at dkX6_rest 83 rfl) (by omega) (by omega) rfl ?_
            rw [show (((((its - 1 : Nat) : Int)).toNat &&& (((lfS S dn : Nat) : Int)).toNat : Nat) : Int) = (((its - 1) &&& (lfS S dn) : Nat) : Int) from nt_and (its - 1) (lfS S dn)]
            refine q_istore (pc' := 155) (L' := [some (vR m), some (vI (dn : Int)), some (vI fv), some (vI (t : Int)), some (vI x4), some (vI b), some (vI ((lfS S dn : Nat) : Int)), some (vI (((its - 1) &&& (lfS S dn) : Nat) : Int)), some (vI jx48), x9, x10]) (dk_at dkX6_rest 84 rfl) (by decide) rfl rfl ?_
            refine q_goto (tgt := 28) (dk_at dkX6_rest 85 rfl) rfl ?_
            have hn : ∀ s, s < 2 ^ S.cnt → alw S (-1) dn s = true → (its - 1 &&& lfS S dn) < s → s = its ∨ its < s := fun s hs ha hlt => by
              rcases Nat.lt_or_ge s its with q | q
              · have := sub_next (lfS S dn) its s hin (lfS_mk hs (alw_i ha).2.1) q
                omega
              · omega
            refine ih (its - 1 &&& lfS S dn) _ _ _ _ _ _ _ _ (by have := sub_lt (left := lfS S dn) (its := its) (by omega); omega) (sub_in _ _ hin) ?_ hM hF
            refine hri.skip (fun s hs ha hlt => (hn s hs ha hlt).resolve_left (fun e => ?_))
            rw [e] at ha
            have a1 := (alw_i ha).1
            have a2 := (okS_i a1).2
            first
              | omega
              | (have := (sg_pw its (by omega) (by omega)).mpr (okS_pw2 (by omega) a1); omega)
          · refine q_aload_n (pc' := 81) (dk_at dkX6_rest 46 rfl) rfl rfl ?_
            refine q_iload (pc' := 83) (dk_at dkX6_rest 47 rfl) rfl rfl ?_
            refine q_iload_n (pc' := 84) (dk_at dkX6_rest 48 rfl) rfl rfl ?_
            refine q_iload_n (pc' := 85) (dk_at dkX6_rest 49 rfl) rfl rfl ?_
            have hok : okS S its = true := by first | exact okS_mk (by omega) (by omega) (by omega) | exact okS_pw hk hls.1 ((sg_pw its (by omega) (by omega)).mp (by omega))
            have hal : alw S (-1) dn its = true := alw_mk hok hls.2 (Or.inr (Or.inl rfl))
            refine r_cVV (pc' := 88) (As := [vI (its : Int), vI fv, vI (t : Int)]) (S := []) cv_RX6_233 (dk_at dkX6_rest 50 rfl) hM.obj rfl (k_M_takes (d := 5) (s := its) (t := t) (by omega) hR hk (by omega) hls.1 hSt hfv (by omega) (fun _ => (okS_i hok).2) (fun z => okS_pw2 z hok) hM) (by omega) (Nat.zero_le _) (Nat.zero_le _) rfl (Nat.le_of_ble_eq_true rfl) rfl (Nat.le_of_ble_eq_true rfl) rfl (fun hh2 hphh2 => ?_)
            obtain ⟨f2, t2, c2, hM, ⟨ef, et, ec⟩, hGf⟩ := hphh2
            have hF := hF.tr hGf (by omega)
            have h7 := sfT_le3 hk.v (show its ≠ 0 by omega) S.cnt hls.1
            have a1 := endS_le hk its fv (f := (t : Int)) (by omega)
            have a2 := swT_r hk.v its S.cnt
            have h8 := or_lt hdn hls.1
            refine q_aload_n (pc' := 89) (dk_at dkX6_rest 51 rfl) rfl rfl ?_
            refine q_iload_n (pc' := 90) (dk_at dkX6_rest 52 rfl) rfl rfl ?_
            refine q_iload (pc' := 92) (dk_at dkX6_rest 53 rfl) rfl rfl ?_
            refine q_ior (pc' := 93) (dk_at dkX6_rest 54 rfl) (by omega) (by omega) rfl ?_
            rw [show ((((dn : Int)).toNat ||| ((its : Int)).toNat : Nat) : Int) = ((dn ||| its : Nat) : Int) from nt_or dn its]
            refine q_aload_n (pc' := 94) (dk_at dkX6_rest 55 rfl) rfl rfl ?_
            refine r_getf (pc' := 97) fl_RX6_200 (dk_at dkX6_rest 56 rfl) hM.obj rfl rfl ?_
            refine q_aload_n (pc' := 98) (dk_at dkX6_rest 57 rfl) rfl rfl ?_
            refine r_getf (pc' := 101) fl_RX6_203 (dk_at dkX6_rest 58 rfl) hM.obj rfl rfl ?_
            refine r_cVI (pc' := 104) (As := [vI ((dn ||| its : Nat) : Int), vI (f2 : Int), vI (t2 : Int)]) (S := []) cv_RX6_236 (dk_at dkX6_rest 59 rfl) hM.obj rfl (k_M_leftOver (d := 5) (s := dn ||| its) (f := f2) (t := t2) (by omega) (by omega) (by omega) hM) (by omega) (Nat.zero_le _) (Nat.zero_le _) rfl (Nat.le_of_ble_eq_true rfl) rfl (Nat.le_of_ble_eq_true rfl) rfl (fun xx3 hh4 hphh4 => ?_)
            obtain ⟨qq5, ev⟩ := hphh4
            rw [qq5]
            obtain ⟨rc, rv, -, rw_⟩ := rest_at hk (w := if xx3 = 2000000000 then 2000000000 else jn S c2 xx3) hdn hD hls.1 hal (by omega) ef et ec ev
            obtain ⟨rw1, rw2⟩ := rw_ rfl
            refine q_istore (pc' := 106) (L' := [some (vR m), some (vI (dn : Int)), some (vI fv), some (vI (t : Int)), some (vI x4), some (vI b), some (vI ((lfS S dn : Nat) : Int)), some (vI (its : Int)), some (vI jx48), some (vI xx3), x10]) (dk_at dkX6_rest 60 rfl) (by decide) rfl rfl ?_
            refine q_join 128 [some (vR m), some (vI (dn : Int)), some (vI fv), some (vI (t : Int)), some (vI x4), some (vI b), some (vI ((lfS S dn : Nat) : Int)), some (vI (its : Int)), some (vI jx48), some (vI xx3), x10] [] (fun jx => jx = (if xx3 = 2000000000 then 2000000000 else jn S c2 xx3)) (fun jx128 e128 => ?_) (fun J128 => ?_)
            · refine q_istore (pc' := 130) (L' := [some (vR m), some (vI (dn : Int)), some (vI fv), some (vI (t : Int)), some (vI x4), some (vI b), some (vI ((lfS S dn : Nat) : Int)), some (vI (its : Int)), some (vI jx48), some (vI xx3), some (vI jx128)]) (dk_at dkX6_rest 71 rfl) (by decide) rfl rfl ?_
              rw [← e128] at rw1 rw2
              have hmr : -1000000 ≤ jx128 ∧ jx128 ≤ 2000000000 := by have := neuM_r S; have := rmT_le dn S.cnt; omega
              refine q_join 144 [some (vR m), some (vI (dn : Int)), some (vI fv), some (vI (t : Int)), some (vI x4), some (vI b), some (vI ((lfS S dn : Nat) : Int)), some (vI (its : Int)), some (vI jx48), some (vI xx3), some (vI jx128)] [] (fun jx => jx = min jx128 b) (fun jx144 e144 => ?_) (fun J144 => ?_)
              · refine q_istore (pc' := 146) (L' := [some (vR m), some (vI (dn : Int)), some (vI fv), some (vI (t : Int)), some (vI x4), some (vI jx144), some (vI ((lfS S dn : Nat) : Int)), some (vI (its : Int)), some (vI jx48), some (vI xx3), some (vI jx128)]) (dk_at dkX6_rest 78 rfl) (by decide) rfl rfl ?_
                refine q_iload (pc' := 148) (dk_at dkX6_rest 79 rfl) rfl rfl ?_
                refine q_iconst (pc' := 149) (dk_at dkX6_rest 80 rfl) rfl ?_
                refine q_isub (pc' := 150) (dk_at dkX6_rest 81 rfl) rfl ?_
                rw [show ((its : Int) - 1) = ((its - 1 : Nat) : Int) by omega]
                refine q_iload (pc' := 152) (dk_at dkX6_rest 82 rfl) rfl rfl ?_
                refine q_iand (pc' := 153) (dk_at dkX6_rest 83 rfl) (by omega) (by omega) rfl ?_
                rw [show (((((its - 1 : Nat) : Int)).toNat &&& (((lfS S dn : Nat) : Int)).toNat : Nat) : Int) = (((its - 1) &&& (lfS S dn) : Nat) : Int) from nt_and (its - 1) (lfS S dn)]
                refine q_istore (pc' := 155) (L' := [some (vR m), some (vI (dn : Int)), some (vI fv), some (vI (t : Int)), some (vI x4), some (vI jx144), some (vI ((lfS S dn : Nat) : Int)), some (vI (((its - 1) &&& (lfS S dn) : Nat) : Int)), some (vI jx48), some (vI xx3), some (vI jx128)]) (dk_at dkX6_rest 84 rfl) (by decide) rfl rfl ?_
                refine q_goto (tgt := 28) (dk_at dkX6_rest 85 rfl) rfl ?_
                have hn : ∀ s, s < 2 ^ S.cnt → alw S (-1) dn s = true → (its - 1 &&& lfS S dn) < s → s = its ∨ its < s := fun s hs ha hlt => by
                  rcases Nat.lt_or_ge s its with q | q
                  · have := sub_next (lfS S dn) its s hin (lfS_mk hs (alw_i ha).2.1) q
                    omega
                  · omega
                refine ih (its - 1 &&& lfS S dn) _ _ _ _ _ _ _ _ (by have := sub_lt (left := lfS S dn) (its := its) (by omega); omega) (sub_in _ _ hin) ?_ hM hF
                exact hri.take hk hdn hls.1 hal hn rw1 rw2 e144
              refine q_iload (pc' := 132) (dk_at dkX6_rest 72 rfl) rfl rfl ?_
              refine q_iload (pc' := 134) (dk_at dkX6_rest 73 rfl) rfl rfl ?_
              refine q_icmp_ge (tgt := 142) (pc' := 137) (dk_at dkX6_rest 74 rfl) rfl rfl (by omega) (by omega) (fun c134 => ?_) (fun c134 => ?_)
              · refine q_iload (pc' := 144) (dk_at dkX6_rest 77 rfl) rfl rfl ?_
                exact J144 _ (by omega)
              · refine q_iload (pc' := 139) (dk_at dkX6_rest 75 rfl) rfl rfl ?_
                refine q_goto (tgt := 144) (dk_at dkX6_rest 76 rfl) rfl ?_
                exact J144 _ (by omega)
            refine q_iload (pc' := 108) (dk_at dkX6_rest 61 rfl) rfl rfl ?_
            refine q_ldc (pc' := 110) (z := 2000000000) kc_RX6_65 (by decide +kernel) (dk_at dkX6_rest 62 rfl) rfl ?_
            refine q_icmp_ne (tgt := 118) (pc' := 113) (dk_at dkX6_rest 63 rfl) rfl rfl (by omega) (by omega) (fun c110 => ?_) (fun c110 => ?_)
            · refine q_aload_n (pc' := 119) (dk_at dkX6_rest 66 rfl) rfl rfl ?_
              refine q_aload_n (pc' := 120) (dk_at dkX6_rest 67 rfl) rfl rfl ?_
              refine r_getf (pc' := 123) fl_RX6_206 (dk_at dkX6_rest 68 rfl) hM.obj rfl rfl ?_
              refine q_iload (pc' := 125) (dk_at dkX6_rest 69 rfl) rfl rfl ?_
              refine r_cVI (pc' := 128) (As := [vI c2, vI xx3]) (S := []) cv_RX6_140 (dk_at dkX6_rest 70 rfl) hM.obj rfl (k_M_with (d := 5) (by omega) hR hk (by omega) (by omega) hM) (by omega) (Nat.zero_le _) (Nat.zero_le _) rfl (Nat.le_of_ble_eq_true rfl) rfl (Nat.le_of_ble_eq_true rfl) rfl (fun xx6 hh7 hphh7 => ?_)
              obtain ⟨qq8, rfl⟩ := hphh7
              rw [qq8]
              exact J128 _ (by first | rw [if_pos (by omega)] | rw [if_neg (by omega)])
            · refine q_ldc (pc' := 115) (z := 2000000000) kc_RX6_65 (by decide +kernel) (dk_at dkX6_rest 64 rfl) rfl ?_
              refine q_goto (tgt := 128) (dk_at dkX6_rest 65 rfl) rfl ?_
              exact J128 _ (by first | rw [if_pos (by omega)] | rw [if_neg (by omega)])
        · refine q_aload_n (pc' := 62) (dk_at dkX6_rest 37 rfl) rfl rfl ?_
          refine r_getf (pc' := 65) fl_RX6_53 (dk_at dkX6_rest 38 rfl) hM.obj rfl rfl ?_
          refine q_iload (pc' := 67) (dk_at dkX6_rest 39 rfl) rfl rfl ?_
          refine r_iald (pc' := 68) (dk_at dkX6_rest 40 rfl) hM.setFamily its (by omega) (by omega) (by decide) rfl ?_
          refine q_iconst (pc' := 69) (dk_at dkX6_rest 41 rfl) rfl ?_
          refine q_icmp_eq (tgt := 146) (pc' := 72) (dk_at dkX6_rest 42 rfl) rfl rfl (by omega) (by omega) (fun c69 => ?_) (fun c69 => ?_)
          · refine q_iload (pc' := 148) (dk_at dkX6_rest 79 rfl) rfl rfl ?_
            refine q_iconst (pc' := 149) (dk_at dkX6_rest 80 rfl) rfl ?_
            refine q_isub (pc' := 150) (dk_at dkX6_rest 81 rfl) rfl ?_
            rw [show ((its : Int) - 1) = ((its - 1 : Nat) : Int) by omega]
            refine q_iload (pc' := 152) (dk_at dkX6_rest 82 rfl) rfl rfl ?_
            refine q_iand (pc' := 153) (dk_at dkX6_rest 83 rfl) (by omega) (by omega) rfl ?_
            rw [show (((((its - 1 : Nat) : Int)).toNat &&& (((lfS S dn : Nat) : Int)).toNat : Nat) : Int) = (((its - 1) &&& (lfS S dn) : Nat) : Int) from nt_and (its - 1) (lfS S dn)]
            refine q_istore (pc' := 155) (L' := [some (vR m), some (vI (dn : Int)), some (vI fv), some (vI (t : Int)), some (vI x4), some (vI b), some (vI ((lfS S dn : Nat) : Int)), some (vI (((its - 1) &&& (lfS S dn) : Nat) : Int)), some (vI jx48), x9, x10]) (dk_at dkX6_rest 84 rfl) (by decide) rfl rfl ?_
            refine q_goto (tgt := 28) (dk_at dkX6_rest 85 rfl) rfl ?_
            have hn : ∀ s, s < 2 ^ S.cnt → alw S (-1) dn s = true → (its - 1 &&& lfS S dn) < s → s = its ∨ its < s := fun s hs ha hlt => by
              rcases Nat.lt_or_ge s its with q | q
              · have := sub_next (lfS S dn) its s hin (lfS_mk hs (alw_i ha).2.1) q
                omega
              · omega
            refine ih (its - 1 &&& lfS S dn) _ _ _ _ _ _ _ _ (by have := sub_lt (left := lfS S dn) (its := its) (by omega); omega) (sub_in _ _ hin) ?_ hM hF
            refine hri.skip (fun s hs ha hlt => (hn s hs ha hlt).resolve_left (fun e => ?_))
            rw [e] at ha
            have a1 := (alw_i ha).1
            have a2 := (okS_i a1).2
            first
              | omega
              | (have := (sg_pw its (by omega) (by omega)).mpr (okS_pw2 (by omega) a1); omega)
          · refine q_goto (tgt := 80) (dk_at dkX6_rest 43 rfl) rfl ?_
            refine q_aload_n (pc' := 81) (dk_at dkX6_rest 46 rfl) rfl rfl ?_
            refine q_iload (pc' := 83) (dk_at dkX6_rest 47 rfl) rfl rfl ?_
            refine q_iload_n (pc' := 84) (dk_at dkX6_rest 48 rfl) rfl rfl ?_
            refine q_iload_n (pc' := 85) (dk_at dkX6_rest 49 rfl) rfl rfl ?_
            have hok : okS S its = true := by first | exact okS_mk (by omega) (by omega) (by omega) | exact okS_pw hk hls.1 ((sg_pw its (by omega) (by omega)).mp (by omega))
            have hal : alw S (-1) dn its = true := alw_mk hok hls.2 (Or.inr (Or.inl rfl))
            refine r_cVV (pc' := 88) (As := [vI (its : Int), vI fv, vI (t : Int)]) (S := []) cv_RX6_233 (dk_at dkX6_rest 50 rfl) hM.obj rfl (k_M_takes (d := 5) (s := its) (t := t) (by omega) hR hk (by omega) hls.1 hSt hfv (by omega) (fun _ => (okS_i hok).2) (fun z => okS_pw2 z hok) hM) (by omega) (Nat.zero_le _) (Nat.zero_le _) rfl (Nat.le_of_ble_eq_true rfl) rfl (Nat.le_of_ble_eq_true rfl) rfl (fun hh10 hphh10 => ?_)
            obtain ⟨f2, t2, c2, hM, ⟨ef, et, ec⟩, hGf⟩ := hphh10
            have hF := hF.tr hGf (by omega)
            have h7 := sfT_le3 hk.v (show its ≠ 0 by omega) S.cnt hls.1
            have a1 := endS_le hk its fv (f := (t : Int)) (by omega)
            have a2 := swT_r hk.v its S.cnt
            have h8 := or_lt hdn hls.1
            refine q_aload_n (pc' := 89) (dk_at dkX6_rest 51 rfl) rfl rfl ?_
            refine q_iload_n (pc' := 90) (dk_at dkX6_rest 52 rfl) rfl rfl ?_
            refine q_iload (pc' := 92) (dk_at dkX6_rest 53 rfl) rfl rfl ?_
            refine q_ior (pc' := 93) (dk_at dkX6_rest 54 rfl) (by omega) (by omega) rfl ?_
            rw [show ((((dn : Int)).toNat ||| ((its : Int)).toNat : Nat) : Int) = ((dn ||| its : Nat) : Int) from nt_or dn its]
            refine q_aload_n (pc' := 94) (dk_at dkX6_rest 55 rfl) rfl rfl ?_
            refine r_getf (pc' := 97) fl_RX6_200 (dk_at dkX6_rest 56 rfl) hM.obj rfl rfl ?_
            refine q_aload_n (pc' := 98) (dk_at dkX6_rest 57 rfl) rfl rfl ?_
            refine r_getf (pc' := 101) fl_RX6_203 (dk_at dkX6_rest 58 rfl) hM.obj rfl rfl ?_
            refine r_cVI (pc' := 104) (As := [vI ((dn ||| its : Nat) : Int), vI (f2 : Int), vI (t2 : Int)]) (S := []) cv_RX6_236 (dk_at dkX6_rest 59 rfl) hM.obj rfl (k_M_leftOver (d := 5) (s := dn ||| its) (f := f2) (t := t2) (by omega) (by omega) (by omega) hM) (by omega) (Nat.zero_le _) (Nat.zero_le _) rfl (Nat.le_of_ble_eq_true rfl) rfl (Nat.le_of_ble_eq_true rfl) rfl (fun xx11 hh12 hphh12 => ?_)
            obtain ⟨qq13, ev⟩ := hphh12
            rw [qq13]
            obtain ⟨rc, rv, -, rw_⟩ := rest_at hk (w := if xx11 = 2000000000 then 2000000000 else jn S c2 xx11) hdn hD hls.1 hal (by omega) ef et ec ev
            obtain ⟨rw1, rw2⟩ := rw_ rfl
            refine q_istore (pc' := 106) (L' := [some (vR m), some (vI (dn : Int)), some (vI fv), some (vI (t : Int)), some (vI x4), some (vI b), some (vI ((lfS S dn : Nat) : Int)), some (vI (its : Int)), some (vI jx48), some (vI xx11), x10]) (dk_at dkX6_rest 60 rfl) (by decide) rfl rfl ?_
            refine q_join 128 [some (vR m), some (vI (dn : Int)), some (vI fv), some (vI (t : Int)), some (vI x4), some (vI b), some (vI ((lfS S dn : Nat) : Int)), some (vI (its : Int)), some (vI jx48), some (vI xx11), x10] [] (fun jx => jx = (if xx11 = 2000000000 then 2000000000 else jn S c2 xx11)) (fun jx128 e128 => ?_) (fun J128 => ?_)
            · refine q_istore (pc' := 130) (L' := [some (vR m), some (vI (dn : Int)), some (vI fv), some (vI (t : Int)), some (vI x4), some (vI b), some (vI ((lfS S dn : Nat) : Int)), some (vI (its : Int)), some (vI jx48), some (vI xx11), some (vI jx128)]) (dk_at dkX6_rest 71 rfl) (by decide) rfl rfl ?_
              rw [← e128] at rw1 rw2
              have hmr : -1000000 ≤ jx128 ∧ jx128 ≤ 2000000000 := by have := neuM_r S; have := rmT_le dn S.cnt; omega
              refine q_join 144 [some (vR m), some (vI (dn : Int)), some (vI fv), some (vI (t : Int)), some (vI x4), some (vI b), some (vI ((lfS S dn : Nat) : Int)), some (vI (its : Int)), some (vI jx48), some (vI xx11), some (vI jx128)] [] (fun jx => jx = min jx128 b) (fun jx144 e144 => ?_) (fun J144 => ?_)
              · refine q_istore (pc' := 146) (L' := [some (vR m), some (vI (dn : Int)), some (vI fv), some (vI (t : Int)), some (vI x4), some (vI jx144), some (vI ((lfS S dn : Nat) : Int)), some (vI (its : Int)), some (vI jx48), some (vI xx11), some (vI jx128)]) (dk_at dkX6_rest 78 rfl) (by decide) rfl rfl ?_
                refine q_iload (pc' := 148) (dk_at dkX6_rest 79 rfl) rfl rfl ?_
                refine q_iconst (pc' := 149) (dk_at dkX6_rest 80 rfl) rfl ?_
                refine q_isub (pc' := 150) (dk_at dkX6_rest 81 rfl) rfl ?_
                rw [show ((its : Int) - 1) = ((its - 1 : Nat) : Int) by omega]
                refine q_iload (pc' := 152) (dk_at dkX6_rest 82 rfl) rfl rfl ?_
                refine q_iand (pc' := 153) (dk_at dkX6_rest 83 rfl) (by omega) (by omega) rfl ?_
                rw [show (((((its - 1 : Nat) : Int)).toNat &&& (((lfS S dn : Nat) : Int)).toNat : Nat) : Int) = (((its - 1) &&& (lfS S dn) : Nat) : Int) from nt_and (its - 1) (lfS S dn)]
                refine q_istore (pc' := 155) (L' := [some (vR m), some (vI (dn : Int)), some (vI fv), some (vI (t : Int)), some (vI x4), some (vI jx144), some (vI ((lfS S dn : Nat) : Int)), some (vI (((its - 1) &&& (lfS S dn) : Nat) : Int)), some (vI jx48), some (vI xx11), some (vI jx128)]) (dk_at dkX6_rest 84 rfl) (by decide) rfl rfl ?_
                refine q_goto (tgt := 28) (dk_at dkX6_rest 85 rfl) rfl ?_
                have hn : ∀ s, s < 2 ^ S.cnt → alw S (-1) dn s = true → (its - 1 &&& lfS S dn) < s → s = its ∨ its < s := fun s hs ha hlt => by
                  rcases Nat.lt_or_ge s its with q | q
                  · have := sub_next (lfS S dn) its s hin (lfS_mk hs (alw_i ha).2.1) q
                    omega
                  · omega
                refine ih (its - 1 &&& lfS S dn) _ _ _ _ _ _ _ _ (by have := sub_lt (left := lfS S dn) (its := its) (by omega); omega) (sub_in _ _ hin) ?_ hM hF
                exact hri.take hk hdn hls.1 hal hn rw1 rw2 e144
              refine q_iload (pc' := 132) (dk_at dkX6_rest 72 rfl) rfl rfl ?_
              refine q_iload (pc' := 134) (dk_at dkX6_rest 73 rfl) rfl rfl ?_
              refine q_icmp_ge (tgt := 142) (pc' := 137) (dk_at dkX6_rest 74 rfl) rfl rfl (by omega) (by omega) (fun c134 => ?_) (fun c134 => ?_)
              · refine q_iload (pc' := 144) (dk_at dkX6_rest 77 rfl) rfl rfl ?_
                exact J144 _ (by omega)
              · refine q_iload (pc' := 139) (dk_at dkX6_rest 75 rfl) rfl rfl ?_
                refine q_goto (tgt := 144) (dk_at dkX6_rest 76 rfl) rfl ?_
                exact J144 _ (by omega)
            refine q_iload (pc' := 108) (dk_at dkX6_rest 61 rfl) rfl rfl ?_
            refine q_ldc (pc' := 110) (z := 2000000000) kc_RX6_65 (by decide +kernel) (dk_at dkX6_rest 62 rfl) rfl ?_
            refine q_icmp_ne (tgt := 118) (pc' := 113) (dk_at dkX6_rest 63 rfl) rfl rfl (by omega) (by omega) (fun c110 => ?_) (fun c110 => ?_)
            · refine q_aload_n (pc' := 119) (dk_at dkX6_rest 66 rfl) rfl rfl ?_
              refine q_aload_n (pc' := 120) (dk_at dkX6_rest 67 rfl) rfl rfl ?_
              refine r_getf (pc' := 123) fl_RX6_206 (dk_at dkX6_rest 68 rfl) hM.obj rfl rfl ?_
              refine q_iload (pc' := 125) (dk_at dkX6_rest 69 rfl) rfl rfl ?_
              refine r_cVI (pc' := 128) (As := [vI c2, vI xx11]) (S := []) cv_RX6_140 (dk_at dkX6_rest 70 rfl) hM.obj rfl (k_M_with (d := 5) (by omega) hR hk (by omega) (by omega) hM) (by omega) (Nat.zero_le _) (Nat.zero_le _) rfl (Nat.le_of_ble_eq_true rfl) rfl (Nat.le_of_ble_eq_true rfl) rfl (fun xx14 hh15 hphh15 => ?_)
              obtain ⟨qq16, rfl⟩ := hphh15
              rw [qq16]
              exact J128 _ (by first | rw [if_pos (by omega)] | rw [if_neg (by omega)])
            · refine q_ldc (pc' := 115) (z := 2000000000) kc_RX6_65 (by decide +kernel) (dk_at dkX6_rest 64 rfl) rfl ?_
              refine q_goto (tgt := 128) (dk_at dkX6_rest 65 rfl) rfl ?_
              exact J128 _ (by first | rw [if_pos (by omega)] | rw [if_neg (by omega)])
      refine q_iload (pc' := 35) (dk_at dkX6_rest 21 rfl) rfl rfl ?_
      refine q_iload (pc' := 37) (dk_at dkX6_rest 22 rfl) rfl rfl ?_
      refine q_iconst (pc' := 38) (dk_at dkX6_rest 23 rfl) rfl ?_
      refine q_isub (pc' := 39) (dk_at dkX6_rest 24 rfl) rfl ?_
      rw [show ((its : Int) - 1) = ((its - 1 : Nat) : Int) by omega]
      refine q_iand (pc' := 40) (dk_at dkX6_rest 25 rfl) (by omega) (by omega) rfl ?_
      rw [show ((((its : Int)).toNat &&& (((its - 1 : Nat) : Int)).toNat : Nat) : Int) = ((its &&& (its - 1) : Nat) : Int) from nt_and its (its - 1)]
      refine q_if_ne (tgt := 47) (pc' := 43) (dk_at dkX6_rest 26 rfl) rfl rfl (by omega) (fun c40 => ?_) (fun c40 => ?_)
      · refine q_iconst (pc' := 48) (dk_at dkX6_rest 29 rfl) rfl ?_
        exact J48 _ (Or.inr ⟨rfl, by omega⟩)
      · refine q_iconst (pc' := 44) (dk_at dkX6_rest 27 rfl) rfl ?_
        refine q_goto (tgt := 48) (dk_at dkX6_rest 28 rfl) rfl ?_
        exact J48 _ (Or.inl ⟨rfl, by omega⟩)

set_option maxHeartbeats 4000000 in
set_option maxRecDepth 100000 in
theorem k_M_rest {d n : Nat} {h : PH} {m : Nat} {A sd sq op ss es bo su se tx ba le fr un sF sR sT ad : Nat → Int} {sm th l0 bm tl nf ne nc : Int} {S : Shp} {dn t : Nat} {fv : Int} (hd : 6 ≤ d) (hR : MR A S) (hk : Sok S) (hSt : SetsM S sF sR sT) (hdn : dn < 2 ^ S.cnt) (hfv : -1 ≤ fv ∧ fv ≤ 3) (ht : t < 1200) (hD : DBs S (4 * (dn + 1)) le) (hM : isModel n h m A sd sm th sq op l0 ss es bo su se bm tx tl ba le fr un nf ne nc sF sR sT ad) : CtrI mX6_rest d [vR m, vI (dn : Int), vI fv, vI (t : Int)] n h (fun x h' => ∃ nf1 ne1 nc1 : Int, isModel n h' m A sd sm th sq op l0 ss es bo su se bm tx tl ba le fr un nf1 ne1 nc1 sF sR sT ad ∧ RI S dn fv (t : Int) 0 x ∧ Fr h h' m (m + 19)) := by
  have hF : Fr h h m (m + 19) := Fr.rf
  have hc8 := hk.c
  have hp8 := nt_pow_r hk.c
  refine q_beginI (L := [some (vR m), some (vI (dn : Int)), some (vI fv), some (vI (t : Int)), none, none, none, none, none, none, none]) rfl ?_
  refine q_iconst (pc' := 1) (dk_at dkX6_rest 0 rfl) rfl ?_
  refine q_aload_n (pc' := 2) (dk_at dkX6_rest 1 rfl) rfl rfl ?_
  refine r_getf (pc' := 5) fl_RX6_7 (dk_at dkX6_rest 2 rfl) hM.obj rfl rfl ?_
  refine q_iconst (pc' := 6) (dk_at dkX6_rest 3 rfl) rfl ?_
  refine r_iald (pc' := 7) (dk_at dkX6_rest 4 rfl) hM.all 0 (by omega) (by omega) (by decide) rfl ?_
  rw [hR.c]
  refine q_ishl (pc' := 8) (dk_at dkX6_rest 5 rfl) (by omega) (by omega) rfl ?_
  have bb1 := nt_pow_r (j := S.cnt) (by omega)
  rw [show ((1 : Int) * 2 ^ ((S.cnt : Int)).toNat) = ((2 ^ S.cnt : Nat) : Int) from nt_shl1 S.cnt]
  refine q_iconst (pc' := 9) (dk_at dkX6_rest 6 rfl) rfl ?_
  refine q_isub (pc' := 10) (dk_at dkX6_rest 7 rfl) rfl ?_
  rw [show (((2 ^ S.cnt : Nat) : Int) - 1) = ((2 ^ S.cnt - 1 : Nat) : Int) by omega]
  refine q_istore (pc' := 12) (L' := [some (vR m), some (vI (dn : Int)), some (vI fv), some (vI (t : Int)), some (vI ((2 ^ S.cnt - 1 : Nat) : Int)), none, none, none, none, none, none]) (dk_at dkX6_rest 8 rfl) (by decide) rfl rfl ?_
  refine q_ldc (pc' := 14) (z := 2000000000) kc_RX6_65 (by decide +kernel) (dk_at dkX6_rest 9 rfl) rfl ?_
  refine q_istore (pc' := 16) (L' := [some (vR m), some (vI (dn : Int)), some (vI fv), some (vI (t : Int)), some (vI ((2 ^ S.cnt - 1 : Nat) : Int)), some (vI 2000000000), none, none, none, none, none]) (dk_at dkX6_rest 10 rfl) (by decide) rfl rfl ?_
  refine q_iload (pc' := 18) (dk_at dkX6_rest 11 rfl) rfl rfl ?_
  refine q_iload_n (pc' := 19) (dk_at dkX6_rest 12 rfl) rfl rfl ?_
  refine q_iconst (pc' := 20) (dk_at dkX6_rest 13 rfl) rfl ?_
  refine q_inot (pc' := 21) (dk_at dkX6_rest 14 rfl) rfl ?_
  refine q_iandn (pc' := 22) (dk_at dkX6_rest 15 rfl) (by omega) (by omega) rfl ?_
  rw [show (((2 ^ S.cnt - 1 : Nat) : Int) - (((((2 ^ S.cnt - 1 : Nat) : Int)).toNat &&& ((dn : Int)).toNat : Nat) : Int)) = (((2 ^ S.cnt - 1) - ((2 ^ S.cnt - 1) &&& dn) : Nat) : Int) from nt_andn (2 ^ S.cnt - 1) dn]
  rw [show (((2 ^ S.cnt - 1) - ((2 ^ S.cnt - 1) &&& dn) : Nat) : Int) = ((lfS S dn : Nat) : Int) from rfl]
  refine q_istore (pc' := 24) (L' := [some (vR m), some (vI (dn : Int)), some (vI fv), some (vI (t : Int)), some (vI ((2 ^ S.cnt - 1 : Nat) : Int)), some (vI 2000000000), some (vI ((lfS S dn : Nat) : Int)), none, none, none, none]) (dk_at dkX6_rest 16 rfl) (by decide) rfl rfl ?_
  refine q_iload (pc' := 26) (dk_at dkX6_rest 17 rfl) rfl rfl ?_
  refine q_istore (pc' := 28) (L' := [some (vR m), some (vI (dn : Int)), some (vI fv), some (vI (t : Int)), some (vI ((2 ^ S.cnt - 1 : Nat) : Int)), some (vI 2000000000), some (vI ((lfS S dn : Nat) : Int)), some (vI ((lfS S dn : Nat) : Int)), none, none, none]) (dk_at dkX6_rest 18 rfl) (by decide) rfl rfl ?_
  exact l_rs (h := h) hd hR hk hSt hdn hfv ht hD hc8 hp8.2 (lfS S dn) (lfS S dn) _ _ _ _ _ none none none (Nat.le_refl _) (Nat.and_self _) (RI.start (fun s hs ha => by have := Nat.and_le_right (n := s) (m := lfS S dn); rw [lfS_mk hs (alw_i ha).2.1] at this; exact this)) hM hF
