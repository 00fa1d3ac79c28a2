/-! BatchMachine: rules, the best schedule kept -/
def rlP (S : Shp) (rule : Nat) (o e : Nat → Int) : PlS := (S.cnt, grB (fmG S (rlO S rule (-1) o)) S.cnt, rlO S rule (-1) o, grE (fmG S (rlO S rule (-1) o)) e S.cnt)
theorem lcS_r {S : Shp} (hk : Sok S) : -1000000000000 ≤ lcS S (-1) ∧ lcS S (-1) ≤ 1000000000000 := by
  unfold lcS
  by_cases h0 : S.cnt = 0
  · rw [if_pos h0]; omega
  · rw [if_neg h0]
    have hO : ∀ j : Nat, 0 ≤ (fun _ : Nat => (0 : Int)) j ∧ (fun _ : Nat => (0 : Int)) j ≤ 7 := fun j => by dsimp only; omega
    have hs := rlO_sq hk.c (rule := 0) (ah := -1) hO (Or.inl rfl)
    have h1 := sqC_ge (e := fun _ => 0) hk hs (rlO_fst hk.c hO (Or.inl rfl)) (by omega)
    have h2 := sqC_r (e := fun _ => 0) hk hs
    have h3 := fnS_ge hk (-1)
    omega
def BestP (S : Shp) (ts : Nat → Nat) (m : Nat) : Prop := (S.cnt = 0 ∧ m = 0) ∨ (0 < S.cnt ∧ ∃ l : List Nat, Gp S (-1) (lcS S (-1)) 0 (-1) 0 (neu S) l ∧ m = l.length ∧ ts = fun i => l.getD i 0)
theorem best_of {S : Shp} (hk : Sok S) {fc : Int} {fo : Nat → Int} (h : FoundR S (-1) (lcS S (-1) + 1) (lcS S (-1)) fc fo) : ∃ (ts : Nat → Nat) (m : Nat), m ≤ 8 ∧ fc = (m : Int) ∧ (∀ i, i < m → fo i = (ts i : Int)) ∧ (∀ i, i < m → ts i < 256) ∧ szN S.cnt ts m ≤ 8 ∧ BestP S ts m := by
  by_cases h0 : S.cnt = 0
  · exact ⟨fun _ => 0, 0, by omega, h.1 h0, fun i hi => by omega, fun i hi => by omega, Nat.zero_le _, Or.inl ⟨h0, rfl⟩⟩
  · have e : lcS S (-1) = fnS S (-1) := if_neg h0
    obtain ⟨l, g1, g2, g3⟩ := h.2 (by omega) rfl e.symm
    obtain ⟨a1, a2, a3⟩ := Gp_wr hk g1
    exact ⟨fun i => l.getD i 0, l.length, a1, g2, g3, a3, by rw [a2]; exact hk.c, Or.inr ⟨by omega, l, g1, rfl, rfl⟩⟩
theorem wrP_zero {S : Shp} {ts : Nat → Nat} {o e : Nat → Int} : wrP S ts 0 o e = (0, 0, o, e) := by
  unfold wrP
  dsimp only
  split
  · rfl
  · rfl
/-- the best plan is a plan -/
theorem best_ok {S : Shp} (hk : Sok S) {ts : Nat → Nat} {m : Nat} (h : BestP S ts m) {o e : Nat → Int} (hO : ∀ k, 0 ≤ o k ∧ o k ≤ 7) : PlOk S.cnt (wrP S ts m o e) ∧ (wrP S ts m o e).sz = S.cnt := by
  rcases h with ⟨h0, rfl⟩ | ⟨h0, l, g1, rfl, rfl⟩
  · rw [wrP_zero, h0]
    exact ⟨⟨Nat.zero_le _, Nat.le_refl _, hO, fun b hb => absurd hb (Nat.not_lt_zero _), rfl, fun k hk => absurd hk (Nat.not_lt_zero _), fun k k' hk => absurd hk (Nat.not_lt_zero _)⟩, rfl⟩
  · obtain ⟨a1, a2, a3⟩ := wr_cost hk g1 h0 hO (e := e)
    refine ⟨?_, a1⟩
    unfold PlOk
    rw [a1]
    exact a2
set_option maxHeartbeats 4000000 in
set_option maxRecDepth 100000 in
theorem k_BM_ruleCost {d n : Nat} {h : PH} {b : Nat} {S : Shp} {P : PlS} {kn bs : Int} {sv tl : Nat} {x : Nat → Snp} {tx : Nat → Int} {r0 : Int} (hd : 20 ≤ d) (hI : BMI n h b ((S, P, kn, bs), sv, x, tx, tl)) (hO : BOk ((S, P, kn, bs), sv, x, tx, tl)) (hi1 : IR r0) : CtrX mX5_ruleCost d [vR b, vI r0] n h (fun r h' => ∃ v, r = some (vJ v) ∧ (0 ≤ r0 ∧ r0 < 4) ∧ ∃ o0 e0, (∀ j, 0 ≤ o0 j ∧ o0 j ≤ 7) ∧ v = sqC S (rlO S r0.toNat (-1) o0) e0 ∧ BMI n h' b ((S, P, kn, bs), sv, x, tx, tl) ∧ Fr h h' b (b + 149)) (fun E h' => h' = h ∧ E = "java/lang/IllegalArgumentException" ∧ ¬ (0 ≤ r0 ∧ r0 < 4)) := by
  obtain ⟨hB, hSt, hZ, hR⟩ := hI
  have hB : isBM n h b (sv : Int) tx (tl : Int) := hB
  obtain ⟨hN, hQ, hK⟩ := hSt
  have hN : isState n h (b + 1) kn bs := hN
  have hQ : isShp n h (b + 2) S := hQ
  have hK : isPlS n h (b + 15) P := hK
  have hZ : SvI n h b x := hZ
  obtain ⟨hk, hsv, hks, htl, htx⟩ := hO
  have hk : SnOk (S, P, kn, bs) := hk
  have hsv : sv ≤ 4 := hsv
  have htl : tl ≤ 60 := htl
  have htx : ∀ i, 0 ≤ tx i ∧ tx i ≤ 127 := htx
  have hk1 : Sok S := hk.1
  have hc8 := hk1.c
  have hkp : Pok S.cnt P.od P.en P.bc P.sz := hk.2.1
  have hp8 : P.sz ≤ 8 := hkp.1
  have hpb : P.bc ≤ P.sz := hkp.2.1
  have hkb : Bst S kn bs := hk.2.2
  have hkn := hkb.1
  have hF : Fr h h b (b + 149) := Fr.rf
  refine q_beginX (L := [some (vR b), some (vI r0)]) rfl ?_
  refine q_iload_n (pc' := 1) (dk_at dkX5_ruleCost 0 rfl) rfl rfl ?_
  refine q_if_lt (tgt := 9) (pc' := 4) (dk_at dkX5_ruleCost 1 rfl) rfl rfl (by omega) (fun c1 => ?_) (fun c1 => ?_)
  · refine q_throw (cls := "java/lang/IllegalArgumentException") (text := "rule is out of range") th_IAE rfl rfl (by decide +kernel) (by omega) (Nat.le_of_ble_eq_true rfl) (dk_at dkX5_ruleCost 5 rfl) (dk_at dkX5_ruleCost 6 rfl) (dk_at dkX5_ruleCost 7 rfl) (dk_at dkX5_ruleCost 8 rfl) (dk_at dkX5_ruleCost 9 rfl) ?_
    exact ⟨rfl, rfl, by omega⟩
  · refine q_iload_n (pc' := 5) (dk_at dkX5_ruleCost 2 rfl) rfl rfl ?_
    refine q_iconst (pc' := 6) (dk_at dkX5_ruleCost 3 rfl) rfl ?_
    refine q_icmp_lt (tgt := 19) (pc' := 9) (dk_at dkX5_ruleCost 4 rfl) rfl rfl (by omega) (by omega) (fun c6 => ?_) (fun c6 => ?_)
    · obtain ⟨rl, rfl⟩ : ∃ z : Nat, r0 = (z : Int) := ⟨r0.toNat, by omega⟩
      obtain ⟨hD, hM, hU, hX⟩ := hR
      obtain ⟨BV0, JV0, tot0, fre0, hM⟩ := hM
      obtain ⟨sz0, bc0, o0, e0, hD, hO0⟩ := hD
      refine q_aload_n (pc' := 20) (dk_at dkX5_ruleCost 10 rfl) rfl rfl ?_
      refine q_aload_n (pc' := 21) (dk_at dkX5_ruleCost 11 rfl) rfl rfl ?_
      refine r_getf (pc' := 24) fl_RX5_10 (dk_at dkX5_ruleCost 12 rfl) hB.obj rfl rfl ?_
      refine r_getf (pc' := 27) fl_RX5_63 (dk_at dkX5_ruleCost 13 rfl) hN.obj rfl rfl ?_
      refine q_iload_n (pc' := 28) (dk_at dkX5_ruleCost 14 rfl) rfl rfl ?_
      refine q_iconst (pc' := 29) (dk_at dkX5_ruleCost 15 rfl) rfl ?_
      refine r_cVJ (pc' := 32) (As := [vR (b + 2), vI (rl : Int), vI (-1)]) (S := []) cv_RX5_148 (dk_at dkX5_ruleCost 16 rfl) hB.obj rfl (k_BM_costOfRule (d := 5) (q := b + 2) (rule := rl) (by omega) hk1 (by omega) (Or.inl rfl) (by omega) hO0 hB hQ hD hM) (by omega) (Nat.zero_le _) (Nat.zero_le _) rfl (Nat.le_of_ble_eq_true rfl) rfl (Nat.le_of_ble_eq_true rfl) rfl (fun xx1 hh2 hphh2 => ?_)
      obtain ⟨hx, hB, hQ, hD, ⟨BV1, JV1, tot1, fre1, hM⟩, hGf⟩ := hphh2
      have hN := isState.frm hN hGf (by omega)
      have hK := isPlan.frm hK hGf (by omega)
      have hZ := SvI.frm hZ hGf (by omega)
      have hU := ShA.frm hU hGf (by omega)
      have hX := SxP.frm hX hGf (by omega)
      have hF := hF.tr hGf (by omega)
      refine x_lret rfl (dk_at dkX5_ruleCost 17 rfl) ?_
      have hOn := (rlO_sq hk1.c (rule := rl) (ah := -1) hO0 (Or.inl rfl)).1
      exact ⟨_, rfl, by omega, o0, e0, hO0, hx, ⟨hB, ⟨hN, hQ, hK⟩, hZ, ⟨_, _, _, _, hD, hOn⟩, ⟨_, _, _, _, hM⟩, hU, hX⟩, hF⟩
    · refine q_throw (cls := "java/lang/IllegalArgumentException") (text := "rule is out of range") th_IAE rfl rfl (by decide +kernel) (by omega) (Nat.le_of_ble_eq_true rfl) (dk_at dkX5_ruleCost 5 rfl) (dk_at dkX5_ruleCost 6 rfl) (dk_at dkX5_ruleCost 7 rfl) (dk_at dkX5_ruleCost 8 rfl) (dk_at dkX5_ruleCost 9 rfl) ?_
      exact ⟨rfl, rfl, by omega⟩

set_option maxHeartbeats 4000000 in
set_option maxRecDepth 100000 in
theorem k_BM_keepRule {d n : Nat} {h : PH} {b : Nat} {S : Shp} {P : PlS} {kn bs : Int} {sv tl : Nat} {x : Nat → Snp} {tx : Nat → Int} {r0 : Int} (hd : 20 ≤ d) (hI : BMI n h b ((S, P, kn, bs), sv, x, tx, tl)) (hO : BOk ((S, P, kn, bs), sv, x, tx, tl)) (hi1 : IR r0) : CtrX mX5_keepRule d [vR b, vI r0] n h (fun r h' => ∃ v, r = some (vJ v) ∧ (0 ≤ r0 ∧ r0 < 4) ∧ ∃ o0 e0, (∀ j, 0 ≤ o0 j ∧ o0 j ≤ 7) ∧ v = sqC S (rlO S r0.toNat (-1) o0) e0 ∧ BMI n h' b ((S, rlP S r0.toNat o0 e0, kn, bs), pshN sv, (pshX sv x (S, P, kn, bs)), tx, tl) ∧ Fr h h' b (b + 149)) (fun E h' => h' = h ∧ E = "java/lang/IllegalArgumentException" ∧ ¬ (0 ≤ r0 ∧ r0 < 4)) := by
  obtain ⟨hB, hSt, hZ, hR⟩ := hI
  have hB : isBM n h b (sv : Int) tx (tl : Int) := hB
  obtain ⟨hN, hQ, hK⟩ := hSt
  have hN : isState n h (b + 1) kn bs := hN
  have hQ : isShp n h (b + 2) S := hQ
  have hK : isPlS n h (b + 15) P := hK
  have hZ : SvI n h b x := hZ
  obtain ⟨hk, hsv, hks, htl, htx⟩ := hO
  have hk : SnOk (S, P, kn, bs) := hk
  have hsv : sv ≤ 4 := hsv
  have htl : tl ≤ 60 := htl
  have htx : ∀ i, 0 ≤ tx i ∧ tx i ≤ 127 := htx
  have hk1 : Sok S := hk.1
  have hc8 := hk1.c
  have hkp : Pok S.cnt P.od P.en P.bc P.sz := hk.2.1
  have hp8 : P.sz ≤ 8 := hkp.1
  have hpb : P.bc ≤ P.sz := hkp.2.1
  have hkb : Bst S kn bs := hk.2.2
  have hkn := hkb.1
  have hF : Fr h h b (b + 149) := Fr.rf
  refine q_beginX (L := [some (vR b), some (vI r0), none, none]) rfl ?_
  refine q_iload_n (pc' := 1) (dk_at dkX5_keepRule 0 rfl) rfl rfl ?_
  refine q_if_lt (tgt := 9) (pc' := 4) (dk_at dkX5_keepRule 1 rfl) rfl rfl (by omega) (fun c1 => ?_) (fun c1 => ?_)
  · refine q_throw (cls := "java/lang/IllegalArgumentException") (text := "rule is out of range") th_IAE rfl rfl (by decide +kernel) (by omega) (Nat.le_of_ble_eq_true rfl) (dk_at dkX5_keepRule 5 rfl) (dk_at dkX5_keepRule 6 rfl) (dk_at dkX5_keepRule 7 rfl) (dk_at dkX5_keepRule 8 rfl) (dk_at dkX5_keepRule 9 rfl) ?_
    exact ⟨rfl, rfl, by omega⟩
  · refine q_iload_n (pc' := 5) (dk_at dkX5_keepRule 2 rfl) rfl rfl ?_
    refine q_iconst (pc' := 6) (dk_at dkX5_keepRule 3 rfl) rfl ?_
    refine q_icmp_lt (tgt := 19) (pc' := 9) (dk_at dkX5_keepRule 4 rfl) rfl rfl (by omega) (by omega) (fun c6 => ?_) (fun c6 => ?_)
    · obtain ⟨rl, rfl⟩ : ∃ z : Nat, r0 = (z : Int) := ⟨r0.toNat, by omega⟩
      refine q_aload_n (pc' := 20) (dk_at dkX5_keepRule 10 rfl) rfl rfl ?_
      refine r_cVV (pc' := 23) (As := []) (S := []) cv_RX5_75 (dk_at dkX5_keepRule 11 rfl) hB.obj rfl (k_BM_saveState (d := 4) (c := (S, P, kn, bs)) (by omega) hk hsv hB ⟨hN, hQ, hK⟩ hZ) (by omega) (Nat.zero_le _) (Nat.zero_le _) rfl (Nat.le_of_ble_eq_true rfl) rfl (Nat.le_of_ble_eq_true rfl) rfl (fun hh2 hphh2 => ?_)
      obtain ⟨hB, hSt, hZ, hGf⟩ := hphh2
      obtain ⟨hN, hQ, hK⟩ := hSt
      have hN : isState n hh2 (b + 1) kn bs := hN
      have hQ : isShp n hh2 (b + 2) S := hQ
      have hK : isPlS n hh2 (b + 15) P := hK
      have hR := BMR.frm hR hGf (by omega)
      have hF := hF.tr hGf (by omega)
      obtain ⟨hD, hM, hU, hX⟩ := hR
      obtain ⟨BV0, JV0, tot0, fre0, hM⟩ := hM
      obtain ⟨sz0, bc0, o0, e0, hD, hO0⟩ := hD
      refine q_aload_n (pc' := 24) (dk_at dkX5_keepRule 12 rfl) rfl rfl ?_
      refine q_aload_n (pc' := 25) (dk_at dkX5_keepRule 13 rfl) rfl rfl ?_
      refine r_getf (pc' := 28) fl_RX5_10 (dk_at dkX5_keepRule 14 rfl) hB.obj rfl rfl ?_
      refine r_getf (pc' := 31) fl_RX5_63 (dk_at dkX5_keepRule 15 rfl) hN.obj rfl rfl ?_
      refine q_iload_n (pc' := 32) (dk_at dkX5_keepRule 16 rfl) rfl rfl ?_
      refine q_iconst (pc' := 33) (dk_at dkX5_keepRule 17 rfl) rfl ?_
      refine r_cVJ (pc' := 36) (As := [vR (b + 2), vI (rl : Int), vI (-1)]) (S := []) cv_RX5_148 (dk_at dkX5_keepRule 18 rfl) hB.obj rfl (k_BM_costOfRule (d := 5) (q := b + 2) (rule := rl) (by omega) hk1 (by omega) (Or.inl rfl) (by omega) hO0 hB hQ hD hM) (by omega) (Nat.zero_le _) (Nat.zero_le _) rfl (Nat.le_of_ble_eq_true rfl) rfl (Nat.le_of_ble_eq_true rfl) rfl (fun xx3 hh4 hphh4 => ?_)
      obtain ⟨hx, hB, hQ, hD, ⟨BV1, JV1, tot1, fre1, hM⟩, hGf⟩ := hphh4
      have hN := isState.frm hN hGf (by omega)
      have hK := isPlan.frm hK hGf (by omega)
      have hZ := SvI.frm hZ hGf (by omega)
      have hU := ShA.frm hU hGf (by omega)
      have hX := SxP.frm hX hGf (by omega)
      have hF := hF.tr hGf (by omega)
      refine q_lstore_n (pc' := 37) (L' := [some (vR b), some (vI (rl : Int)), some (vJ xx3), none]) (dk_at dkX5_keepRule 19 rfl) (by decide) rfl rfl ?_
      refine q_aload_n (pc' := 38) (dk_at dkX5_keepRule 20 rfl) rfl rfl ?_
      refine r_getf (pc' := 41) fl_RX5_10 (dk_at dkX5_keepRule 21 rfl) hB.obj rfl rfl ?_
      refine r_getf (pc' := 44) fl_RX5_99 (dk_at dkX5_keepRule 22 rfl) hN.obj rfl rfl ?_
      refine q_aload_n (pc' := 45) (dk_at dkX5_keepRule 23 rfl) rfl rfl ?_
      refine r_getf (pc' := 48) fl_RX5_27 (dk_at dkX5_keepRule 24 rfl) hB.obj rfl rfl ?_
      refine r_cVV (pc' := 51) (As := [vR (b + 88)]) (S := []) cv_RX5_139 (dk_at dkX5_keepRule 25 rfl) hK.obj rfl (k_Plan_takeFrom (d := 1) (by omega) hK hD (by omega)) (by omega) (Nat.zero_le _) (Nat.zero_le _) rfl (Nat.le_of_ble_eq_true rfl) rfl (Nat.le_of_ble_eq_true rfl) rfl (fun hh6 hphh6 => ?_)
      obtain ⟨hK, hGf⟩ := hphh6
      have hB := isBM.frm hB hGf (by omega)
      have hN := isState.frm hN hGf (by omega)
      have hQ := isShop.frm hQ hGf (by omega)
      have hZ := SvI.frm hZ hGf (by omega)
      have hD := isPlan.frm hD hGf (by omega)
      have hU := ShA.frm hU hGf (by omega)
      have hX := SxP.frm hX hGf (by omega)
      have hM := isTiming.frm hM hGf (by omega)
      have hF := hF.tr hGf (by omega)
      refine q_lload_n (pc' := 52) (dk_at dkX5_keepRule 26 rfl) rfl rfl ?_
      refine x_lret rfl (dk_at dkX5_keepRule 27 rfl) ?_
      have hOn := (rlO_sq hk1.c (rule := rl) (ah := -1) hO0 (Or.inl rfl)).1
      exact ⟨_, rfl, by omega, o0, e0, hO0, hx, ⟨hB, ⟨hN, hQ, hK⟩, hZ, ⟨_, _, _, _, hD, hOn⟩, ⟨_, _, _, _, hM⟩, hU, hX⟩, hF⟩
    · refine q_throw (cls := "java/lang/IllegalArgumentException") (text := "rule is out of range") th_IAE rfl rfl (by decide +kernel) (by omega) (Nat.le_of_ble_eq_true rfl) (dk_at dkX5_keepRule 5 rfl) (dk_at dkX5_keepRule 6 rfl) (dk_at dkX5_keepRule 7 rfl) (dk_at dkX5_keepRule 8 rfl) (dk_at dkX5_keepRule 9 rfl) ?_
      exact ⟨rfl, rfl, by omega⟩

set_option maxHeartbeats 4000000 in
set_option maxRecDepth 100000 in
theorem k_BM_keepBest {d n : Nat} {h : PH} {b : Nat} {S : Shp} {P : PlS} {kn bs : Int} {sv tl : Nat} {x : Nat → Snp} {tx : Nat → Int}  (hd : 20 ≤ d) (hI : BMI n h b ((S, P, kn, bs), sv, x, tx, tl)) (hO : BOk ((S, P, kn, bs), sv, x, tx, tl))  : CtrJ mX5_keepBest d [vR b] n h (fun v h' => v = lcS S (-1) ∧ ∃ ts m kn' bs', Bst S kn' bs' ∧ BestP S ts m ∧ BMI n h' b ((S, wrP S ts m P.od P.en, kn', bs'), pshN sv, (pshX sv x (S, P, kn', bs')), tx, tl) ∧ Fr h h' b (b + 149)) := by
  obtain ⟨hB, hSt, hZ, hR⟩ := hI
  have hB : isBM n h b (sv : Int) tx (tl : Int) := hB
  obtain ⟨hN, hQ, hK⟩ := hSt
  have hN : isState n h (b + 1) kn bs := hN
  have hQ : isShp n h (b + 2) S := hQ
  have hK : isPlS n h (b + 15) P := hK
  have hZ : SvI n h b x := hZ
  obtain ⟨hk, hsv, hks, htl, htx⟩ := hO
  have hk : SnOk (S, P, kn, bs) := hk
  have hsv : sv ≤ 4 := hsv
  have htl : tl ≤ 60 := htl
  have htx : ∀ i, 0 ≤ tx i ∧ tx i ≤ 127 := htx
  have hk1 : Sok S := hk.1
  have hc8 := hk1.c
  have hkp : Pok S.cnt P.od P.en P.bc P.sz := hk.2.1
  have hp8 : P.sz ≤ 8 := hkp.1
  have hpb : P.bc ≤ P.sz := hkp.2.1
  have hkb : Bst S kn bs := hk.2.2
  have hkn := hkb.1
  have hF : Fr h h b (b + 149) := Fr.rf
  refine q_beginJ (L := [some (vR b), none, none]) rfl ?_
  obtain ⟨hD, hM, hU, hX⟩ := hR
  refine q_aload_n (pc' := 1) (dk_at dkX5_keepBest 0 rfl) rfl rfl ?_
  refine r_cVJ (pc' := 4) (As := []) (S := []) cv_RX5_152 (dk_at dkX5_keepBest 1 rfl) hB.obj rfl (k_BM_presentBest (d := 14) (by omega) hk1 hkb hB hQ hN hD hM hX) (by omega) (Nat.zero_le _) (Nat.zero_le _) rfl (Nat.le_of_ble_eq_true rfl) rfl (Nat.le_of_ble_eq_true rfl) rfl (fun xx1 hh2 hphh2 => ?_)
  obtain ⟨hx, hB, hQ, ⟨kn1, bs1, hN, hkb1⟩, hD, hM, hX, hW⟩ := hphh2
  obtain ⟨hm1, hm2, hW1, hW2, hW3⟩ := hW.split
  have hK := isPlan.frm hK hW1 (by omega)
  have hZ := SvI.frm hZ hW1 (by omega)
  have hU := ShA.frm hU hW1 (by omega)
  have hF := hF.tr hW1 (by omega)
  have hK := isPlan.frm hK hW2 (by omega)
  have hZ := SvI.frm hZ hW2 (by omega)
  have hU := ShA.frm hU hW2 (by omega)
  have hF := hF.tr hW2 (by omega)
  have hK := isPlan.frm hK hW3 (by omega)
  have hZ := SvI.frm hZ hW3 (by omega)
  have hU := ShA.frm hU hW3 (by omega)
  have hF := hF.tr hW3 (by omega)
  have hkn1 := hkb1.1
  subst hx
  have hlr := lcS_r hk1
  refine q_lstore_n (pc' := 5) (L' := [some (vR b), some (vJ (lcS S (-1))), none]) (dk_at dkX5_keepBest 2 rfl) (by decide) rfl rfl ?_
  refine q_aload_n (pc' := 6) (dk_at dkX5_keepBest 3 rfl) rfl rfl ?_
  refine r_cVV (pc' := 9) (As := []) (S := []) cv_RX5_75 (dk_at dkX5_keepBest 4 rfl) hB.obj rfl (k_BM_saveState (d := 4) (c := (S, P, kn1, bs1)) (by omega) ⟨hk1, hkp, hkb1⟩ hsv hB ⟨hN, hQ, hK⟩ hZ) (by omega) (Nat.zero_le _) (Nat.zero_le _) rfl (Nat.le_of_ble_eq_true rfl) rfl (Nat.le_of_ble_eq_true rfl) rfl (fun hh4 hphh4 => ?_)
  obtain ⟨hB, hSt, hZ, hGf⟩ := hphh4
  obtain ⟨hN, hQ, hK⟩ := hSt
  have hN : isState n hh4 (b + 1) kn1 bs1 := hN
  have hQ : isShp n hh4 (b + 2) S := hQ
  have hK : isPlS n hh4 (b + 15) P := hK
  have hD := DrP.frm hD hGf (by omega)
  have hU := ShA.frm hU hGf (by omega)
  have hX := SxP.frm hX hGf (by omega)
  have hM := TmP.frm hM hGf (by omega)
  have hF := hF.tr hGf (by omega)
  obtain ⟨S0, fc0, fo0, hX0⟩ := hX
  obtain ⟨al, fi0, bs0, fl0, sc0, st0, fa0, re0, wo0, lg0, rk0, ch0, sC0, sT0, sX0, G0, hX, -⟩ := id hX0
  refine q_aload_n (pc' := 10) (dk_at dkX5_keepBest 5 rfl) rfl rfl ?_
  refine r_getf (pc' := 13) fl_RX5_48 (dk_at dkX5_keepBest 6 rfl) hB.obj rfl rfl ?_
  refine q_aload_n (pc' := 14) (dk_at dkX5_keepBest 7 rfl) rfl rfl ?_
  refine r_getf (pc' := 17) fl_RX5_10 (dk_at dkX5_keepBest 8 rfl) hB.obj rfl rfl ?_
  refine r_getf (pc' := 20) fl_RX5_63 (dk_at dkX5_keepBest 9 rfl) hN.obj rfl rfl ?_
  refine q_iconst (pc' := 21) (dk_at dkX5_keepBest 10 rfl) rfl ?_
  refine q_lload_n (pc' := 22) (dk_at dkX5_keepBest 11 rfl) rfl rfl ?_
  refine q_lconst1 (pc' := 23) (dk_at dkX5_keepBest 12 rfl) rfl ?_
  refine q_ladd (pc' := 24) (dk_at dkX5_keepBest 13 rfl) rfl ?_
  refine q_lload_n (pc' := 25) (dk_at dkX5_keepBest 14 rfl) rfl rfl ?_
  refine r_cVJ (pc' := 28) (As := [vR (b + 2), vI (-1), vJ ((lcS S (-1)) + 1), vJ (lcS S (-1))]) (S := []) cv_RX5_156 (dk_at dkX5_keepBest 15 rfl) hX.obj rfl (k_Search_run (d := 12) (by omega) hk1 (by omega) (by omega) (by unfold INF; omega) (by unfold INF; omega) (fun h0 => by unfold lcS; rw [if_neg (by omega)]; exact Int.le_refl _) hX0 hQ) (by omega) (Nat.zero_le _) (Nat.zero_le _) rfl (Nat.le_of_ble_eq_true rfl) rfl (Nat.le_of_ble_eq_true rfl) rfl (fun xx5 hh6 hphh6 => ?_)
  obtain ⟨hx, fc1, fo1, hX1, hfd, hGf⟩ := hphh6
  have hB := isBM.frm hB hGf (by omega)
  have hN := isState.frm hN hGf (by omega)
  have hQ := isShop.frm hQ hGf (by omega)
  have hK := isPlan.frm hK hGf (by omega)
  have hZ := SvI.frm hZ hGf (by omega)
  have hD := DrP.frm hD hGf (by omega)
  have hU := ShA.frm hU hGf (by omega)
  have hM := TmP.frm hM hGf (by omega)
  have hF := hF.tr hGf (by omega)
  obtain ⟨ts, m, q1, q2, q3, q4, q5, q6⟩ := best_of hk1 hfd
  obtain ⟨al1, fi1, bs2, fl1, sc1, st1, fa1, re1, wo1, lg1, rk1, ch1, sC1, sT1, sX1, G1, hX, -⟩ := id hX1
  refine q_pop2 (pc' := 29) (dk_at dkX5_keepBest 16 rfl) rfl ?_
  refine q_aload_n (pc' := 30) (dk_at dkX5_keepBest 17 rfl) rfl rfl ?_
  refine r_getf (pc' := 33) fl_RX5_48 (dk_at dkX5_keepBest 18 rfl) hB.obj rfl rfl ?_
  refine q_aload_n (pc' := 34) (dk_at dkX5_keepBest 19 rfl) rfl rfl ?_
  refine r_getf (pc' := 37) fl_RX5_10 (dk_at dkX5_keepBest 20 rfl) hB.obj rfl rfl ?_
  refine r_getf (pc' := 40) fl_RX5_99 (dk_at dkX5_keepBest 21 rfl) hN.obj rfl rfl ?_
  refine r_cVV (pc' := 43) (As := [vR (b + 15)]) (S := []) cv_RX5_160 (dk_at dkX5_keepBest 22 rfl) hX.obj rfl (k_Search_writePlan (d := 2) (by omega) hk1 (by omega) q1 hkp.2.2.1 q2 q3 q4 q5 hX1 hK) (by omega) (Nat.zero_le _) (Nat.zero_le _) rfl (Nat.le_of_ble_eq_true rfl) rfl (Nat.le_of_ble_eq_true rfl) rfl (fun hh8 hphh8 => ?_)
  obtain ⟨hX2, hK, hGf⟩ := hphh8
  have hB := isBM.frm hB hGf (by omega)
  have hN := isState.frm hN hGf (by omega)
  have hQ := isShop.frm hQ hGf (by omega)
  have hZ := SvI.frm hZ hGf (by omega)
  have hD := DrP.frm hD hGf (by omega)
  have hU := ShA.frm hU hGf (by omega)
  have hM := TmP.frm hM hGf (by omega)
  have hF := hF.tr hGf (by omega)
  refine q_lload_n (pc' := 44) (dk_at dkX5_keepBest 23 rfl) rfl rfl ?_
  refine r_lret rfl (dk_at dkX5_keepBest 24 rfl) ?_
  exact ⟨rfl, ts, m, kn1, bs1, hkb1, q6, ⟨hB, ⟨hN, hQ, hK⟩, hZ, hD, hM, hU, ⟨_, _, _, hX2⟩⟩, hF⟩
