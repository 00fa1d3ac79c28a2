/-! BatchMachineModel: best costs -/
set_option maxHeartbeats 4000000 in
set_option maxRecDepth 100000 in
theorem k_M_bestCost {d n : Nat} {h : PH} {m : Nat} {S : Shp} {P : PlS} {kn bs : Int} {sv tl : Nat} {x : Nat → Snp} {tx : Nat → Int} {th : Int}  (hd : 30 ≤ d) (hI : MOI n h m th ((S, P, kn, bs), sv, x, tx, tl)) (hO : BOk ((S, P, kn, bs), sv, x, tx, tl))  : CtrJ mX6_bestCost d [vR m] n h (fun v h' => v = lcS S (-1) ∧ MOI n h' m 0 ((S, P, kn, bs), sv, x, tx, tl) ∧ Fr h h' m (m + 19)) := by
  obtain ⟨A, sd, sq, op, ss, es, bo, su, se, tx1, ba, le, fr, un, sF, sR, sT, ad, l0, bm, nf, ne, nc, hM, ⟨hR, hP⟩, hSv, hTx, hL⟩ := hI
  have hM : isModel n h m A sd (sv : Int) th sq op l0 ss es bo su se bm tx1 (tl : Int) ba le fr un nf ne nc sF sR sT ad := hM
  have hR : MR A S := hR
  have hP : MP A P := hP
  have hSv : MSv sd sv x := hSv
  have hTx : ∀ i, i < tl → tx1 i = tx i := hTx
  obtain ⟨hko, hsv, hks, htl, htx⟩ := hO
  have hko : SnOk (S, P, kn, bs) := hko
  have hsv : sv ≤ 4 := hsv
  have hks : ∀ i, i < sv → SnOk (x i) := hks
  have htl : tl ≤ 60 := htl
  have htx : ∀ i, 0 ≤ tx i ∧ tx i ≤ 127 := htx
  have hk : Sok S := hko.1
  have hc8 := hk.c
  have hkp : Pok S.cnt P.od P.en P.bc P.sz := hko.2.1
  have hp8 : P.sz ≤ 8 := hkp.1
  have hpb : P.bc ≤ P.sz := hkp.2.1
  have hA0 := hR.c
  have hF : Fr h h m (m + 19) := Fr.rf
  refine q_beginJ (L := [some (vR m)]) rfl ?_
  refine q_aload_n (pc' := 1) (dk_at dkX6_bestCost 0 rfl) rfl rfl ?_
  refine q_iconst (pc' := 2) (dk_at dkX6_bestCost 1 rfl) rfl ?_
  refine r_putf (pc' := 5) fp_RX6_66 (dk_at dkX6_bestCost 2 rfl) hM.obj (Nat.le_of_ble_eq_true rfl) (PT_int _) rfl (fun hh1 ehh1 => ?_)
  have hM := hM.w_obj ehh1
  have hF := hF.put ehh1 (by omega)
  refine q_aload_n (pc' := 6) (dk_at dkX6_bestCost 3 rfl) rfl rfl ?_
  refine r_cVI (pc' := 9) (As := []) (S := []) cv_RX6_250 (dk_at dkX6_bestCost 4 rfl) hM.obj rfl (k_M_best (d := 20) (S := S) (by omega) hR hk hL hM) (by omega) (Nat.zero_le _) (Nat.zero_le _) rfl (Nat.le_of_ble_eq_true rfl) rfl (Nat.le_of_ble_eq_true rfl) rfl (fun xx2 hh3 hphh3 => ?_)
  obtain ⟨ex1, exr, le1, fr1, un1, sF1, sR1, sT1, nf1, ne1, nc1, hM, hL, hGf⟩ := hphh3
  have hF := hF.tr hGf (by omega)
  refine q_i2l (pc' := 10) (dk_at dkX6_bestCost 5 rfl) (by omega) rfl ?_
  refine r_lret rfl (dk_at dkX6_bestCost 6 rfl) ?_
  exact ⟨ex1, ⟨_, _, _, _, _, _, _, _, _, _, _, _, _, _, _, _, _, _, _, _, _, _, _, hM, ⟨hR, hP⟩, hSv, hTx, hL⟩, hF⟩

set_option maxHeartbeats 4000000 in
set_option maxRecDepth 100000 in
theorem k_M_bestWithFirst {d n : Nat} {h : PH} {m : Nat} {S : Shp} {P : PlS} {kn bs : Int} {sv tl : Nat} {x : Nat → Snp} {tx : Nat → Int} {th : Int} {j : Int} (hd : 30 ≤ d) (hI : MOI n h m th ((S, P, kn, bs), sv, x, tx, tl)) (hO : BOk ((S, P, kn, bs), sv, x, tx, tl)) (hi1 : IR j) : CtrJ mX6_bestWithFirst d [vR m, vI j] n h (fun v h' => (jOk S j ∧ v = lcS S j ∧ MOI n h' m 0 ((S, P, kn, bs), sv, x, tx, tl) ∧ Fr h h' m (m + 19)) ∨ (¬ jOk S j ∧ MOI n h' m 1 ((S, P, kn, bs), sv, x, tx, tl) ∧ Fr h h' m (m + 19))) := by
  obtain ⟨A, sd, sq, op, ss, es, bo, su, se, tx1, ba, le, fr, un, sF, sR, sT, ad, l0, bm, nf, ne, nc, hM, ⟨hR, hP⟩, hSv, hTx, hL⟩ := hI
  have hM : isModel n h m A sd (sv : Int) th sq op l0 ss es bo su se bm tx1 (tl : Int) ba le fr un nf ne nc sF sR sT ad := hM
  have hR : MR A S := hR
  have hP : MP A P := hP
  have hSv : MSv sd sv x := hSv
  have hTx : ∀ i, i < tl → tx1 i = tx i := hTx
  obtain ⟨hko, hsv, hks, htl, htx⟩ := hO
  have hko : SnOk (S, P, kn, bs) := hko
  have hsv : sv ≤ 4 := hsv
  have hks : ∀ i, i < sv → SnOk (x i) := hks
  have htl : tl ≤ 60 := htl
  have htx : ∀ i, 0 ≤ tx i ∧ tx i ≤ 127 := htx
  have hk : Sok S := hko.1
  have hc8 := hk.c
  have hkp : Pok S.cnt P.od P.en P.bc P.sz := hko.2.1
  have hp8 : P.sz ≤ 8 := hkp.1
  have hpb : P.bc ≤ P.sz := hkp.2.1
  have hA0 := hR.c
  have hF : Fr h h m (m + 19) := Fr.rf
  refine q_beginJ (L := [some (vR m), some (vI j)]) rfl ?_
  refine q_aload_n (pc' := 1) (dk_at dkX6_bestWithFirst 0 rfl) rfl rfl ?_
  refine q_aload_n (pc' := 2) (dk_at dkX6_bestWithFirst 1 rfl) rfl rfl ?_
  refine q_iload_n (pc' := 3) (dk_at dkX6_bestWithFirst 2 rfl) rfl rfl ?_
  refine r_cVI (pc' := 6) (As := [vI j]) (S := [vR m]) cv_RX6_98 (dk_at dkX6_bestWithFirst 3 rfl) hM.obj rfl (k_M_isJob (d := 1) (by omega) hR hc8 (by omega) hM) (by omega) (Nat.zero_le _) (Nat.zero_le _) rfl (Nat.le_of_ble_eq_true rfl) rfl (Nat.le_of_ble_eq_true rfl) rfl (fun xx1 hh2 hphh2 => ?_)
  obtain ⟨qq3, y3⟩ := hphh2
  rw [qq3]
  have yr3 := y3.r
  refine q_iconst (pc' := 7) (dk_at dkX6_bestWithFirst 4 rfl) rfl ?_
  refine r_cVI (pc' := 10) (As := [vI xx1, vI 1]) (S := []) cv_RX6_91 (dk_at dkX6_bestWithFirst 5 rfl) hM.obj rfl (k_M_goes (d := 0) (by omega) (by omega) hM) (by omega) (Nat.zero_le _) (Nat.zero_le _) rfl (Nat.le_of_ble_eq_true rfl) rfl (Nat.le_of_ble_eq_true rfl) rfl (fun xx4 hh5 hphh5 => ?_)
  obtain ⟨y7, hM, hGf⟩ := hphh5
  have hF := hF.tr hGf (by omega)
  have yr7 := y7.r
  refine q_if_eq (tgt := 23) (pc' := 13) (dk_at dkX6_bestWithFirst 6 rfl) rfl rfl (by omega) (fun c10 => ?_) (fun c10 => ?_)
  · refine q_lconst0 (pc' := 24) (dk_at dkX6_bestWithFirst 13 rfl) rfl ?_
    refine r_lret rfl (dk_at dkX6_bestWithFirst 14 rfl) ?_
    rw [if_pos (by have := y7.f (by omega); omega)] at hM
    exact Or.inr ⟨by have := y7.f (by omega); exact y3.f (by have := y3.r; omega), ⟨_, _, _, _, _, _, _, _, _, _, _, _, _, _, _, _, _, _, _, _, _, _, _, hM, ⟨hR, hP⟩, hSv, hTx, hL⟩, hF⟩
  · have yy := y7.t (by omega)
    rw [if_neg (by omega), if_neg (by omega)] at hM
    have yw := y3.t (by omega)
    have yw : 0 ≤ j ∧ j < (S.cnt : Int) := yw
    refine q_aload_n (pc' := 14) (dk_at dkX6_bestWithFirst 7 rfl) rfl rfl ?_
    refine q_iconst (pc' := 15) (dk_at dkX6_bestWithFirst 8 rfl) rfl ?_
    refine q_iload_n (pc' := 16) (dk_at dkX6_bestWithFirst 9 rfl) rfl rfl ?_
    refine r_cVI (pc' := 19) (As := [vI 0, vI j]) (S := []) cv_RX6_230 (dk_at dkX6_bestWithFirst 10 rfl) hM.obj rfl (k_M_searched (d := 20) (S := S) (wo := 0) (f1 := j) (by omega) hR hk Nat.one_le_two_pow (Or.inr yw) (Or.inr ⟨rfl, rfl⟩) hL hM) (by omega) (Nat.zero_le _) (Nat.zero_le _) rfl (Nat.le_of_ble_eq_true rfl) rfl (Nat.le_of_ble_eq_true rfl) rfl (fun xx6 hh7 hphh7 => ?_)
    obtain ⟨ex1, le1, fr1, un1, sF1, sR1, sT1, nf1, ne1, nc1, hM, hL, hGf⟩ := hphh7
    have hF := hF.tr hGf (by omega)
    have exr := sr_r hk (Or.inr yw) Nat.one_le_two_pow ex1
    refine q_i2l (pc' := 20) (dk_at dkX6_bestWithFirst 11 rfl) (by omega) rfl ?_
    refine q_goto (tgt := 24) (dk_at dkX6_bestWithFirst 12 rfl) rfl ?_
    refine r_lret rfl (dk_at dkX6_bestWithFirst 14 rfl) ?_
    rw [lc_fn hk] at ex1
    exact Or.inl ⟨yw, ex1, ⟨_, _, _, _, _, _, _, _, _, _, _, _, _, _, _, _, _, _, _, _, _, _, _, hM, ⟨hR, hP⟩, hSv, hTx, hL⟩, hF⟩

set_option maxHeartbeats 4000000 in
set_option maxRecDepth 100000 in
theorem k_M_bestWithout {d n : Nat} {h : PH} {m : Nat} {S : Shp} {P : PlS} {kn bs : Int} {sv tl : Nat} {x : Nat → Snp} {tx : Nat → Int} {th : Int} {j : Int} (hd : 30 ≤ d) (hI : MOI n h m th ((S, P, kn, bs), sv, x, tx, tl)) (hO : BOk ((S, P, kn, bs), sv, x, tx, tl)) (hi1 : IR j) : CtrJ mX6_bestWithout d [vR m, vI j] n h (fun v h' => (jOk S j ∧ v = lcS (S.drop j.toNat) (-1) ∧ MOI n h' m 0 ((S, P, kn, bs), sv, x, tx, tl) ∧ Fr h h' m (m + 19)) ∨ (¬ jOk S j ∧ MOI n h' m 1 ((S, P, kn, bs), sv, x, tx, tl) ∧ Fr h h' m (m + 19))) := by
  obtain ⟨A, sd, sq, op, ss, es, bo, su, se, tx1, ba, le, fr, un, sF, sR, sT, ad, l0, bm, nf, ne, nc, hM, ⟨hR, hP⟩, hSv, hTx, hL⟩ := hI
  have hM : isModel n h m A sd (sv : Int) th sq op l0 ss es bo su se bm tx1 (tl : Int) ba le fr un nf ne nc sF sR sT ad := hM
  have hR : MR A S := hR
  have hP : MP A P := hP
  have hSv : MSv sd sv x := hSv
  have hTx : ∀ i, i < tl → tx1 i = tx i := hTx
  obtain ⟨hko, hsv, hks, htl, htx⟩ := hO
  have hko : SnOk (S, P, kn, bs) := hko
  have hsv : sv ≤ 4 := hsv
  have hks : ∀ i, i < sv → SnOk (x i) := hks
  have htl : tl ≤ 60 := htl
  have htx : ∀ i, 0 ≤ tx i ∧ tx i ≤ 127 := htx
  have hk : Sok S := hko.1
  have hc8 := hk.c
  have hkp : Pok S.cnt P.od P.en P.bc P.sz := hko.2.1
  have hp8 : P.sz ≤ 8 := hkp.1
  have hpb : P.bc ≤ P.sz := hkp.2.1
  have hA0 := hR.c
  have hF : Fr h h m (m + 19) := Fr.rf
  refine q_beginJ (L := [some (vR m), some (vI j)]) rfl ?_
  refine q_aload_n (pc' := 1) (dk_at dkX6_bestWithout 0 rfl) rfl rfl ?_
  refine q_aload_n (pc' := 2) (dk_at dkX6_bestWithout 1 rfl) rfl rfl ?_
  refine q_iload_n (pc' := 3) (dk_at dkX6_bestWithout 2 rfl) rfl rfl ?_
  refine r_cVI (pc' := 6) (As := [vI j]) (S := [vR m]) cv_RX6_98 (dk_at dkX6_bestWithout 3 rfl) hM.obj rfl (k_M_isJob (d := 1) (by omega) hR hc8 (by omega) hM) (by omega) (Nat.zero_le _) (Nat.zero_le _) rfl (Nat.le_of_ble_eq_true rfl) rfl (Nat.le_of_ble_eq_true rfl) rfl (fun xx1 hh2 hphh2 => ?_)
  obtain ⟨qq3, y3⟩ := hphh2
  rw [qq3]
  have yr3 := y3.r
  refine q_iconst (pc' := 7) (dk_at dkX6_bestWithout 4 rfl) rfl ?_
  refine r_cVI (pc' := 10) (As := [vI xx1, vI 1]) (S := []) cv_RX6_91 (dk_at dkX6_bestWithout 5 rfl) hM.obj rfl (k_M_goes (d := 0) (by omega) (by omega) hM) (by omega) (Nat.zero_le _) (Nat.zero_le _) rfl (Nat.le_of_ble_eq_true rfl) rfl (Nat.le_of_ble_eq_true rfl) rfl (fun xx4 hh5 hphh5 => ?_)
  obtain ⟨y7, hM, hGf⟩ := hphh5
  have hF := hF.tr hGf (by omega)
  have yr7 := y7.r
  refine q_if_eq (tgt := 25) (pc' := 13) (dk_at dkX6_bestWithout 6 rfl) rfl rfl (by omega) (fun c10 => ?_) (fun c10 => ?_)
  · refine q_lconst0 (pc' := 26) (dk_at dkX6_bestWithout 15 rfl) rfl ?_
    refine r_lret rfl (dk_at dkX6_bestWithout 16 rfl) ?_
    rw [if_pos (by have := y7.f (by omega); omega)] at hM
    exact Or.inr ⟨by have := y7.f (by omega); exact y3.f (by have := y3.r; omega), ⟨_, _, _, _, _, _, _, _, _, _, _, _, _, _, _, _, _, _, _, _, _, _, _, hM, ⟨hR, hP⟩, hSv, hTx, hL⟩, hF⟩
  · have yy := y7.t (by omega)
    rw [if_neg (by omega), if_neg (by omega)] at hM
    have yw := y3.t (by omega)
    have yw : 0 ≤ j ∧ j < (S.cnt : Int) := yw
    obtain ⟨jn1, rfl⟩ : ∃ z : Nat, j = (z : Int) := ⟨j.toNat, by omega⟩
    have hj1 : jn1 < S.cnt := by omega
    have hp8 := nt_pow_r hk.c
    refine q_aload_n (pc' := 14) (dk_at dkX6_bestWithout 7 rfl) rfl rfl ?_
    refine q_iconst (pc' := 15) (dk_at dkX6_bestWithout 8 rfl) rfl ?_
    refine q_iload_n (pc' := 16) (dk_at dkX6_bestWithout 9 rfl) rfl rfl ?_
    refine q_ishl (pc' := 17) (dk_at dkX6_bestWithout 10 rfl) (by omega) (by omega) rfl ?_
    have bb6 := nt_pow_r (j := jn1) (by omega)
    rw [show ((1 : Int) * 2 ^ ((jn1 : Int)).toNat) = ((2 ^ jn1 : Nat) : Int) from nt_shl1 jn1]
    have hwo : 2 ^ jn1 < 2 ^ S.cnt := Nat.pow_lt_pow_right (by decide) hj1
    refine q_iconst (pc' := 18) (dk_at dkX6_bestWithout 11 rfl) rfl ?_
    refine r_cVI (pc' := 21) (As := [vI ((2 ^ jn1 : Nat) : Int), vI (-1)]) (S := []) cv_RX6_230 (dk_at dkX6_bestWithout 12 rfl) hM.obj rfl (k_M_searched (d := 20) (S := S) (wo := 2 ^ jn1) (f1 := -1) (by omega) hR hk hwo (Or.inl rfl) (Or.inl ⟨by omega, rfl⟩) hL hM) (by omega) (Nat.zero_le _) (Nat.zero_le _) rfl (Nat.le_of_ble_eq_true rfl) rfl (Nat.le_of_ble_eq_true rfl) rfl (fun xx7 hh8 hphh8 => ?_)
    obtain ⟨ex1, le1, fr1, un1, sF1, sR1, sT1, nf1, ne1, nc1, hM, hL, hGf⟩ := hphh8
    have hF := hF.tr hGf (by omega)
    have exr := sr_r hk (Or.inl rfl) hwo ex1
    refine q_i2l (pc' := 22) (dk_at dkX6_bestWithout 13 rfl) (by omega) rfl ?_
    refine q_goto (tgt := 26) (dk_at dkX6_bestWithout 14 rfl) rfl ?_
    refine r_lret rfl (dk_at dkX6_bestWithout 16 rfl) ?_
    rw [lc_drop hk hj1] at ex1
    exact Or.inl ⟨yw, ex1, ⟨_, _, _, _, _, _, _, _, _, _, _, _, _, _, _, _, _, _, _, _, _, _, _, hM, ⟨hR, hP⟩, hSv, hTx, hL⟩, hF⟩

/-- the array with the first k setups that count taken out -/
def frA (A : Nat → Int) (k i : Nat) : Int := if 41 ≤ i ∧ i < 41 + k ∧ ¬ (45 ≤ i ∧ (i - 45) / 4 = (i - 45) % 4) then 0 else A i
theorem MR.free {A A1 : Nat → Int} {S : Shp} (h : MR A S) (hc : S.cnt ≤ 8) (e : ∀ i, i < 81 → A1 i = frA A 20 i) : MR A1 S.free := by
  have e0 : ∀ i, i < 81 → (i < 41 ∨ 61 ≤ i) → A1 i = A i := fun i hi hq => by rw [e i hi]; unfold frA; rw [if_neg (by omega)]
  refine ⟨?_, fun w j hw hj => ?_, fun t ht => ?_, fun f t hf ht => ?_, ?_, ?_, ?_⟩
  · rw [e0 0 (by omega) (by omega)]; exact h.c
  · have hj : j < S.cnt := hj
    rw [e0 _ (by omega) (by omega)]; exact h.v hw hj
  · show _ = zeroR (S.T 0) 0 4 t
    rw [e _ (by omega)]
    unfold frA zeroR
    rw [if_pos (by omega), if_pos (by omega)]
  · show _ = zeroR (S.T (f + 1)) (f + 1) 4 t
    rw [e _ (by omega)]
    unfold frA zeroR
    by_cases z : f = t
    · rw [if_neg (by omega), if_neg (by omega)]; exact h.t hf ht
    · rw [if_pos (by omega), if_pos (by omega)]
  · rw [e0 _ (by omega) (by omega)]; exact h.w
  · rw [e0 _ (by omega) (by omega)]; exact h.e
  · rw [e0 _ (by omega) (by omega)]; exact h.o
set_option maxHeartbeats 4000000 in
set_option maxRecDepth 100000 in
theorem l_sp1 {d n : Nat} {F : FT} {h : PH} {m : Nat} {A sd sq op ss es bo su se tx ba le fr un sF sR sT : Nat → Int} {sm th l0 bm tl nf ne nc : Int} {x1 : Int} (hex : ∀ (A1 ad1 : Nat → Int) (h1 : PH), (∀ q, q < 20 → ad1 q = A (41 + q)) → (∀ i, i < 81 → A1 i = frA A 20 i) → isModel n h1 m A1 sd sm th sq op l0 ss es bo su se bm tx tl ba le fr un nf ne nc sF sR sT ad1 → Fr h h1 m (m + 19) → QN mX6_setupPrice d F 79 [some (vR m), some (vI x1), some (vI 20), none] [] n h1) : ∀ (c : Nat) (k : Nat) (A1 ad1 : Nat → Int) (h1 : PH), (k + c = 20) → ((∀ q, q < k → ad1 q = A (41 + q))) → ((∀ i, i < 81 → A1 i = frA A k i)) → (isModel n h1 m A1 sd sm th sq op l0 ss es bo su se bm tx tl ba le fr un nf ne nc sF sR sT ad1) → (Fr h h1 m (m + 19)) → QN mX6_setupPrice d F 12 [some (vR m), some (vI x1), some (vI (k : Int)), none] [] n h1 := by
  intro c
  induction c with
  | zero =>
    intro k A1 ad1 h1 hc hi1 hi2 hM hF
    refine q_iload_n (pc' := 13) (dk_at dkX6_setupPrice 8 rfl) rfl rfl ?_
    refine q_bipush (pc' := 15) (dk_at dkX6_setupPrice 9 rfl) (by decide +kernel) rfl ?_
    refine q_icmp_ge (tgt := 79) (pc' := 18) (dk_at dkX6_setupPrice 10 rfl) rfl rfl (by omega) (by omega) (fun c15 => ?_) (fun c15 => ?_)
    · have ek : k = 20 := by omega
      subst ek
      exact hex _ _ _ hi1 hi2 hM hF
    · exfalso
      omega
  | succ c ih =>
    intro k A1 ad1 h1 hc hi1 hi2 hM hF
    refine q_iload_n (pc' := 13) (dk_at dkX6_setupPrice 8 rfl) rfl rfl ?_
    refine q_bipush (pc' := 15) (dk_at dkX6_setupPrice 9 rfl) (by decide +kernel) rfl ?_
    refine q_icmp_ge (tgt := 79) (pc' := 18) (dk_at dkX6_setupPrice 10 rfl) rfl rfl (by omega) (by omega) (fun c15 => ?_) (fun c15 => ?_)
    · have ek : k = 20 := by omega
      subst ek
      exact hex _ _ _ hi1 hi2 hM hF
    · refine q_aload_n (pc' := 19) (dk_at dkX6_setupPrice 11 rfl) rfl rfl ?_
      refine r_getf (pc' := 22) fl_RX6_62 (dk_at dkX6_setupPrice 12 rfl) hM.obj rfl rfl ?_
      refine q_iload_n (pc' := 23) (dk_at dkX6_setupPrice 13 rfl) rfl rfl ?_
      refine q_aload_n (pc' := 24) (dk_at dkX6_setupPrice 14 rfl) rfl rfl ?_
      refine r_getf (pc' := 27) fl_RX6_7 (dk_at dkX6_setupPrice 15 rfl) hM.obj rfl rfl ?_
      refine q_bipush (pc' := 29) (dk_at dkX6_setupPrice 16 rfl) (by decide +kernel) rfl ?_
      refine q_iload_n (pc' := 30) (dk_at dkX6_setupPrice 17 rfl) rfl rfl ?_
      refine q_iadd (pc' := 31) (dk_at dkX6_setupPrice 18 rfl) rfl ?_
      refine r_iald (pc' := 32) (dk_at dkX6_setupPrice 19 rfl) hM.all (41 + k) (by omega) (by omega) (by decide) rfl ?_
      refine r_iast (pc' := 33) (dk_at dkX6_setupPrice 20 rfl) hM.aside k (by omega) (by omega) (by decide) rfl (fun hh1 ehh1 => ?_)
      have hM := hM.w_aside ehh1
      have hF := hF.put ehh1 (by omega)
      refine q_aload_n (pc' := 34) (dk_at dkX6_setupPrice 21 rfl) rfl rfl ?_
      refine r_getf (pc' := 37) fl_RX6_7 (dk_at dkX6_setupPrice 22 rfl) hM.obj rfl rfl ?_
      refine q_bipush (pc' := 39) (dk_at dkX6_setupPrice 23 rfl) (by decide +kernel) rfl ?_
      refine q_iload_n (pc' := 40) (dk_at dkX6_setupPrice 24 rfl) rfl rfl ?_
      refine q_iadd (pc' := 41) (dk_at dkX6_setupPrice 25 rfl) rfl ?_
      refine q_join 72 [some (vR m), some (vI x1), some (vI (k : Int)), none] [vI (41 + (k : Int)), vR (m + 1)] (fun jx => jx = (if 4 ≤ k ∧ (k - 4) / 4 = (k - 4) % 4 then A1 (41 + k) else 0)) (fun jx72 e72 => ?_) (fun J72 => ?_)
      · refine r_iast (pc' := 73) (dk_at dkX6_setupPrice 48 rfl) hM.all (41 + k) (by omega) (by omega) (by decide) rfl (fun hh2 ehh2 => ?_)
        have hM := hM.w_all ehh2
        have hF := hF.put ehh2 (by omega)
        refine q_iinc (pc' := 76) (L' := [some (vR m), some (vI x1), some (vI ((k : Int) + 1)), none]) (dk_at dkX6_setupPrice 49 rfl) (by decide) rfl rfl rfl ?_
        rw [show ((k : Int) + 1) = ((k + 1 : Nat) : Int) by omega]
        refine q_goto (tgt := 12) (dk_at dkX6_setupPrice 50 rfl) rfl ?_
        have e0 : A1 (41 + k) = A (41 + k) := by rw [hi2 _ (by omega)]; unfold frA; rw [if_neg (by omega)]
        refine ih (k + 1) _ _ _ (by omega) (fun q hq => ?_) (fun i hi => ?_) hM hF
        · by_cases z : q = k
          · rw [z, upz_eq]; exact e0
          · rw [upz_ne z]; exact hi1 q (by omega)
        · by_cases z : i = 41 + k
          · rw [z, upz_eq, e72, e0]
            unfold frA
            by_cases y : 4 ≤ k ∧ (k - 4) / 4 = (k - 4) % 4
            · rw [if_pos y, if_neg (by omega)]
            · rw [if_neg y, if_pos (by omega)]
          · rw [upz_ne z, hi2 i hi]
            unfold frA
            by_cases y : 41 ≤ i ∧ i < 41 + k ∧ ¬ (45 ≤ i ∧ (i - 45) / 4 = (i - 45) % 4)
            · rw [if_pos y, if_pos (by omega)]
            · rw [if_neg y, if_neg (by omega)]
      refine q_iload_n (pc' := 42) (dk_at dkX6_setupPrice 26 rfl) rfl rfl ?_
      refine q_iconst (pc' := 43) (dk_at dkX6_setupPrice 27 rfl) rfl ?_
      refine q_icmp_lt (tgt := 71) (pc' := 46) (dk_at dkX6_setupPrice 28 rfl) rfl rfl (by omega) (by omega) (fun c43 => ?_) (fun c43 => ?_)
      · refine q_iconst (pc' := 72) (dk_at dkX6_setupPrice 47 rfl) rfl ?_
        exact J72 _ (by first | rw [if_pos (by omega)] | rw [if_neg (by omega)])
      · refine q_iload_n (pc' := 47) (dk_at dkX6_setupPrice 29 rfl) rfl rfl ?_
        refine q_iconst (pc' := 48) (dk_at dkX6_setupPrice 30 rfl) rfl ?_
        refine q_isub (pc' := 49) (dk_at dkX6_setupPrice 31 rfl) rfl ?_
        refine q_iconst (pc' := 50) (dk_at dkX6_setupPrice 32 rfl) rfl ?_
        refine q_idiv (pc' := 51) (dk_at dkX6_setupPrice 33 rfl) (by omega) (by omega) rfl ?_
        refine q_iload_n (pc' := 52) (dk_at dkX6_setupPrice 34 rfl) rfl rfl ?_
        refine q_iconst (pc' := 53) (dk_at dkX6_setupPrice 35 rfl) rfl ?_
        refine q_isub (pc' := 54) (dk_at dkX6_setupPrice 36 rfl) rfl ?_
        refine q_iconst (pc' := 55) (dk_at dkX6_setupPrice 37 rfl) rfl ?_
        refine q_irem (pc' := 56) (dk_at dkX6_setupPrice 38 rfl) (by omega) (by omega) rfl ?_
        refine q_icmp_ne (tgt := 71) (pc' := 59) (dk_at dkX6_setupPrice 39 rfl) rfl rfl (by omega) (by omega) (fun c56 => ?_) (fun c56 => ?_)
        · refine q_iconst (pc' := 72) (dk_at dkX6_setupPrice 47 rfl) rfl ?_
          exact J72 _ (by first | rw [if_pos (by omega)] | rw [if_neg (by omega)])
        · refine q_aload_n (pc' := 60) (dk_at dkX6_setupPrice 40 rfl) rfl rfl ?_
          refine r_getf (pc' := 63) fl_RX6_7 (dk_at dkX6_setupPrice 41 rfl) hM.obj rfl rfl ?_
          refine q_bipush (pc' := 65) (dk_at dkX6_setupPrice 42 rfl) (by decide +kernel) rfl ?_
          refine q_iload_n (pc' := 66) (dk_at dkX6_setupPrice 43 rfl) rfl rfl ?_
          refine q_iadd (pc' := 67) (dk_at dkX6_setupPrice 44 rfl) rfl ?_
          refine r_iald (pc' := 68) (dk_at dkX6_setupPrice 45 rfl) hM.all (41 + k) (by omega) (by omega) (by decide) rfl ?_
          refine q_goto (tgt := 72) (dk_at dkX6_setupPrice 46 rfl) rfl ?_
          exact J72 _ (by first | rw [if_pos (by omega)] | rw [if_neg (by omega)])

set_option maxHeartbeats 4000000 in
set_option maxRecDepth 100000 in
theorem l_sp2 {d n : Nat} {F : FT} {h : PH} {m : Nat} {A0 : Nat → Int} {sd sq op ss es bo su se tx ba le fr un sF sR sT ad : Nat → Int} {sm th l0 bm tl nf ne nc : Int} {x1 x2 : Int} (had : ∀ q, q < 20 → ad q = A0 (41 + q)) (hex : ∀ (A1 : Nat → Int) (h1 : PH), (∀ i, i < 81 → A1 i = A0 i) → isModel n h1 m A1 sd sm th sq op l0 ss es bo su se bm tx tl ba le fr un nf ne nc sF sR sT ad → Fr h h1 m (m + 19) → QN mX6_setupPrice d F 113 [some (vR m), some (vI x1), some (vI x2), some (vI 20)] [] n h1) : ∀ (c : Nat) (k : Nat) (A1 : Nat → Int) (h1 : PH), (k + c = 20) → ((∀ i, i < 81 → A1 i = if 41 + k ≤ i ∧ i < 61 then frA A0 20 i else A0 i)) → (isModel n h1 m A1 sd sm th sq op l0 ss es bo su se bm tx tl ba le fr un nf ne nc sF sR sT ad) → (Fr h h1 m (m + 19)) → QN mX6_setupPrice d F 86 [some (vR m), some (vI x1), some (vI x2), some (vI (k : Int))] [] n h1 := by
  intro c
  induction c with
  | zero =>
    intro k A1 h1 hc hi2 hM hF
    refine q_iload_n (pc' := 87) (dk_at dkX6_setupPrice 56 rfl) rfl rfl ?_
    refine q_bipush (pc' := 89) (dk_at dkX6_setupPrice 57 rfl) (by decide +kernel) rfl ?_
    refine q_icmp_ge (tgt := 113) (pc' := 92) (dk_at dkX6_setupPrice 58 rfl) rfl rfl (by omega) (by omega) (fun c89 => ?_) (fun c89 => ?_)
    · have ek : k = 20 := by omega
      subst ek
      refine hex _ _ (fun i hi => ?_) hM hF
      rw [hi2 i hi, if_neg (by omega)]
    · exfalso
      omega
  | succ c ih =>
    intro k A1 h1 hc hi2 hM hF
    refine q_iload_n (pc' := 87) (dk_at dkX6_setupPrice 56 rfl) rfl rfl ?_
    refine q_bipush (pc' := 89) (dk_at dkX6_setupPrice 57 rfl) (by decide +kernel) rfl ?_
    refine q_icmp_ge (tgt := 113) (pc' := 92) (dk_at dkX6_setupPrice 58 rfl) rfl rfl (by omega) (by omega) (fun c89 => ?_) (fun c89 => ?_)
    · have ek : k = 20 := by omega
      subst ek
      refine hex _ _ (fun i hi => ?_) hM hF
      rw [hi2 i hi, if_neg (by omega)]
    · refine q_aload_n (pc' := 93) (dk_at dkX6_setupPrice 59 rfl) rfl rfl ?_
      refine r_getf (pc' := 96) fl_RX6_7 (dk_at dkX6_setupPrice 60 rfl) hM.obj rfl rfl ?_
      refine q_bipush (pc' := 98) (dk_at dkX6_setupPrice 61 rfl) (by decide +kernel) rfl ?_
      refine q_iload_n (pc' := 99) (dk_at dkX6_setupPrice 62 rfl) rfl rfl ?_
      refine q_iadd (pc' := 100) (dk_at dkX6_setupPrice 63 rfl) rfl ?_
      refine q_aload_n (pc' := 101) (dk_at dkX6_setupPrice 64 rfl) rfl rfl ?_
      refine r_getf (pc' := 104) fl_RX6_62 (dk_at dkX6_setupPrice 65 rfl) hM.obj rfl rfl ?_
      refine q_iload_n (pc' := 105) (dk_at dkX6_setupPrice 66 rfl) rfl rfl ?_
      refine r_iald (pc' := 106) (dk_at dkX6_setupPrice 67 rfl) hM.aside k (by omega) (by omega) (by decide) rfl ?_
      refine r_iast (pc' := 107) (dk_at dkX6_setupPrice 68 rfl) hM.all (41 + k) (by omega) (by omega) (by decide) rfl (fun hh1 ehh1 => ?_)
      have hM := hM.w_all ehh1
      have hF := hF.put ehh1 (by omega)
      refine q_iinc (pc' := 110) (L' := [some (vR m), some (vI x1), some (vI x2), some (vI ((k : Int) + 1))]) (dk_at dkX6_setupPrice 69 rfl) (by decide) rfl rfl rfl ?_
      rw [show ((k : Int) + 1) = ((k + 1 : Nat) : Int) by omega]
      refine q_goto (tgt := 86) (dk_at dkX6_setupPrice 70 rfl) rfl ?_
      refine ih (k + 1) _ _ (by omega) (fun i hi => ?_) hM hF
      by_cases z : i = 41 + k
      · rw [z, upz_eq, if_neg (by omega)]; exact had k (by omega)
      · rw [upz_ne z, hi2 i hi]
        by_cases y : 41 + k ≤ i ∧ i < 61
        · rw [if_pos y, if_pos (by omega)]
        · rw [if_neg y, if_neg (by omega)]

set_option maxHeartbeats 4000000 in
set_option maxRecDepth 100000 in
theorem k_M_setupPrice {d n : Nat} {h : PH} {m : Nat} {S : Shp} {P : PlS} {kn bs : Int} {sv tl : Nat} {x : Nat → Snp} {tx : Nat → Int} {th : Int}  (hd : 30 ≤ d) (hI : MOI n h m th ((S, P, kn, bs), sv, x, tx, tl)) (hO : BOk ((S, P, kn, bs), sv, x, tx, tl))  : CtrJ mX6_setupPrice d [vR m] n h (fun v h' => v = lcS S (-1) - lcS S.free (-1) ∧ MOI n h' m 0 ((S, P, kn, bs), sv, x, tx, tl) ∧ Fr h h' m (m + 19)) := by
  obtain ⟨A, sd, sq, op, ss, es, bo, su, se, tx1, ba, le, fr, un, sF, sR, sT, ad, l0, bm, nf, ne, nc, hM, ⟨hR, hP⟩, hSv, hTx, hL⟩ := hI
  have hM : isModel n h m A sd (sv : Int) th sq op l0 ss es bo su se bm tx1 (tl : Int) ba le fr un nf ne nc sF sR sT ad := hM
  have hR : MR A S := hR
  have hP : MP A P := hP
  have hSv : MSv sd sv x := hSv
  have hTx : ∀ i, i < tl → tx1 i = tx i := hTx
  obtain ⟨hko, hsv, hks, htl, htx⟩ := hO
  have hko : SnOk (S, P, kn, bs) := hko
  have hsv : sv ≤ 4 := hsv
  have hks : ∀ i, i < sv → SnOk (x i) := hks
  have htl : tl ≤ 60 := htl
  have htx : ∀ i, 0 ≤ tx i ∧ tx i ≤ 127 := htx
  have hk : Sok S := hko.1
  have hc8 := hk.c
  have hkp : Pok S.cnt P.od P.en P.bc P.sz := hko.2.1
  have hp8 : P.sz ≤ 8 := hkp.1
  have hpb : P.bc ≤ P.sz := hkp.2.1
  have hA0 := hR.c
  have hF : Fr h h m (m + 19) := Fr.rf
  refine q_beginJ (L := [some (vR m), none, none, none]) rfl ?_
  refine q_aload_n (pc' := 1) (dk_at dkX6_setupPrice 0 rfl) rfl rfl ?_
  refine q_iconst (pc' := 2) (dk_at dkX6_setupPrice 1 rfl) rfl ?_
  refine r_putf (pc' := 5) fp_RX6_66 (dk_at dkX6_setupPrice 2 rfl) hM.obj (Nat.le_of_ble_eq_true rfl) (PT_int _) rfl (fun hh1 ehh1 => ?_)
  have hM := hM.w_obj ehh1
  have hF := hF.put ehh1 (by omega)
  refine q_aload_n (pc' := 6) (dk_at dkX6_setupPrice 3 rfl) rfl rfl ?_
  refine r_cVI (pc' := 9) (As := []) (S := []) cv_RX6_250 (dk_at dkX6_setupPrice 4 rfl) hM.obj rfl (k_M_best (d := 20) (S := S) (by omega) hR hk hL hM) (by omega) (Nat.zero_le _) (Nat.zero_le _) rfl (Nat.le_of_ble_eq_true rfl) rfl (Nat.le_of_ble_eq_true rfl) rfl (fun xx2 hh3 hphh3 => ?_)
  obtain ⟨ex1, exr, le1, fr1, un1, sF1, sR1, sT1, nf1, ne1, nc1, hM, hL, hGf⟩ := hphh3
  have hF := hF.tr hGf (by omega)
  refine q_istore_n (pc' := 10) (L' := [some (vR m), some (vI xx2), none, none]) (dk_at dkX6_setupPrice 5 rfl) (by decide) rfl rfl ?_
  refine q_iconst (pc' := 11) (dk_at dkX6_setupPrice 6 rfl) rfl ?_
  refine q_istore_n (pc' := 12) (L' := [some (vR m), some (vI xx2), some (vI 0), none]) (dk_at dkX6_setupPrice 7 rfl) (by decide) rfl rfl ?_
  refine l_sp1 (F := _) (h := h) ?_ 20 0 A ad _ (by omega) (fun q hq => absurd hq (Nat.not_lt_zero _)) (fun i hi => by unfold frA; rw [if_neg (by omega)]) hM hF
  intro A1 ad1 h2 hi1 hi2 hM hF
  have hR1 := hR.free hc8 hi2
  refine q_aload_n (pc' := 80) (dk_at dkX6_setupPrice 51 rfl) rfl rfl ?_
  refine r_cVI (pc' := 83) (As := []) (S := []) cv_RX6_250 (dk_at dkX6_setupPrice 52 rfl) hM.obj rfl (k_M_best (d := 20) (S := S.free) (by omega) hR1 hk.free hL hM) (by omega) (Nat.zero_le _) (Nat.zero_le _) rfl (Nat.le_of_ble_eq_true rfl) rfl (Nat.le_of_ble_eq_true rfl) rfl (fun xx4 hh5 hphh5 => ?_)
  obtain ⟨ex2, exr2, le2, fr2, un2, sF2, sR2, sT2, nf2, ne2, nc2, hM, hL, hGf⟩ := hphh5
  have hF := hF.tr hGf (by omega)
  refine q_istore_n (pc' := 84) (L' := [some (vR m), some (vI xx2), some (vI xx4), none]) (dk_at dkX6_setupPrice 53 rfl) (by decide) rfl rfl ?_
  refine q_iconst (pc' := 85) (dk_at dkX6_setupPrice 54 rfl) rfl ?_
  refine q_istore_n (pc' := 86) (L' := [some (vR m), some (vI xx2), some (vI xx4), some (vI 0)]) (dk_at dkX6_setupPrice 55 rfl) (by decide) rfl rfl ?_
  refine l_sp2 (F := _) (h := h) (A0 := A) hi1 ?_ 20 0 A1 _ (by omega) (fun i hi => ?_) hM hF
  · intro A2 h3 hi3 hM hF
    have hR2 := hR.cong (fun k hk => hi3 k (by omega)) hc8
    have hP2 := hP.cong (fun k hk1 hk2 => hi3 k hk2) hp8
    refine q_iload_n (pc' := 114) (dk_at dkX6_setupPrice 71 rfl) rfl rfl ?_
    refine q_iload_n (pc' := 115) (dk_at dkX6_setupPrice 72 rfl) rfl rfl ?_
    refine q_isub (pc' := 116) (dk_at dkX6_setupPrice 73 rfl) rfl ?_
    refine q_i2l (pc' := 117) (dk_at dkX6_setupPrice 74 rfl) (by omega) rfl ?_
    refine r_lret rfl (dk_at dkX6_setupPrice 75 rfl) ?_
    exact ⟨by rw [ex1, ex2], ⟨_, _, _, _, _, _, _, _, _, _, _, _, _, _, _, _, _, _, _, _, _, _, _, hM, ⟨hR2, hP2⟩, hSv, hTx, hL⟩, hF⟩
  · rw [hi2 i hi]
    by_cases y : 41 + 0 ≤ i ∧ i < 61
    · rw [if_pos y]
    · rw [if_neg y]; unfold frA; rw [if_neg (by omega)]

theorem MR.rls {A A1 : Nat → Int} {S : Shp} (h : MR A S) (hc : S.cnt ≤ 8) {j : Nat} {r : Int} (hj : j < S.cnt) (e1 : A1 (1 + 5 * j + 2) = r) (e2 : ∀ i, i ≠ 1 + 5 * j + 2 → A1 i = A i) : MR A1 (S.rls j r) := h.setV hc (by omega) hj e1 (fun k _ hk => e2 k hk)
set_option maxHeartbeats 4000000 in
set_option maxRecDepth 100000 in
theorem l_lr {d n : Nat} {h : PH} {m : Nat} {S : Shp} {j r0 vn : Nat} {x4 : Int} {A sd sq op ss es bo su se tx ba ad : Nat → Int} {sm th l0 bm tl : Int} (hd : 30 ≤ d) (hR : MR A S) (hk : Sok S) (hc8 : S.cnt ≤ 8) (hj : j < S.cnt) (hb0 : lcS S (-1) = x4) (hb1 : -1000000 ≤ x4 ∧ x4 ≤ 288000000) (hv0 : A (1 + 5 * j + 2) = (r0 : Int)) (hv1 : r0 ≤ 300) (hv2 : (vn : Int) ≤ min ((r0 : Int) + 100) 300) (hv3 : ∀ q : Nat, r0 ≤ q → q ≤ vn → lcS (S.rls j (q : Int)) (-1) = lcS S (-1)) (hv4 : (vn : Int) = min ((r0 : Int) + 100) 300 ∨ lcS (S.rls j ((vn : Int) + 1)) (-1) ≠ lcS S (-1)) : ∀ (c : Nat) (q : Nat) (sm1 : Int) (A1 le1 fr1 un1 sF1 sR1 sT1 : Nat → Int) (nf1 ne1 nc1 : Int) (h1 : PH), ((q : Int) + sm1 ≤ 400 ∧ 400 ≤ (c : Int) + q - sm1 + 1) → (r0 ≤ q) → (q ≤ vn) → (sm1 = 1 ∨ (sm1 = 0 ∧ q = vn)) → (∀ i, i ≠ (1 + 5 * j + 2) → A1 i = A i) → (LInv le1 fr1 un1) → (isModel n h1 m A1 sd sm th sq op l0 ss es bo su se bm tx tl ba le1 fr1 un1 nf1 ne1 nc1 sF1 sR1 sT1 ad) → (Fr h h1 m (m + 19)) → QN mX6_latestRelease d (FI n (fun v h' => v = (vn : Int) ∧ ∃ (A1 le1 fr1 un1 sF1 sR1 sT1 : Nat → Int) (nf1 ne1 nc1 : Int), isModel n h' m A1 sd sm th sq op l0 ss es bo su se bm tx tl ba le1 fr1 un1 nf1 ne1 nc1 sF1 sR1 sT1 ad ∧ (∀ i, A1 i = A i) ∧ LInv le1 fr1 un1 ∧ Fr h h' m (m + 19))) 42 [some (vR m), some (vI (j : Int)), some (vI ((1 + 5 * j + 2 : Nat) : Int)), some (vI (r0 : Int)), some (vI x4), some (vI (q : Int)), some (vI sm1)] [] n h1 := by
  intro c
  induction c with
  | zero =>
    intro q sm1 A1 le1 fr1 un1 sF1 sR1 sT1 nf1 ne1 nc1 h1 hc hq hq2 hs hA hL hM hF
    refine q_iload (pc' := 44) (dk_at dkX6_latestRelease 29 rfl) rfl rfl ?_
    refine q_if_eq (tgt := 108) (pc' := 47) (dk_at dkX6_latestRelease 30 rfl) rfl rfl (by omega) (fun c44 => ?_) (fun c44 => ?_)
    · refine q_aload_n (pc' := 109) (dk_at dkX6_latestRelease 63 rfl) rfl rfl ?_
      refine r_getf (pc' := 112) fl_RX6_7 (dk_at dkX6_latestRelease 64 rfl) hM.obj rfl rfl ?_
      refine q_iload_n (pc' := 113) (dk_at dkX6_latestRelease 65 rfl) rfl rfl ?_
      refine q_iload_n (pc' := 114) (dk_at dkX6_latestRelease 66 rfl) rfl rfl ?_
      refine r_iast (pc' := 115) (dk_at dkX6_latestRelease 67 rfl) hM.all (1 + 5 * j + 2) (by omega) (by omega) (by decide) rfl (fun hh1 ehh1 => ?_)
      have hM := hM.w_all ehh1
      have hF := hF.put ehh1 (by omega)
      refine q_iload (pc' := 117) (dk_at dkX6_latestRelease 68 rfl) rfl rfl ?_
      refine r_iret rfl (dk_at dkX6_latestRelease 69 rfl) ?_
      refine ⟨by omega, _, _, _, _, _, _, _, _, _, _, hM, fun i => ?_, hL, hF⟩
      by_cases z : i = (1 + 5 * j + 2)
      · rw [z, upz_eq]; exact hv0.symm
      · rw [upz_ne z]; exact hA i z
    · refine q_iload (pc' := 49) (dk_at dkX6_latestRelease 31 rfl) rfl rfl ?_
      refine q_iload_n (pc' := 50) (dk_at dkX6_latestRelease 32 rfl) rfl rfl ?_
      refine q_bipush (pc' := 52) (dk_at dkX6_latestRelease 33 rfl) (by decide +kernel) rfl ?_
      refine q_iadd (pc' := 53) (dk_at dkX6_latestRelease 34 rfl) rfl ?_
      refine q_icmp_ge (tgt := 108) (pc' := 56) (dk_at dkX6_latestRelease 35 rfl) rfl rfl (by omega) (by omega) (fun c53 => ?_) (fun c53 => ?_)
      · refine q_aload_n (pc' := 109) (dk_at dkX6_latestRelease 63 rfl) rfl rfl ?_
        refine r_getf (pc' := 112) fl_RX6_7 (dk_at dkX6_latestRelease 64 rfl) hM.obj rfl rfl ?_
        refine q_iload_n (pc' := 113) (dk_at dkX6_latestRelease 65 rfl) rfl rfl ?_
        refine q_iload_n (pc' := 114) (dk_at dkX6_latestRelease 66 rfl) rfl rfl ?_
        refine r_iast (pc' := 115) (dk_at dkX6_latestRelease 67 rfl) hM.all (1 + 5 * j + 2) (by omega) (by omega) (by decide) rfl (fun hh2 ehh2 => ?_)
        have hM := hM.w_all ehh2
        have hF := hF.put ehh2 (by omega)
        refine q_iload (pc' := 117) (dk_at dkX6_latestRelease 68 rfl) rfl rfl ?_
        refine r_iret rfl (dk_at dkX6_latestRelease 69 rfl) ?_
        refine ⟨by omega, _, _, _, _, _, _, _, _, _, _, hM, fun i => ?_, hL, hF⟩
        by_cases z : i = (1 + 5 * j + 2)
        · rw [z, upz_eq]; exact hv0.symm
        · rw [upz_ne z]; exact hA i z
      · refine q_iload (pc' := 58) (dk_at dkX6_latestRelease 36 rfl) rfl rfl ?_
        refine q_sipush (pc' := 61) (dk_at dkX6_latestRelease 37 rfl) (by decide +kernel) rfl ?_
        refine q_icmp_ge (tgt := 108) (pc' := 64) (dk_at dkX6_latestRelease 38 rfl) rfl rfl (by omega) (by omega) (fun c61 => ?_) (fun c61 => ?_)
        · refine q_aload_n (pc' := 109) (dk_at dkX6_latestRelease 63 rfl) rfl rfl ?_
          refine r_getf (pc' := 112) fl_RX6_7 (dk_at dkX6_latestRelease 64 rfl) hM.obj rfl rfl ?_
          refine q_iload_n (pc' := 113) (dk_at dkX6_latestRelease 65 rfl) rfl rfl ?_
          refine q_iload_n (pc' := 114) (dk_at dkX6_latestRelease 66 rfl) rfl rfl ?_
          refine r_iast (pc' := 115) (dk_at dkX6_latestRelease 67 rfl) hM.all (1 + 5 * j + 2) (by omega) (by omega) (by decide) rfl (fun hh3 ehh3 => ?_)
          have hM := hM.w_all ehh3
          have hF := hF.put ehh3 (by omega)
          refine q_iload (pc' := 117) (dk_at dkX6_latestRelease 68 rfl) rfl rfl ?_
          refine r_iret rfl (dk_at dkX6_latestRelease 69 rfl) ?_
          refine ⟨by omega, _, _, _, _, _, _, _, _, _, _, hM, fun i => ?_, hL, hF⟩
          by_cases z : i = (1 + 5 * j + 2)
          · rw [z, upz_eq]; exact hv0.symm
          · rw [upz_ne z]; exact hA i z
        · exfalso
          omega
  | succ c ih =>
    intro q sm1 A1 le1 fr1 un1 sF1 sR1 sT1 nf1 ne1 nc1 h1 hc hq hq2 hs hA hL hM hF
    refine q_iload (pc' := 44) (dk_at dkX6_latestRelease 29 rfl) rfl rfl ?_
    refine q_if_eq (tgt := 108) (pc' := 47) (dk_at dkX6_latestRelease 30 rfl) rfl rfl (by omega) (fun c44 => ?_) (fun c44 => ?_)
    · refine q_aload_n (pc' := 109) (dk_at dkX6_latestRelease 63 rfl) rfl rfl ?_
      refine r_getf (pc' := 112) fl_RX6_7 (dk_at dkX6_latestRelease 64 rfl) hM.obj rfl rfl ?_
      refine q_iload_n (pc' := 113) (dk_at dkX6_latestRelease 65 rfl) rfl rfl ?_
      refine q_iload_n (pc' := 114) (dk_at dkX6_latestRelease 66 rfl) rfl rfl ?_
      refine r_iast (pc' := 115) (dk_at dkX6_latestRelease 67 rfl) hM.all (1 + 5 * j + 2) (by omega) (by omega) (by decide) rfl (fun hh1 ehh1 => ?_)
      have hM := hM.w_all ehh1
      have hF := hF.put ehh1 (by omega)
      refine q_iload (pc' := 117) (dk_at dkX6_latestRelease 68 rfl) rfl rfl ?_
      refine r_iret rfl (dk_at dkX6_latestRelease 69 rfl) ?_
      refine ⟨by omega, _, _, _, _, _, _, _, _, _, _, hM, fun i => ?_, hL, hF⟩
      by_cases z : i = (1 + 5 * j + 2)
      · rw [z, upz_eq]; exact hv0.symm
      · rw [upz_ne z]; exact hA i z
    · refine q_iload (pc' := 49) (dk_at dkX6_latestRelease 31 rfl) rfl rfl ?_
      refine q_iload_n (pc' := 50) (dk_at dkX6_latestRelease 32 rfl) rfl rfl ?_
      refine q_bipush (pc' := 52) (dk_at dkX6_latestRelease 33 rfl) (by decide +kernel) rfl ?_
      refine q_iadd (pc' := 53) (dk_at dkX6_latestRelease 34 rfl) rfl ?_
      refine q_icmp_ge (tgt := 108) (pc' := 56) (dk_at dkX6_latestRelease 35 rfl) rfl rfl (by omega) (by omega) (fun c53 => ?_) (fun c53 => ?_)
      · refine q_aload_n (pc' := 109) (dk_at dkX6_latestRelease 63 rfl) rfl rfl ?_
        refine r_getf (pc' := 112) fl_RX6_7 (dk_at dkX6_latestRelease 64 rfl) hM.obj rfl rfl ?_
        refine q_iload_n (pc' := 113) (dk_at dkX6_latestRelease 65 rfl) rfl rfl ?_
        refine q_iload_n (pc' := 114) (dk_at dkX6_latestRelease 66 rfl) rfl rfl ?_
        refine r_iast (pc' := 115) (dk_at dkX6_latestRelease 67 rfl) hM.all (1 + 5 * j + 2) (by omega) (by omega) (by decide) rfl (fun hh2 ehh2 => ?_)
        have hM := hM.w_all ehh2
        have hF := hF.put ehh2 (by omega)
        refine q_iload (pc' := 117) (dk_at dkX6_latestRelease 68 rfl) rfl rfl ?_
        refine r_iret rfl (dk_at dkX6_latestRelease 69 rfl) ?_
        refine ⟨by omega, _, _, _, _, _, _, _, _, _, _, hM, fun i => ?_, hL, hF⟩
        by_cases z : i = (1 + 5 * j + 2)
        · rw [z, upz_eq]; exact hv0.symm
        · rw [upz_ne z]; exact hA i z
      · refine q_iload (pc' := 58) (dk_at dkX6_latestRelease 36 rfl) rfl rfl ?_
        refine q_sipush (pc' := 61) (dk_at dkX6_latestRelease 37 rfl) (by decide +kernel) rfl ?_
        refine q_icmp_ge (tgt := 108) (pc' := 64) (dk_at dkX6_latestRelease 38 rfl) rfl rfl (by omega) (by omega) (fun c61 => ?_) (fun c61 => ?_)
        · refine q_aload_n (pc' := 109) (dk_at dkX6_latestRelease 63 rfl) rfl rfl ?_
          refine r_getf (pc' := 112) fl_RX6_7 (dk_at dkX6_latestRelease 64 rfl) hM.obj rfl rfl ?_
          refine q_iload_n (pc' := 113) (dk_at dkX6_latestRelease 65 rfl) rfl rfl ?_
          refine q_iload_n (pc' := 114) (dk_at dkX6_latestRelease 66 rfl) rfl rfl ?_
          refine r_iast (pc' := 115) (dk_at dkX6_latestRelease 67 rfl) hM.all (1 + 5 * j + 2) (by omega) (by omega) (by decide) rfl (fun hh3 ehh3 => ?_)
          have hM := hM.w_all ehh3
          have hF := hF.put ehh3 (by omega)
          refine q_iload (pc' := 117) (dk_at dkX6_latestRelease 68 rfl) rfl rfl ?_
          refine r_iret rfl (dk_at dkX6_latestRelease 69 rfl) ?_
          refine ⟨by omega, _, _, _, _, _, _, _, _, _, _, hM, fun i => ?_, hL, hF⟩
          by_cases z : i = (1 + 5 * j + 2)
          · rw [z, upz_eq]; exact hv0.symm
          · rw [upz_ne z]; exact hA i z
        · refine q_aload_n (pc' := 65) (dk_at dkX6_latestRelease 39 rfl) rfl rfl ?_
          refine r_getf (pc' := 68) fl_RX6_7 (dk_at dkX6_latestRelease 40 rfl) hM.obj rfl rfl ?_
          refine q_iload_n (pc' := 69) (dk_at dkX6_latestRelease 41 rfl) rfl rfl ?_
          refine q_iload (pc' := 71) (dk_at dkX6_latestRelease 42 rfl) rfl rfl ?_
          refine q_iconst (pc' := 72) (dk_at dkX6_latestRelease 43 rfl) rfl ?_
          refine q_iadd (pc' := 73) (dk_at dkX6_latestRelease 44 rfl) rfl ?_
          refine r_iast (pc' := 74) (dk_at dkX6_latestRelease 45 rfl) hM.all (1 + 5 * j + 2) (by omega) (by omega) (by decide) rfl (fun hh4 ehh4 => ?_)
          have hM := hM.w_all ehh4
          have hF := hF.put ehh4 (by omega)
          refine q_aload_n (pc' := 75) (dk_at dkX6_latestRelease 46 rfl) rfl rfl ?_
          have hR1 := MR.rls (A1 := upz A1 (1 + 5 * j + 2) ((q : Int) + 1)) hR hc8 hj (upz_eq _ _ _) (fun i hi => by rw [upz_ne hi]; exact hA i hi)
          have hk1 := rls_ok hk j (r := (q : Int) + 1) (by omega)
          refine r_cVI (pc' := 78) (As := []) (S := []) cv_RX6_250 (dk_at dkX6_latestRelease 47 rfl) hM.obj rfl (k_M_best (d := 20) (S := S.rls j ((q : Int) + 1)) (by omega) hR1 hk1 hL hM) (by omega) (Nat.zero_le _) (Nat.zero_le _) rfl (Nat.le_of_ble_eq_true rfl) rfl (Nat.le_of_ble_eq_true rfl) rfl (fun xx5 hh6 hphh6 => ?_)
          obtain ⟨ex2, exr2, le2, fr2, un2, sF2, sR2, sT2, nf2, ne2, nc2, hM, hL, hGf⟩ := hphh6
          have hF := hF.tr hGf (by omega)
          refine q_iload (pc' := 80) (dk_at dkX6_latestRelease 48 rfl) rfl rfl ?_
          have hnx : lcS (S.rls j ((q : Int) + 1)) (-1) = x4 → q < vn := fun e => by
            rcases Nat.lt_or_ge q vn with z | z
            · exact z
            · exfalso
              have eq1 : q = vn := by omega
              rcases hv4 with y | y
              · omega
              · exact y (by rw [← eq1, hb0]; exact e)
          have hnx2 : lcS (S.rls j ((q : Int) + 1)) (-1) ≠ x4 → q = vn := fun e => by
            rcases Nat.lt_or_ge q vn with z | z
            · exfalso
              have := hv3 (q + 1) (by omega) (by omega)
              rw [show ((q + 1 : Nat) : Int) = (q : Int) + 1 by omega, hb0] at this
              exact e this
            · omega
          rw [← ex2] at hnx hnx2
          refine q_join 88 [some (vR m), some (vI (j : Int)), some (vI ((1 + 5 * j + 2 : Nat) : Int)), some (vI (r0 : Int)), some (vI x4), some (vI (q : Int)), some (vI sm1)] [] (fun jx => (jx = 1 ∧ q < vn) ∨ (jx = 0 ∧ q = vn)) (fun jx88 e88 => ?_) (fun J88 => ?_)
          · refine q_istore (pc' := 90) (L' := [some (vR m), some (vI (j : Int)), some (vI ((1 + 5 * j + 2 : Nat) : Int)), some (vI (r0 : Int)), some (vI x4), some (vI (q : Int)), some (vI jx88)]) (dk_at dkX6_latestRelease 53 rfl) (by decide) rfl rfl ?_
            refine q_iload (pc' := 92) (dk_at dkX6_latestRelease 54 rfl) rfl rfl ?_
            refine q_join 102 [some (vR m), some (vI (j : Int)), some (vI ((1 + 5 * j + 2 : Nat) : Int)), some (vI (r0 : Int)), some (vI x4), some (vI (q : Int)), some (vI jx88)] [vI (q : Int)] (fun jx => jx = jx88) (fun jx102 e102 => ?_) (fun J102 => ?_)
            · refine q_iadd (pc' := 103) (dk_at dkX6_latestRelease 60 rfl) rfl ?_
              refine q_istore (pc' := 105) (L' := [some (vR m), some (vI (j : Int)), some (vI ((1 + 5 * j + 2 : Nat) : Int)), some (vI (r0 : Int)), some (vI x4), some (vI ((q : Int) + jx102)), some (vI jx88)]) (dk_at dkX6_latestRelease 61 rfl) (by decide) rfl rfl ?_
              refine q_goto (tgt := 42) (dk_at dkX6_latestRelease 62 rfl) rfl ?_
              rcases e88 with ⟨e1, e2⟩ | ⟨e1, e2⟩
              · rw [show (q : Int) + jx102 = ((q + 1 : Nat) : Int) by omega]
                exact ih (q + 1) _ _ _ _ _ _ _ _ _ _ _ _ (by omega) (by omega) (by omega) (by omega) (fun i hi => by rw [upz_ne hi]; exact hA i hi) hL hM hF
              · rw [show (q : Int) + jx102 = (q : Int) by omega]
                exact ih q _ _ _ _ _ _ _ _ _ _ _ _ (by omega) (by omega) (by omega) (by omega) (fun i hi => by rw [upz_ne hi]; exact hA i hi) hL hM hF
            refine q_iload (pc' := 94) (dk_at dkX6_latestRelease 55 rfl) rfl rfl ?_
            refine q_if_eq (tgt := 101) (pc' := 97) (dk_at dkX6_latestRelease 56 rfl) rfl rfl (by omega) (fun c94 => ?_) (fun c94 => ?_)
            · refine q_iconst (pc' := 102) (dk_at dkX6_latestRelease 59 rfl) rfl ?_
              exact J102 _ (by omega)
            · refine q_iconst (pc' := 98) (dk_at dkX6_latestRelease 57 rfl) rfl ?_
              refine q_goto (tgt := 102) (dk_at dkX6_latestRelease 58 rfl) rfl ?_
              exact J102 _ (by omega)
          refine q_icmp_ne (tgt := 87) (pc' := 83) (dk_at dkX6_latestRelease 49 rfl) rfl rfl (by omega) (by omega) (fun c80 => ?_) (fun c80 => ?_)
          · refine q_iconst (pc' := 88) (dk_at dkX6_latestRelease 52 rfl) rfl ?_
            exact J88 _ (Or.inr ⟨rfl, hnx2 (by omega)⟩)
          · refine q_iconst (pc' := 84) (dk_at dkX6_latestRelease 50 rfl) rfl ?_
            refine q_goto (tgt := 88) (dk_at dkX6_latestRelease 51 rfl) rfl ?_
            exact J88 _ (Or.inl ⟨rfl, hnx (by omega)⟩)

set_option maxHeartbeats 4000000 in
set_option maxRecDepth 100000 in
theorem k_M_latestRelease {d n : Nat} {h : PH} {m : Nat} {S : Shp} {P : PlS} {kn bs : Int} {sv tl : Nat} {x : Nat → Snp} {tx : Nat → Int} {th : Int} {j0 : Int} {vn : Nat} (hd : 30 ≤ d) (hI : MOI n h m th ((S, P, kn, bs), sv, x, tx, tl)) (hO : BOk ((S, P, kn, bs), sv, x, tx, tl)) (hi1 : IR j0) (hcl : jOk S j0 → S.V 2 j0.toNat ≤ (vn : Int) ∧ (vn : Int) ≤ min (S.V 2 j0.toNat + 100) 300 ∧ SameTo S j0.toNat vn ∧ ((vn : Int) = min (S.V 2 j0.toNat + 100) 300 ∨ lcS (S.rls j0.toNat ((vn : Int) + 1)) (-1) ≠ lcS S (-1))) : CtrI mX6_latestRelease d [vR m, vI j0] n h (fun v h' => (jOk S j0 ∧ v = (vn : Int) ∧ MOI n h' m 0 ((S, P, kn, bs), sv, x, tx, tl) ∧ Fr h h' m (m + 19)) ∨ (¬ jOk S j0 ∧ MOI n h' m 1 ((S, P, kn, bs), sv, x, tx, tl) ∧ Fr h h' m (m + 19))) := by
  obtain ⟨A, sd, sq, op, ss, es, bo, su, se, tx1, ba, le, fr, un, sF, sR, sT, ad, l0, bm, nf, ne, nc, hM, ⟨hR, hP⟩, hSv, hTx, hL⟩ := hI
  have hM : isModel n h m A sd (sv : Int) th sq op l0 ss es bo su se bm tx1 (tl : Int) ba le fr un nf ne nc sF sR sT ad := hM
  have hR : MR A S := hR
  have hP : MP A P := hP
  have hSv : MSv sd sv x := hSv
  have hTx : ∀ i, i < tl → tx1 i = tx i := hTx
  obtain ⟨hko, hsv, hks, htl, htx⟩ := hO
  have hko : SnOk (S, P, kn, bs) := hko
  have hsv : sv ≤ 4 := hsv
  have hks : ∀ i, i < sv → SnOk (x i) := hks
  have htl : tl ≤ 60 := htl
  have htx : ∀ i, 0 ≤ tx i ∧ tx i ≤ 127 := htx
  have hk : Sok S := hko.1
  have hc8 := hk.c
  have hkp : Pok S.cnt P.od P.en P.bc P.sz := hko.2.1
  have hp8 : P.sz ≤ 8 := hkp.1
  have hpb : P.bc ≤ P.sz := hkp.2.1
  have hA0 := hR.c
  have hF : Fr h h m (m + 19) := Fr.rf
  refine q_beginI (L := [some (vR m), some (vI j0), none, none, none, none, none]) rfl ?_
  refine q_aload_n (pc' := 1) (dk_at dkX6_latestRelease 0 rfl) rfl rfl ?_
  refine q_aload_n (pc' := 2) (dk_at dkX6_latestRelease 1 rfl) rfl rfl ?_
  refine q_iload_n (pc' := 3) (dk_at dkX6_latestRelease 2 rfl) rfl rfl ?_
  refine r_cVI (pc' := 6) (As := [vI j0]) (S := [vR m]) cv_RX6_98 (dk_at dkX6_latestRelease 3 rfl) hM.obj rfl (k_M_isJob (d := 1) (by omega) hR hc8 (by omega) hM) (by omega) (Nat.zero_le _) (Nat.zero_le _) rfl (Nat.le_of_ble_eq_true rfl) rfl (Nat.le_of_ble_eq_true rfl) rfl (fun xx1 hh2 hphh2 => ?_)
  obtain ⟨qq3, y3⟩ := hphh2
  rw [qq3]
  have yr3 := y3.r
  refine q_iconst (pc' := 7) (dk_at dkX6_latestRelease 4 rfl) rfl ?_
  refine r_cVI (pc' := 10) (As := [vI xx1, vI 1]) (S := []) cv_RX6_91 (dk_at dkX6_latestRelease 5 rfl) hM.obj rfl (k_M_goes (d := 0) (by omega) (by omega) hM) (by omega) (Nat.zero_le _) (Nat.zero_le _) rfl (Nat.le_of_ble_eq_true rfl) rfl (Nat.le_of_ble_eq_true rfl) rfl (fun xx4 hh5 hphh5 => ?_)
  obtain ⟨y7, hM, hGf⟩ := hphh5
  have hF := hF.tr hGf (by omega)
  have yr7 := y7.r
  refine q_if_ne (tgt := 15) (pc' := 13) (dk_at dkX6_latestRelease 6 rfl) rfl rfl (by omega) (fun c10 => ?_) (fun c10 => ?_)
  · have yy := y7.t (by omega)
    rw [if_neg (by omega), if_neg (by omega)] at hM
    have yw := y3.t (by omega)
    have yw : 0 ≤ j0 ∧ j0 < (S.cnt : Int) := yw
    obtain ⟨j, rfl⟩ : ∃ z : Nat, j0 = (z : Int) := ⟨j0.toNat, by omega⟩
    have hj : j < S.cnt := by omega
    obtain ⟨c1, c2, c3, c4⟩ := hcl yw
    rw [Int.toNat_natCast] at c1 c2 c3 c4
    have v2 := hk.v 2 j
    obtain ⟨r0, er⟩ : ∃ z : Nat, S.V 2 j = (z : Int) := ⟨(S.V 2 j).toNat, by omega⟩
    have v2 : S.V 2 j ≤ 300 := v2.2.2.2.2.1 rfl
    have hv0 : A (1 + 5 * j + 2) = (r0 : Int) := by rw [hR.v (by omega) hj]; exact er
    refine q_iconst (pc' := 16) (dk_at dkX6_latestRelease 9 rfl) rfl ?_
    refine q_iconst (pc' := 17) (dk_at dkX6_latestRelease 10 rfl) rfl ?_
    refine q_iload_n (pc' := 18) (dk_at dkX6_latestRelease 11 rfl) rfl rfl ?_
    refine q_imul (pc' := 19) (dk_at dkX6_latestRelease 12 rfl) rfl ?_
    refine q_iadd (pc' := 20) (dk_at dkX6_latestRelease 13 rfl) rfl ?_
    refine q_iconst (pc' := 21) (dk_at dkX6_latestRelease 14 rfl) rfl ?_
    refine q_iadd (pc' := 22) (dk_at dkX6_latestRelease 15 rfl) rfl ?_
    rw [show ((1 + (5 * (j : Int))) + 2) = ((1 + 5 * j + 2 : Nat) : Int) by omega]
    refine q_istore_n (pc' := 23) (L' := [some (vR m), some (vI (j : Int)), some (vI ((1 + 5 * j + 2 : Nat) : Int)), none, none, none, none]) (dk_at dkX6_latestRelease 16 rfl) (by decide) rfl rfl ?_
    refine q_aload_n (pc' := 24) (dk_at dkX6_latestRelease 17 rfl) rfl rfl ?_
    refine r_getf (pc' := 27) fl_RX6_7 (dk_at dkX6_latestRelease 18 rfl) hM.obj rfl rfl ?_
    refine q_iload_n (pc' := 28) (dk_at dkX6_latestRelease 19 rfl) rfl rfl ?_
    refine r_iald (pc' := 29) (dk_at dkX6_latestRelease 20 rfl) hM.all (1 + 5 * j + 2) (by omega) (by omega) (by decide) rfl ?_
    rw [hv0]
    refine q_istore_n (pc' := 30) (L' := [some (vR m), some (vI (j : Int)), some (vI ((1 + 5 * j + 2 : Nat) : Int)), some (vI (r0 : Int)), none, none, none]) (dk_at dkX6_latestRelease 21 rfl) (by decide) rfl rfl ?_
    refine q_aload_n (pc' := 31) (dk_at dkX6_latestRelease 22 rfl) rfl rfl ?_
    refine r_cVI (pc' := 34) (As := []) (S := []) cv_RX6_250 (dk_at dkX6_latestRelease 23 rfl) hM.obj rfl (k_M_best (d := 20) (S := S) (by omega) hR hk hL hM) (by omega) (Nat.zero_le _) (Nat.zero_le _) rfl (Nat.le_of_ble_eq_true rfl) rfl (Nat.le_of_ble_eq_true rfl) rfl (fun xx6 hh7 hphh7 => ?_)
    obtain ⟨ex1, exr, le1, fr1, un1, sF1, sR1, sT1, nf1, ne1, nc1, hM, hL, hGf⟩ := hphh7
    have hF := hF.tr hGf (by omega)
    refine q_istore (pc' := 36) (L' := [some (vR m), some (vI (j : Int)), some (vI ((1 + 5 * j + 2 : Nat) : Int)), some (vI (r0 : Int)), some (vI xx6), none, none]) (dk_at dkX6_latestRelease 24 rfl) (by decide) rfl rfl ?_
    refine q_iload_n (pc' := 37) (dk_at dkX6_latestRelease 25 rfl) rfl rfl ?_
    refine q_istore (pc' := 39) (L' := [some (vR m), some (vI (j : Int)), some (vI ((1 + 5 * j + 2 : Nat) : Int)), some (vI (r0 : Int)), some (vI xx6), some (vI (r0 : Int)), none]) (dk_at dkX6_latestRelease 26 rfl) (by decide) rfl rfl ?_
    refine q_iconst (pc' := 40) (dk_at dkX6_latestRelease 27 rfl) rfl ?_
    refine q_istore (pc' := 42) (L' := [some (vR m), some (vI (j : Int)), some (vI ((1 + 5 * j + 2 : Nat) : Int)), some (vI (r0 : Int)), some (vI xx6), some (vI (r0 : Int)), some (vI 1)]) (dk_at dkX6_latestRelease 28 rfl) (by decide) rfl rfl ?_
    refine QNI_mono (l_lr (h := h) (vn := vn) hd hR hk hc8 hj ex1.symm exr hv0 (by omega) (by omega) (fun q a b => c3 q (by omega) b) (by rw [← er]; exact c4) 400 r0 1 _ _ _ _ _ _ _ _ _ _ _ (by omega) (by omega) (by omega) (Or.inl rfl) (fun i _ => rfl) hL hM hF) ?_
    rintro v h2 ⟨e, A1, _, _, _, _, _, _, _, _, _, hM, hA, hL, hF⟩
    have hR2 := hR.cong (fun k _ => hA k) hc8
    have hP2 := hP.cong (fun k _ _ => hA k) hp8
    exact Or.inl ⟨by exact yw, e, ⟨_, _, _, _, _, _, _, _, _, _, _, _, _, _, _, _, _, _, _, _, _, _, _, hM, ⟨hR2, hP2⟩, hSv, hTx, hL⟩, hF⟩
  · refine q_iconst (pc' := 14) (dk_at dkX6_latestRelease 7 rfl) rfl ?_
    refine r_iret rfl (dk_at dkX6_latestRelease 8 rfl) ?_
    rw [if_pos (by have := y7.f (by omega); omega)] at hM
    exact Or.inr ⟨by have := y7.f (by omega); exact y3.f (by have := y3.r; omega), ⟨_, _, _, _, _, _, _, _, _, _, _, _, _, _, _, _, _, _, _, _, _, _, _, hM, ⟨hR, hP⟩, hSv, hTx, hL⟩, hF⟩
