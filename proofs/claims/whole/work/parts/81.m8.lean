/-! BatchMachineModel: planned, total -/
set_option maxHeartbeats 4000000 in
set_option maxRecDepth 100000 in
theorem l_pln {d n : Nat} {h : PH} {m : Nat} {S : Shp} {P : PlS} {jn w : Nat} {x3 : Int} {A sd sq op ss es bo su se tx ba le fr un sF sR sT ad : Nat → Int} {sm th bm tl nf ne nc : Int} (hd : 1 ≤ d) (hR : MR A S) (hk : Sok S) (hj : jn < S.cnt) (hw : w < 4) (hp8 : P.sz ≤ 8) (hc8 : S.cnt ≤ 8) (hkp : Pok S.cnt P.od P.en P.bc P.sz) (hS : SqP sq op P) (hT : TmM S P P.bc ss es bo su se) (hM : isModel n h m A sd sm th sq op (P.sz : Int) ss es bo su se bm tx tl ba le fr un nf ne nc sF sR sT ad) : ∀ (c : Nat) (k : Nat) (x5 : Option PV), (k + c = P.sz) → (∀ q, q < k → jb P.od q ≠ jn) → QN mX6_planned d (FI n (fun x h' => h' = h ∧ pvS S P w jn x)) 31 [some (vR m), some (vI (jn : Int)), some (vI (w : Int)), some (vI x3), some (vI (k : Int)), x5] [] n h := by
  intro c
  induction c with
  | zero =>
    intro k x5 hc hno
    refine q_iload (pc' := 33) (dk_at dkX6_planned 18 rfl) rfl rfl ?_
    refine q_aload_n (pc' := 34) (dk_at dkX6_planned 19 rfl) rfl rfl ?_
    refine r_getf (pc' := 37) fl_RX6_119 (dk_at dkX6_planned 20 rfl) hM.obj rfl rfl ?_
    refine q_icmp_ge (tgt := 124) (pc' := 40) (dk_at dkX6_planned 21 rfl) rfl rfl (by omega) (by omega) (fun c37 => ?_) (fun c37 => ?_)
    · refine q_iconst (pc' := 125) (dk_at dkX6_planned 67 rfl) rfl ?_
      refine r_iret rfl (dk_at dkX6_planned 68 rfl) ?_
      refine ⟨rfl, Or.inr ⟨fun q q1 => hno q (by omega), rfl⟩⟩
    · exfalso
      omega
  | succ c ih =>
    intro k x5 hc hno
    refine q_iload (pc' := 33) (dk_at dkX6_planned 18 rfl) rfl rfl ?_
    refine q_aload_n (pc' := 34) (dk_at dkX6_planned 19 rfl) rfl rfl ?_
    refine r_getf (pc' := 37) fl_RX6_119 (dk_at dkX6_planned 20 rfl) hM.obj rfl rfl ?_
    refine q_icmp_ge (tgt := 124) (pc' := 40) (dk_at dkX6_planned 21 rfl) rfl rfl (by omega) (by omega) (fun c37 => ?_) (fun c37 => ?_)
    · refine q_iconst (pc' := 125) (dk_at dkX6_planned 67 rfl) rfl ?_
      refine r_iret rfl (dk_at dkX6_planned 68 rfl) ?_
      refine ⟨rfl, Or.inr ⟨fun q q1 => hno q (by omega), rfl⟩⟩
    · refine q_aload_n (pc' := 41) (dk_at dkX6_planned 22 rfl) rfl rfl ?_
      refine r_getf (pc' := 44) fl_RX6_16 (dk_at dkX6_planned 23 rfl) hM.obj rfl rfl ?_
      refine q_iload (pc' := 46) (dk_at dkX6_planned 24 rfl) rfl rfl ?_
      refine r_iald (pc' := 47) (dk_at dkX6_planned 25 rfl) hM.sequence k (by omega) (by omega) (by decide) rfl ?_
      have hok := hS.1 k (by omega)
      have hor := hkp.2.2.1 k
      rw [hok]
      refine q_iload_n (pc' := 48) (dk_at dkX6_planned 26 rfl) rfl rfl ?_
      refine q_icmp_ne (tgt := 118) (pc' := 51) (dk_at dkX6_planned 27 rfl) rfl rfl (by omega) (by omega) (fun c48 => ?_) (fun c48 => ?_)
      · refine q_iinc (pc' := 121) (L' := [some (vR m), some (vI (jn : Int)), some (vI (w : Int)), some (vI x3), some (vI ((k : Int) + 1)), x5]) (dk_at dkX6_planned 65 rfl) (by decide) rfl rfl rfl ?_
        rw [show ((k : Int) + 1) = ((k + 1 : Nat) : Int) by omega]
        refine q_goto (tgt := 31) (dk_at dkX6_planned 66 rfl) rfl ?_
        refine ih (k + 1) _ (by omega) (fun q hq => ?_)
        by_cases z : q = k
        · rw [z]; unfold jb; omega
        · exact hno q (by omega)
      · have hti := hT.1 k (by rw [hkp.2.2.2.2.1]; omega)
        have hcm := cmK_2k hk hkp (k := k) (by omega)
        have hes := hti.2.1
        refine q_aload_n (pc' := 52) (dk_at dkX6_planned 28 rfl) rfl rfl ?_
        refine r_getf (pc' := 55) fl_RX6_25 (dk_at dkX6_planned 29 rfl) hM.obj rfl rfl ?_
        refine q_iload (pc' := 57) (dk_at dkX6_planned 30 rfl) rfl rfl ?_
        refine r_iald (pc' := 58) (dk_at dkX6_planned 31 rfl) hM.ends k (by omega) (by omega) (by decide) rfl ?_
        refine q_aload_n (pc' := 59) (dk_at dkX6_planned 32 rfl) rfl rfl ?_
        refine q_iload_n (pc' := 60) (dk_at dkX6_planned 33 rfl) rfl rfl ?_
        refine q_iconst (pc' := 61) (dk_at dkX6_planned 34 rfl) rfl ?_
        refine r_cVI (pc' := 64) (As := [vI (jn : Int), vI 3]) (S := [vI (es k)]) cv_RX6_104 (dk_at dkX6_planned 35 rfl) hM.obj rfl (k_M_of (d := 0) (j := jn) (w := 3) hR hk.c rfl rfl hj (by omega) hM) (by omega) (Nat.zero_le _) (Nat.zero_le _) rfl (Nat.le_of_ble_eq_true rfl) rfl (Nat.le_of_ble_eq_true rfl) rfl (fun xx1 hh2 hphh2 => ?_)
        obtain ⟨qq3, rfl⟩ := hphh2
        rw [qq3]
        have hvd := hk.v 3 jn
        refine q_isub (pc' := 65) (dk_at dkX6_planned 36 rfl) rfl ?_
        refine q_istore (pc' := 67) (L' := [some (vR m), some (vI (jn : Int)), some (vI (w : Int)), some (vI x3), some (vI (k : Int)), some (vI ((es k) - (S.V 3 jn)))]) (dk_at dkX6_planned 37 rfl) (by decide) rfl rfl ?_
        refine q_iload_n (pc' := 68) (dk_at dkX6_planned 38 rfl) rfl rfl ?_
        refine q_if_ne (tgt := 81) (pc' := 71) (dk_at dkX6_planned 39 rfl) rfl rfl (by omega) (fun c68 => ?_) (fun c68 => ?_)
        · refine q_iload_n (pc' := 82) (dk_at dkX6_planned 45 rfl) rfl rfl ?_
          refine q_iconst (pc' := 83) (dk_at dkX6_planned 46 rfl) rfl ?_
          refine q_icmp_ne (tgt := 96) (pc' := 86) (dk_at dkX6_planned 47 rfl) rfl rfl (by omega) (by omega) (fun c83 => ?_) (fun c83 => ?_)
          · refine q_iload_n (pc' := 97) (dk_at dkX6_planned 53 rfl) rfl rfl ?_
            refine q_iconst (pc' := 98) (dk_at dkX6_planned 54 rfl) rfl ?_
            refine q_icmp_ne (tgt := 110) (pc' := 101) (dk_at dkX6_planned 55 rfl) rfl rfl (by omega) (by omega) (fun c98 => ?_) (fun c98 => ?_)
            · refine q_aload_n (pc' := 111) (dk_at dkX6_planned 60 rfl) rfl rfl ?_
              refine r_getf (pc' := 114) fl_RX6_28 (dk_at dkX6_planned 61 rfl) hM.obj rfl rfl ?_
              refine q_iload (pc' := 116) (dk_at dkX6_planned 62 rfl) rfl rfl ?_
              refine r_iald (pc' := 117) (dk_at dkX6_planned 63 rfl) hM.batchOf k (by omega) (by omega) (by decide) rfl ?_
              refine r_iret rfl (dk_at dkX6_planned 64 rfl) ?_
              refine ⟨rfl, Or.inl ⟨k, by omega, by unfold jb; omega, ?_⟩⟩
              have ejn : jb P.od k = jn := by unfold jb; omega
              unfold pvK
              rcases (show w = 0 ∨ w = 1 ∨ w = 2 ∨ w = 3 by omega) with rfl | rfl | rfl | rfl <;> first | (exfalso; omega; done) | exact hti.1 | exact hti.2.1 | exact hti.2.2 | (show _ = max 0 (cmK S P.od P.en P.bc k - S.V 3 (jb P.od k)); rw [ejn, hti.2.1])
            · refine q_iconst (pc' := 102) (dk_at dkX6_planned 56 rfl) rfl ?_
              refine q_iload (pc' := 104) (dk_at dkX6_planned 57 rfl) rfl rfl ?_
              refine r_cSI (pc' := 107) (As := [vI 0, vI ((es k) - (S.V 3 jn))]) (S := []) cs_RX6_143 (dk_at dkX6_planned 58 rfl) (k_M_later (d := 0) (by omega) (by omega)) (by omega) (Nat.zero_le _) (Nat.zero_le _) rfl (Nat.le_of_ble_eq_true rfl) rfl (Nat.le_of_ble_eq_true rfl) rfl (fun xx4 hh5 hphh5 => ?_)
              obtain ⟨qq6, rfl⟩ := hphh5
              rw [qq6]
              refine q_goto (tgt := 117) (dk_at dkX6_planned 59 rfl) rfl ?_
              refine r_iret rfl (dk_at dkX6_planned 64 rfl) ?_
              refine ⟨rfl, Or.inl ⟨k, by omega, by unfold jb; omega, ?_⟩⟩
              have ejn : jb P.od k = jn := by unfold jb; omega
              unfold pvK
              rcases (show w = 0 ∨ w = 1 ∨ w = 2 ∨ w = 3 by omega) with rfl | rfl | rfl | rfl <;> first | (exfalso; omega; done) | exact hti.1 | exact hti.2.1 | exact hti.2.2 | (show _ = max 0 (cmK S P.od P.en P.bc k - S.V 3 (jb P.od k)); rw [ejn, hti.2.1])
          · refine q_aload_n (pc' := 87) (dk_at dkX6_planned 48 rfl) rfl rfl ?_
            refine r_getf (pc' := 90) fl_RX6_25 (dk_at dkX6_planned 49 rfl) hM.obj rfl rfl ?_
            refine q_iload (pc' := 92) (dk_at dkX6_planned 50 rfl) rfl rfl ?_
            refine r_iald (pc' := 93) (dk_at dkX6_planned 51 rfl) hM.ends k (by omega) (by omega) (by decide) rfl ?_
            refine q_goto (tgt := 117) (dk_at dkX6_planned 52 rfl) rfl ?_
            refine r_iret rfl (dk_at dkX6_planned 64 rfl) ?_
            refine ⟨rfl, Or.inl ⟨k, by omega, by unfold jb; omega, ?_⟩⟩
            have ejn : jb P.od k = jn := by unfold jb; omega
            unfold pvK
            rcases (show w = 0 ∨ w = 1 ∨ w = 2 ∨ w = 3 by omega) with rfl | rfl | rfl | rfl <;> first | (exfalso; omega; done) | exact hti.1 | exact hti.2.1 | exact hti.2.2 | (show _ = max 0 (cmK S P.od P.en P.bc k - S.V 3 (jb P.od k)); rw [ejn, hti.2.1])
        · refine q_aload_n (pc' := 72) (dk_at dkX6_planned 40 rfl) rfl rfl ?_
          refine r_getf (pc' := 75) fl_RX6_22 (dk_at dkX6_planned 41 rfl) hM.obj rfl rfl ?_
          refine q_iload (pc' := 77) (dk_at dkX6_planned 42 rfl) rfl rfl ?_
          refine r_iald (pc' := 78) (dk_at dkX6_planned 43 rfl) hM.starts k (by omega) (by omega) (by decide) rfl ?_
          refine q_goto (tgt := 117) (dk_at dkX6_planned 44 rfl) rfl ?_
          refine r_iret rfl (dk_at dkX6_planned 64 rfl) ?_
          refine ⟨rfl, Or.inl ⟨k, by omega, by unfold jb; omega, ?_⟩⟩
          have ejn : jb P.od k = jn := by unfold jb; omega
          unfold pvK
          rcases (show w = 0 ∨ w = 1 ∨ w = 2 ∨ w = 3 by omega) with rfl | rfl | rfl | rfl <;> first | (exfalso; omega; done) | exact hti.1 | exact hti.2.1 | exact hti.2.2 | (show _ = max 0 (cmK S P.od P.en P.bc k - S.V 3 (jb P.od k)); rw [ejn, hti.2.1])

set_option maxHeartbeats 4000000 in
set_option maxRecDepth 100000 in
theorem k_M_planned {d n : Nat} {h : PH} {m : Nat} {S : Shp} {P : PlS} {kn bs : Int} {sv tl : Nat} {x : Nat → Snp} {tx : Nat → Int} {th : Int} {j w : Int} (hd : 30 ≤ d) (hI : MOI n h m th ((S, P, kn, bs), sv, x, tx, tl)) (hO : BOk ((S, P, kn, bs), sv, x, tx, tl)) (hi1 : IR j) (hi2 : IR w) : CtrI mX6_planned d [vR m, vI j, vI w] n h (fun v h' => (jOk S j ∧ (0 ≤ w ∧ w < 4) ∧ pvS S P w.toNat j.toNat v ∧ MOI n h' m 0 ((S, P, kn, bs), sv, x, tx, tl) ∧ Fr h h' m (m + 19)) ∨ (¬ jOk S j ∧ MOI n h' m 1 ((S, P, kn, bs), sv, x, tx, tl) ∧ Fr h h' m (m + 19)) ∨ (jOk S j ∧ ¬ (0 ≤ w ∧ w < 4) ∧ MOI n h' m 2 ((S, P, kn, bs), sv, x, tx, tl) ∧ Fr h h' m (m + 19))) := by
  obtain ⟨A, sd, sq, op, ss, es, bo, su, se, tx1, ba, le, fr, un, sF, sR, sT, ad, l0, bm, nf, ne, nc, hM, ⟨hR, hP⟩, hSv, hTx, hL⟩ := hI
  have hM : isModel n h m A sd (sv : Int) th sq op l0 ss es bo su se bm tx1 (tl : Int) ba le fr un nf ne nc sF sR sT ad := hM
  have hR : MR A S := hR
  have hP : MP A P := hP
  have hSv : MSv sd sv x := hSv
  have hTx : ∀ i, i < tl → tx1 i = tx i := hTx
  obtain ⟨hko, hsv, hks, htl, htx⟩ := hO
  have hko : SnOk (S, P, kn, bs) := hko
  have hsv : sv ≤ 4 := hsv
  have hks : ∀ i, i < sv → SnOk (x i) := hks
  have htl : tl ≤ 60 := htl
  have htx : ∀ i, 0 ≤ tx i ∧ tx i ≤ 127 := htx
  have hk : Sok S := hko.1
  have hc8 := hk.c
  have hkp : Pok S.cnt P.od P.en P.bc P.sz := hko.2.1
  have hp8 : P.sz ≤ 8 := hkp.1
  have hpb : P.bc ≤ P.sz := hkp.2.1
  have hA0 := hR.c
  have hF : Fr h h m (m + 19) := Fr.rf
  refine q_beginI (L := [some (vR m), some (vI j), some (vI w), none, none, none]) rfl ?_
  refine q_aload_n (pc' := 1) (dk_at dkX6_planned 0 rfl) rfl rfl ?_
  refine q_aload_n (pc' := 2) (dk_at dkX6_planned 1 rfl) rfl rfl ?_
  refine q_iload_n (pc' := 3) (dk_at dkX6_planned 2 rfl) rfl rfl ?_
  refine r_cVI (pc' := 6) (As := [vI j]) (S := [vR m]) cv_RX6_98 (dk_at dkX6_planned 3 rfl) hM.obj rfl (k_M_isJob (d := 1) (by omega) hR hc8 (by omega) hM) (by omega) (Nat.zero_le _) (Nat.zero_le _) rfl (Nat.le_of_ble_eq_true rfl) rfl (Nat.le_of_ble_eq_true rfl) rfl (fun xx1 hh2 hphh2 => ?_)
  obtain ⟨qq3, y3⟩ := hphh2
  rw [qq3]
  have yr3 := y3.r
  refine q_iload_n (pc' := 7) (dk_at dkX6_planned 4 rfl) rfl rfl ?_
  refine q_i2l (pc' := 8) (dk_at dkX6_planned 5 rfl) (by omega) rfl ?_
  refine q_lconst0 (pc' := 9) (dk_at dkX6_planned 6 rfl) rfl ?_
  refine q_ldc2 (pc' := 12) (z := 3) kc_RX6_77 (by decide +kernel) (dk_at dkX6_planned 7 rfl) rfl ?_
  refine r_cSI (pc' := 15) (As := [vJ w, vJ 0, vJ 3]) (S := [vI xx1, vR m]) cs_RX6_73 (dk_at dkX6_planned 8 rfl) (k_M_in (d := 0) (by omega) (by omega) (by omega)) (by omega) (Nat.zero_le _) (Nat.zero_le _) rfl (Nat.le_of_ble_eq_true rfl) rfl (Nat.le_of_ble_eq_true rfl) rfl (fun xx4 hh5 hphh5 => ?_)
  obtain ⟨qq6, y12⟩ := hphh5
  rw [qq6]
  have yr12 := y12.r
  refine r_cVI (pc' := 18) (As := [vI xx1, vI xx4]) (S := []) cv_RX6_91 (dk_at dkX6_planned 9 rfl) hM.obj rfl (k_M_goes (d := 0) (by omega) (by omega) hM) (by omega) (Nat.zero_le _) (Nat.zero_le _) rfl (Nat.le_of_ble_eq_true rfl) rfl (Nat.le_of_ble_eq_true rfl) rfl (fun xx7 hh8 hphh8 => ?_)
  obtain ⟨y15, hM, hGf⟩ := hphh8
  have hF := hF.tr hGf (by omega)
  have yr15 := y15.r
  refine q_if_ne (tgt := 23) (pc' := 21) (dk_at dkX6_planned 10 rfl) rfl rfl (by omega) (fun c18 => ?_) (fun c18 => ?_)
  · have yy := y15.t (by omega)
    rw [if_neg (by omega), if_neg (by omega)] at hM
    have yj : 0 ≤ j ∧ j < (S.cnt : Int) := y3.t (by omega)
    have yw := y12.t (by omega)
    obtain ⟨jn, rfl⟩ : ∃ z : Nat, j = (z : Int) := ⟨j.toNat, by omega⟩
    obtain ⟨wn, rfl⟩ : ∃ z : Nat, w = (z : Int) := ⟨w.toNat, by omega⟩
    refine q_aload_n (pc' := 24) (dk_at dkX6_planned 13 rfl) rfl rfl ?_
    refine r_cVI (pc' := 27) (As := []) (S := []) cv_RX6_189 (dk_at dkX6_planned 14 rfl) hM.obj rfl (k_M_runsKept (d := 6) (by omega) hR hk hkp hP hM) (by omega) (Nat.zero_le _) (Nat.zero_le _) rfl (Nat.le_of_ble_eq_true rfl) rfl (Nat.le_of_ble_eq_true rfl) rfl (fun xx9 hh10 hphh10 => ?_)
    obtain ⟨hx, sq1, op1, ss1, es1, bo1, su1, se1, hM, hS, hT, hGf⟩ := hphh10
    have hF := hF.tr hGf (by omega)
    have hxr := cvS_r hk hkp
    subst hx
    refine q_istore_n (pc' := 28) (L' := [some (vR m), some (vI (jn : Int)), some (vI (wn : Int)), some (vI (cvS S P)), none, none]) (dk_at dkX6_planned 15 rfl) (by decide) rfl rfl ?_
    refine q_iconst (pc' := 29) (dk_at dkX6_planned 16 rfl) rfl ?_
    refine q_istore (pc' := 31) (L' := [some (vR m), some (vI (jn : Int)), some (vI (wn : Int)), some (vI (cvS S P)), some (vI 0), none]) (dk_at dkX6_planned 17 rfl) (by decide) rfl rfl ?_
    refine QNI_mono (l_pln (w := wn) (by omega) hR hk (by omega) (by omega) hp8 hc8 hkp hS hT hM P.sz 0 none (by omega) (fun q hq => absurd hq (Nat.not_lt_zero _))) (fun v h' z => ?_)
    obtain ⟨rfl, z⟩ := z
    exact Or.inl ⟨yj, by omega, z, ⟨_, _, _, _, _, _, _, _, _, _, _, _, _, _, _, _, _, _, _, _, _, _, _, hM, ⟨hR, hP⟩, hSv, hTx, hL⟩, hF⟩
  · refine q_iconst (pc' := 22) (dk_at dkX6_planned 11 rfl) rfl ?_
    refine r_iret rfl (dk_at dkX6_planned 12 rfl) ?_
    by_cases z : xx1 = 0
    · rw [if_pos z] at hM
      exact Or.inr (Or.inl ⟨y3.f z, ⟨_, _, _, _, _, _, _, _, _, _, _, _, _, _, _, _, _, _, _, _, _, _, _, hM, ⟨hR, hP⟩, hSv, hTx, hL⟩, hF⟩)
    · rw [if_neg z, if_pos (by have := y15.f (by omega); omega)] at hM
      exact Or.inr (Or.inr ⟨y3.t z, by have := y15.f (by omega); have := y3.r; have := y12.f (by have := y12.r; omega); omega, ⟨_, _, _, _, _, _, _, _, _, _, _, _, _, _, _, _, _, _, _, _, _, _, _, hM, ⟨hR, hP⟩, hSv, hTx, hL⟩, hF⟩)

set_option maxHeartbeats 4000000 in
set_option maxRecDepth 100000 in
theorem l_tot1 {d n : Nat} {h : PH} {m : Nat} {S : Shp} {P : PlS} {F : FT} {w x2 : Int} {A sd sq op ss es bo su se tx ba le fr un sF sR sT ad : Nat → Int} {sm th tl nf ne nc : Int} (hd : 1 ≤ d) (hR : MR A S) (hk : Sok S) (hp8 : P.sz ≤ 8) (hpb : P.bc ≤ P.sz) (hkp : Pok S.cnt P.od P.en P.bc P.sz) (hS : SqP sq op P) (hT : TmM S P P.bc ss es bo su se) (hM : isModel n h m A sd sm th sq op (P.sz : Int) ss es bo su se (P.bc : Int) tx tl ba le fr un nf ne nc sF sR sT ad) (hex : ∀ i : Int, QN mX6_total d F 65 [some (vR m), some (vI w), some (vI x2), some (vI (stS S P.od P.en P.bc)), some (vI 0), some (vI i)] [] n h) : ∀ (c : Nat) (b : Nat), (b + c = P.bc) → QN mX6_total d F 32 [some (vR m), some (vI w), some (vI x2), some (vI (stS S P.od P.en b)), some (vI 0), some (vI (b : Int))] [] n h := by
  intro c
  induction c with
  | zero =>
    intro b hc
    refine q_iload (pc' := 34) (dk_at dkX6_total 20 rfl) rfl rfl ?_
    refine q_aload_n (pc' := 35) (dk_at dkX6_total 21 rfl) rfl rfl ?_
    refine r_getf (pc' := 38) fl_RX6_126 (dk_at dkX6_total 22 rfl) hM.obj rfl rfl ?_
    refine q_icmp_ge (tgt := 65) (pc' := 41) (dk_at dkX6_total 23 rfl) rfl rfl (by omega) (by omega) (fun c38 => ?_) (fun c38 => ?_)
    · first | (exfalso; omega; done) | (obtain rfl : b = P.bc := (by omega); exact hex _)
    · exfalso
      omega
  | succ c ih =>
    intro b hc
    refine q_iload (pc' := 34) (dk_at dkX6_total 20 rfl) rfl rfl ?_
    refine q_aload_n (pc' := 35) (dk_at dkX6_total 21 rfl) rfl rfl ?_
    refine r_getf (pc' := 38) fl_RX6_126 (dk_at dkX6_total 22 rfl) hM.obj rfl rfl ?_
    refine q_icmp_ge (tgt := 65) (pc' := 41) (dk_at dkX6_total 23 rfl) rfl rfl (by omega) (by omega) (fun c38 => ?_) (fun c38 => ?_)
    · first | (exfalso; omega; done) | (obtain rfl : b = P.bc := (by omega); exact hex _)
    · have htb := hT.2 b (by omega)
      have hsr := stS_r hk.t (o := P.od) (e := P.en) b
      have hfr := frB_r hk.v hk.t hkp b (by omega)
      have hrr := rdy_r hk.v P.od (bgn P.en b) (P.en b).toNat
      have hgb := hkp.bg b (by omega)
      have hss : 0 ≤ sst S P.od (bgn P.en b) (P.en b).toNat (frB S P.od P.en b) ∧ sst S P.od (bgn P.en b) (P.en b).toNat (frB S P.od P.en b) ≤ 2000 := by unfold sst; split <;> omega
      have hst : 0 ≤ stp S P.od (bgn P.en b) (lstB S P.od P.en b) ∧ stp S P.od (bgn P.en b) (lstB S P.od P.en b) ≤ 60 := hk.t _ _
      refine q_iload_n (pc' := 42) (dk_at dkX6_total 24 rfl) rfl rfl ?_
      refine q_aload_n (pc' := 43) (dk_at dkX6_total 25 rfl) rfl rfl ?_
      refine r_getf (pc' := 46) fl_RX6_34 (dk_at dkX6_total 26 rfl) hM.obj rfl rfl ?_
      refine q_iload (pc' := 48) (dk_at dkX6_total 27 rfl) rfl rfl ?_
      refine r_iald (pc' := 49) (dk_at dkX6_total 28 rfl) hM.setupEnd b (by omega) (by omega) (by decide) rfl ?_
      refine q_aload_n (pc' := 50) (dk_at dkX6_total 29 rfl) rfl rfl ?_
      refine r_getf (pc' := 53) fl_RX6_31 (dk_at dkX6_total 30 rfl) hM.obj rfl rfl ?_
      refine q_iload (pc' := 55) (dk_at dkX6_total 31 rfl) rfl rfl ?_
      refine r_iald (pc' := 56) (dk_at dkX6_total 32 rfl) hM.setupStart b (by omega) (by omega) (by decide) rfl ?_
      refine q_isub (pc' := 57) (dk_at dkX6_total 33 rfl) rfl ?_
      refine q_iadd (pc' := 58) (dk_at dkX6_total 34 rfl) rfl ?_
      refine q_istore_n (pc' := 59) (L' := [some (vR m), some (vI w), some (vI x2), some (vI ((stS S P.od P.en b) + ((se b) - (su b)))), some (vI 0), some (vI (b : Int))]) (dk_at dkX6_total 35 rfl) (by decide) rfl rfl ?_
      refine q_iinc (pc' := 62) (L' := [some (vR m), some (vI w), some (vI x2), some (vI ((stS S P.od P.en b) + ((se b) - (su b)))), some (vI 0), some (vI ((b : Int) + 1))]) (dk_at dkX6_total 36 rfl) (by decide) rfl rfl rfl ?_
      rw [show ((b : Int) + 1) = ((b + 1 : Nat) : Int) by omega]
      refine q_goto (tgt := 32) (dk_at dkX6_total 37 rfl) rfl ?_
      rw [show stS S P.od P.en b + (se b - su b) = stS S P.od P.en (b + 1) by show _ = stS S P.od P.en b + stp S P.od (bgn P.en b) (lstB S P.od P.en b); rw [htb.1, htb.2]; omega]
      exact ih (b + 1) (by omega)

set_option maxHeartbeats 4000000 in
set_option maxRecDepth 100000 in
theorem l_tot2 {d n : Nat} {h : PH} {m : Nat} {S : Shp} {P : PlS} {F : FT} {w x2 z : Int} {A sd sq op ss es bo su se tx ba le fr un sF sR sT ad : Nat → Int} {sm th tl nf ne nc : Int} (hd : 1 ≤ d) (hR : MR A S) (hk : Sok S) (hp8 : P.sz ≤ 8) (hpb : P.bc ≤ P.sz) (hkp : Pok S.cnt P.od P.en P.bc P.sz) (hS : SqP sq op P) (hT : TmM S P P.bc ss es bo su se) (hM : isModel n h m A sd sm th sq op (P.sz : Int) ss es bo su se (P.bc : Int) tx tl ba le fr un nf ne nc sF sR sT ad) (hex : ∀ i : Int, QN mX6_total d F 100 [some (vR m), some (vI w), some (vI x2), some (vI z), some (vI (tsum S P.od 0 P.sz)), some (vI i)] [] n h) : ∀ (c : Nat) (i : Nat), (i + c = P.sz) → QN mX6_total d F 68 [some (vR m), some (vI w), some (vI x2), some (vI z), some (vI (tsum S P.od 0 i)), some (vI (i : Int))] [] n h := by
  intro c
  induction c with
  | zero =>
    intro i hc
    refine q_iload (pc' := 70) (dk_at dkX6_total 40 rfl) rfl rfl ?_
    refine q_aload_n (pc' := 71) (dk_at dkX6_total 41 rfl) rfl rfl ?_
    refine r_getf (pc' := 74) fl_RX6_119 (dk_at dkX6_total 42 rfl) hM.obj rfl rfl ?_
    refine q_icmp_ge (tgt := 100) (pc' := 77) (dk_at dkX6_total 43 rfl) rfl rfl (by omega) (by omega) (fun c74 => ?_) (fun c74 => ?_)
    · first | (exfalso; omega; done) | (obtain rfl : i = P.sz := (by omega); exact hex _)
    · exfalso
      omega
  | succ c ih =>
    intro i hc
    refine q_iload (pc' := 70) (dk_at dkX6_total 40 rfl) rfl rfl ?_
    refine q_aload_n (pc' := 71) (dk_at dkX6_total 41 rfl) rfl rfl ?_
    refine r_getf (pc' := 74) fl_RX6_119 (dk_at dkX6_total 42 rfl) hM.obj rfl rfl ?_
    refine q_icmp_ge (tgt := 100) (pc' := 77) (dk_at dkX6_total 43 rfl) rfl rfl (by omega) (by omega) (fun c74 => ?_) (fun c74 => ?_)
    · first | (exfalso; omega; done) | (obtain rfl : i = P.sz := (by omega); exact hex _)
    · have htr := tsum_r hk.v (o := P.od) (be := 0) i
      refine q_iload (pc' := 79) (dk_at dkX6_total 44 rfl) rfl rfl ?_
      refine q_aload_n (pc' := 80) (dk_at dkX6_total 45 rfl) rfl rfl ?_
      refine q_aload_n (pc' := 81) (dk_at dkX6_total 46 rfl) rfl rfl ?_
      refine r_getf (pc' := 84) fl_RX6_16 (dk_at dkX6_total 47 rfl) hM.obj rfl rfl ?_
      refine q_iload (pc' := 86) (dk_at dkX6_total 48 rfl) rfl rfl ?_
      refine r_iald (pc' := 87) (dk_at dkX6_total 49 rfl) hM.sequence i (by omega) (by omega) (by decide) rfl ?_
      refine q_iconst (pc' := 88) (dk_at dkX6_total 50 rfl) rfl ?_
      refine r_cVI (pc' := 91) (As := [vI (sq i), vI 1]) (S := [vI (tsum S P.od 0 i)]) cv_RX6_104 (dk_at dkX6_total 51 rfl) hM.obj rfl (k_M_of (d := 0) (j := jb P.od i) (w := 1) hR hk.c (sqj hkp hS.1 i (by omega)).2 rfl (sqj hkp hS.1 i (by omega)).1 (by omega) hM) (by omega) (Nat.zero_le _) (Nat.zero_le _) rfl (Nat.le_of_ble_eq_true rfl) rfl (Nat.le_of_ble_eq_true rfl) rfl (fun xx1 hh2 hphh2 => ?_)
      obtain ⟨qq3, rfl⟩ := hphh2
      rw [qq3]
      have bb4 := hk.v 1 (jb P.od i)
      refine q_iadd (pc' := 92) (dk_at dkX6_total 52 rfl) rfl ?_
      refine q_istore (pc' := 94) (L' := [some (vR m), some (vI w), some (vI x2), some (vI z), some (vI ((tsum S P.od 0 i) + (S.V 1 (jb P.od i)))), some (vI (i : Int))]) (dk_at dkX6_total 53 rfl) (by decide) rfl rfl ?_
      refine q_iinc (pc' := 97) (L' := [some (vR m), some (vI w), some (vI x2), some (vI z), some (vI ((tsum S P.od 0 i) + (S.V 1 (jb P.od i)))), some (vI ((i : Int) + 1))]) (dk_at dkX6_total 54 rfl) (by decide) rfl rfl rfl ?_
      rw [show ((i : Int) + 1) = ((i + 1 : Nat) : Int) by omega]
      refine q_goto (tgt := 68) (dk_at dkX6_total 55 rfl) rfl ?_
      rw [show tsum S P.od 0 i + S.V 1 (jb P.od i) = tsum S P.od 0 (i + 1) by show _ = tsum S P.od 0 i + S.V 1 (jb P.od (0 + i)); rw [Nat.zero_add]]
      exact ih (i + 1) (by omega)

theorem bc_pos {c : Nat} {o e : Nat → Int} {bc m : Nat} (h : Pok c o e bc m) (hm : 0 < m) : 0 < bc := by
  rcases Nat.eq_zero_or_pos bc with z | z
  · have := h.2.2.2.2.1
    rw [z] at this
    have e0 : bgn e 0 = 0 := rfl
    omega
  · exact z
set_option maxHeartbeats 4000000 in
set_option maxRecDepth 100000 in
theorem k_M_total {d n : Nat} {h : PH} {m : Nat} {S : Shp} {P : PlS} {kn bs : Int} {sv tl : Nat} {x : Nat → Snp} {tx : Nat → Int} {th : Int} {w : Int} (hd : 30 ≤ d) (hI : MOI n h m th ((S, P, kn, bs), sv, x, tx, tl)) (hO : BOk ((S, P, kn, bs), sv, x, tx, tl)) (hi1 : IR w) : CtrI mX6_total d [vR m, vI w] n h (fun v h' => ((0 ≤ w ∧ w < 3) ∧ v = tvS S P w.toNat ∧ MOI n h' m 0 ((S, P, kn, bs), sv, x, tx, tl) ∧ Fr h h' m (m + 19)) ∨ (¬ (0 ≤ w ∧ w < 3) ∧ MOI n h' m 1 ((S, P, kn, bs), sv, x, tx, tl) ∧ Fr h h' m (m + 19))) := by
  obtain ⟨A, sd, sq, op, ss, es, bo, su, se, tx1, ba, le, fr, un, sF, sR, sT, ad, l0, bm, nf, ne, nc, hM, ⟨hR, hP⟩, hSv, hTx, hL⟩ := hI
  have hM : isModel n h m A sd (sv : Int) th sq op l0 ss es bo su se bm tx1 (tl : Int) ba le fr un nf ne nc sF sR sT ad := hM
  have hR : MR A S := hR
  have hP : MP A P := hP
  have hSv : MSv sd sv x := hSv
  have hTx : ∀ i, i < tl → tx1 i = tx i := hTx
  obtain ⟨hko, hsv, hks, htl, htx⟩ := hO
  have hko : SnOk (S, P, kn, bs) := hko
  have hsv : sv ≤ 4 := hsv
  have hks : ∀ i, i < sv → SnOk (x i) := hks
  have htl : tl ≤ 60 := htl
  have htx : ∀ i, 0 ≤ tx i ∧ tx i ≤ 127 := htx
  have hk : Sok S := hko.1
  have hc8 := hk.c
  have hkp : Pok S.cnt P.od P.en P.bc P.sz := hko.2.1
  have hp8 : P.sz ≤ 8 := hkp.1
  have hpb : P.bc ≤ P.sz := hkp.2.1
  have hA0 := hR.c
  have hF : Fr h h m (m + 19) := Fr.rf
  refine q_beginI (L := [some (vR m), some (vI w), none, none, none, none]) rfl ?_
  refine q_aload_n (pc' := 1) (dk_at dkX6_total 0 rfl) rfl rfl ?_
  refine q_iload_n (pc' := 2) (dk_at dkX6_total 1 rfl) rfl rfl ?_
  refine q_i2l (pc' := 3) (dk_at dkX6_total 2 rfl) (by omega) rfl ?_
  refine q_lconst0 (pc' := 4) (dk_at dkX6_total 3 rfl) rfl ?_
  refine q_ldc2 (pc' := 7) (z := 2) kc_RX6_198 (by decide +kernel) (dk_at dkX6_total 4 rfl) rfl ?_
  refine r_cSI (pc' := 10) (As := [vJ w, vJ 0, vJ 2]) (S := [vR m]) cs_RX6_73 (dk_at dkX6_total 5 rfl) (k_M_in (d := 0) (by omega) (by omega) (by omega)) (by omega) (Nat.zero_le _) (Nat.zero_le _) rfl (Nat.le_of_ble_eq_true rfl) rfl (Nat.le_of_ble_eq_true rfl) rfl (fun xx1 hh2 hphh2 => ?_)
  obtain ⟨qq3, y7⟩ := hphh2
  rw [qq3]
  have yr7 := y7.r
  refine q_iconst (pc' := 11) (dk_at dkX6_total 6 rfl) rfl ?_
  refine r_cVI (pc' := 14) (As := [vI xx1, vI 1]) (S := []) cv_RX6_91 (dk_at dkX6_total 7 rfl) hM.obj rfl (k_M_goes (d := 0) (by omega) (by omega) hM) (by omega) (Nat.zero_le _) (Nat.zero_le _) rfl (Nat.le_of_ble_eq_true rfl) rfl (Nat.le_of_ble_eq_true rfl) rfl (fun xx4 hh5 hphh5 => ?_)
  obtain ⟨y11, hM, hGf⟩ := hphh5
  have hF := hF.tr hGf (by omega)
  have yr11 := y11.r
  refine q_if_ne (tgt := 19) (pc' := 17) (dk_at dkX6_total 8 rfl) rfl rfl (by omega) (fun c14 => ?_) (fun c14 => ?_)
  · have yy := y11.t (by omega)
    rw [if_neg (by omega), if_neg (by omega)] at hM
    have yw := y7.t (by omega)
    refine q_aload_n (pc' := 20) (dk_at dkX6_total 11 rfl) rfl rfl ?_
    refine r_cVI (pc' := 23) (As := []) (S := []) cv_RX6_189 (dk_at dkX6_total 12 rfl) hM.obj rfl (k_M_runsKept (d := 6) (by omega) hR hk hkp hP hM) (by omega) (Nat.zero_le _) (Nat.zero_le _) rfl (Nat.le_of_ble_eq_true rfl) rfl (Nat.le_of_ble_eq_true rfl) rfl (fun xx6 hh7 hphh7 => ?_)
    obtain ⟨hx, sq1, op1, ss1, es1, bo1, su1, se1, hM, hS, hT, hGf⟩ := hphh7
    have hF := hF.tr hGf (by omega)
    have hxr := cvS_r hk hkp
    subst hx
    refine q_istore_n (pc' := 24) (L' := [some (vR m), some (vI w), some (vI (cvS S P)), none, none, none]) (dk_at dkX6_total 13 rfl) (by decide) rfl rfl ?_
    refine q_iconst (pc' := 25) (dk_at dkX6_total 14 rfl) rfl ?_
    refine q_istore_n (pc' := 26) (L' := [some (vR m), some (vI w), some (vI (cvS S P)), some (vI 0), none, none]) (dk_at dkX6_total 15 rfl) (by decide) rfl rfl ?_
    refine q_iconst (pc' := 27) (dk_at dkX6_total 16 rfl) rfl ?_
    refine q_istore (pc' := 29) (L' := [some (vR m), some (vI w), some (vI (cvS S P)), some (vI 0), some (vI 0), none]) (dk_at dkX6_total 17 rfl) (by decide) rfl rfl ?_
    refine q_iconst (pc' := 30) (dk_at dkX6_total 18 rfl) rfl ?_
    refine q_istore (pc' := 32) (L' := [some (vR m), some (vI w), some (vI (cvS S P)), some (vI 0), some (vI 0), some (vI 0)]) (dk_at dkX6_total 19 rfl) (by decide) rfl rfl ?_
    refine l_tot1 (F := _) (by omega) hR hk hp8 hpb hkp hS hT hM ?_ P.bc 0 (by omega)
    intro i1
    refine q_iconst (pc' := 66) (dk_at dkX6_total 38 rfl) rfl ?_
    refine q_istore (pc' := 68) (L' := [some (vR m), some (vI w), some (vI (cvS S P)), some (vI (stS S P.od P.en P.bc)), some (vI 0), some (vI 0)]) (dk_at dkX6_total 39 rfl) (by decide) rfl rfl ?_
    refine l_tot2 (F := _) (by omega) hR hk hp8 hpb hkp hS hT hM ?_ P.sz 0 (by omega)
    intro i2
    refine q_join 122 [some (vR m), some (vI w), some (vI (cvS S P)), some (vI (stS S P.od P.en P.bc)), some (vI (tsum S P.od 0 P.sz)), some (vI i2)] [] (fun jx => jx = frB S P.od P.en P.bc) (fun jx122 yen => ?_) (fun J122 => ?_)
    · subst yen
      refine q_istore (pc' := 124) (L' := [some (vR m), some (vI w), some (vI (cvS S P)), some (vI (stS S P.od P.en P.bc)), some (vI (tsum S P.od 0 P.sz)), some (vI (frB S P.od P.en P.bc))]) (dk_at dkX6_total 68 rfl) (by decide) rfl rfl ?_
      refine q_iload_n (pc' := 125) (dk_at dkX6_total 69 rfl) rfl rfl ?_
      refine q_if_ne (tgt := 132) (pc' := 128) (dk_at dkX6_total 70 rfl) rfl rfl (by omega) (fun c125 => ?_) (fun c125 => ?_)
      · refine q_iload_n (pc' := 133) (dk_at dkX6_total 73 rfl) rfl rfl ?_
        refine q_iconst (pc' := 134) (dk_at dkX6_total 74 rfl) rfl ?_
        refine q_icmp_ne (tgt := 142) (pc' := 137) (dk_at dkX6_total 75 rfl) rfl rfl (by omega) (by omega) (fun c134 => ?_) (fun c134 => ?_)
        · refine q_iload (pc' := 144) (dk_at dkX6_total 78 rfl) rfl rfl ?_
          refine q_iload_n (pc' := 145) (dk_at dkX6_total 79 rfl) rfl rfl ?_
          refine q_isub (pc' := 146) (dk_at dkX6_total 80 rfl) rfl ?_
          refine q_iload (pc' := 148) (dk_at dkX6_total 81 rfl) rfl rfl ?_
          refine q_isub (pc' := 149) (dk_at dkX6_total 82 rfl) rfl ?_
          refine r_iret rfl (dk_at dkX6_total 83 rfl) ?_
          refine Or.inl ⟨by omega, ?_, ⟨_, _, _, _, _, _, _, _, _, _, _, _, _, _, _, _, _, _, _, _, _, _, _, hM, ⟨hR, hP⟩, hSv, hTx, hL⟩, hF⟩
          unfold tvS
          rcases (show w = 0 ∨ w = 1 ∨ w = 2 by omega) with rfl | rfl | rfl <;> first | (exfalso; omega; done) | rfl
        · refine q_iload (pc' := 139) (dk_at dkX6_total 76 rfl) rfl rfl ?_
          refine q_goto (tgt := 149) (dk_at dkX6_total 77 rfl) rfl ?_
          refine r_iret rfl (dk_at dkX6_total 83 rfl) ?_
          refine Or.inl ⟨by omega, ?_, ⟨_, _, _, _, _, _, _, _, _, _, _, _, _, _, _, _, _, _, _, _, _, _, _, hM, ⟨hR, hP⟩, hSv, hTx, hL⟩, hF⟩
          unfold tvS
          rcases (show w = 0 ∨ w = 1 ∨ w = 2 by omega) with rfl | rfl | rfl <;> first | (exfalso; omega; done) | rfl
      · refine q_iload_n (pc' := 129) (dk_at dkX6_total 71 rfl) rfl rfl ?_
        refine q_goto (tgt := 149) (dk_at dkX6_total 72 rfl) rfl ?_
        refine r_iret rfl (dk_at dkX6_total 83 rfl) ?_
        refine Or.inl ⟨by omega, ?_, ⟨_, _, _, _, _, _, _, _, _, _, _, _, _, _, _, _, _, _, _, _, _, _, _, hM, ⟨hR, hP⟩, hSv, hTx, hL⟩, hF⟩
        unfold tvS
        rcases (show w = 0 ∨ w = 1 ∨ w = 2 by omega) with rfl | rfl | rfl <;> first | (exfalso; omega; done) | rfl
    refine q_aload_n (pc' := 101) (dk_at dkX6_total 56 rfl) rfl rfl ?_
    refine r_getf (pc' := 104) fl_RX6_119 (dk_at dkX6_total 57 rfl) hM.obj rfl rfl ?_
    refine q_if_ne (tgt := 111) (pc' := 107) (dk_at dkX6_total 58 rfl) rfl rfl (by omega) (fun c104 => ?_) (fun c104 => ?_)
    · refine q_aload_n (pc' := 112) (dk_at dkX6_total 61 rfl) rfl rfl ?_
      refine r_getf (pc' := 115) fl_RX6_25 (dk_at dkX6_total 62 rfl) hM.obj rfl rfl ?_
      refine q_aload_n (pc' := 116) (dk_at dkX6_total 63 rfl) rfl rfl ?_
      refine r_getf (pc' := 119) fl_RX6_119 (dk_at dkX6_total 64 rfl) hM.obj rfl rfl ?_
      refine q_iconst (pc' := 120) (dk_at dkX6_total 65 rfl) rfl ?_
      refine q_isub (pc' := 121) (dk_at dkX6_total 66 rfl) rfl ?_
      refine r_iald (pc' := 122) (dk_at dkX6_total 67 rfl) hM.ends (P.sz - 1) (by omega) (by omega) (by decide) rfl ?_
      exact J122 _ (by obtain ⟨B, eB⟩ : ∃ B, P.bc = B + 1 := ⟨P.bc - 1, by have := bc_pos hkp (by omega); omega⟩; rw [(hT.1 (P.sz - 1) (by rw [hkp.2.2.2.2.1]; omega)).2.1]; have := cmK_last hkp (S := S) (b := B) (by omega); rw [← eB, hkp.2.2.2.2.1] at this; exact this)
    · refine q_iconst (pc' := 108) (dk_at dkX6_total 59 rfl) rfl ?_
      refine q_goto (tgt := 122) (dk_at dkX6_total 60 rfl) rfl ?_
      exact J122 _ (by have e0 : P.bc = 0 := (by omega); rw [e0]; rfl)
  · refine q_iconst (pc' := 18) (dk_at dkX6_total 9 rfl) rfl ?_
    refine r_iret rfl (dk_at dkX6_total 10 rfl) ?_
    rw [if_pos (by have := y11.f (by omega); omega)] at hM
    exact Or.inr ⟨by have := y11.f (by omega); have := y7.f (by have := y7.r; omega); omega, ⟨_, _, _, _, _, _, _, _, _, _, _, _, _, _, _, _, _, _, _, _, _, _, _, hM, ⟨hR, hP⟩, hSv, hTx, hL⟩, hF⟩
