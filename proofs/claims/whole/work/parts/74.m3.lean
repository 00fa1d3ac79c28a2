/-! BatchMachineModel: jobs and settings -/
theorem MR.setV {A A' : Nat → Int} {S : Shp} (h : MR A S) (hc8 : S.cnt ≤ 8) {w j : Nat} {v : Int} (hw : w < 5) (hj : j < S.cnt) (e1 : A' (1 + 5 * j + w) = v) (e2 : ∀ k, k < 64 → k ≠ 1 + 5 * j + w → A' k = A k) : MR A' (S.setV w j v) := by
  refine ⟨by rw [e2 _ (by omega) (by omega)]; exact h.c, fun w' j' hw' hj' => ?_, fun q hq => by rw [e2 _ (by omega) (by omega)]; exact h.t0 hq, fun g q hg hq => by rw [e2 _ (by omega) (by omega)]; exact h.t hg hq, by rw [e2 _ (by omega) (by omega)]; exact h.w, by rw [e2 _ (by omega) (by omega)]; exact h.e, by rw [e2 _ (by omega) (by omega)]; exact h.o⟩
  have hj' : j' < S.cnt := hj'
  show _ = upf S.V w (upz (S.V w) j v) w' j'
  by_cases z : w' = w
  · rw [z, upf_eq]
    by_cases y : j' = j
    · rw [y, upz_eq]; exact e1
    · rw [upz_ne y, e2 _ (by omega) (by omega)]; exact h.v hw hj'
  · rw [upf_ne z, e2 _ (by omega) (by omega)]; exact h.v hw' hj'
theorem MR.setT {A A' : Nat → Int} {S : Shp} (h : MR A S) (hc8 : S.cnt ≤ 8) {r t : Nat} {v : Int} (hr : r < 5) (ht : t < 4) (e1 : A' (41 + 4 * r + t) = v) (e2 : ∀ k, k < 64 → k ≠ 41 + 4 * r + t → A' k = A k) : MR A' (S.setT r t v) := by
  refine ⟨by rw [e2 _ (by omega) (by omega)]; exact h.c, fun w' j' hw' hj' => by have hj' : j' < S.cnt := hj'; rw [e2 _ (by omega) (by omega)]; exact h.v hw' hj', fun q hq => ?_, fun g q hg hq => ?_, by rw [e2 _ (by omega) (by omega)]; exact h.w, by rw [e2 _ (by omega) (by omega)]; exact h.e, by rw [e2 _ (by omega) (by omega)]; exact h.o⟩
  · show _ = upf S.T r (upz (S.T r) t v) 0 q
    by_cases z : 0 = r
    · subst z
      rw [upf_eq]
      by_cases y : q = t
      · rw [y, upz_eq, ← e1]
      · rw [upz_ne y, e2 _ (by omega) (by omega)]; exact h.t0 hq
    · rw [upf_ne z, e2 _ (by omega) (by omega)]; exact h.t0 hq
  · show _ = upf S.T r (upz (S.T r) t v) (g + 1) q
    by_cases z : g + 1 = r
    · subst z
      rw [upf_eq]
      by_cases y : q = t
      · rw [y, upz_eq, ← e1]
        exact congrArg _ (by omega)
      · rw [upz_ne y, e2 _ (by omega) (by omega)]; exact h.t hg hq
    · rw [upf_ne z, e2 _ (by omega) (by omega)]; exact h.t hg hq
theorem MP.none {A : Nat → Int} {P : PlS} (h : A 64 = 0) : MP A P.none := ⟨h, fun k hk => absurd hk (Nat.not_lt_zero _), fun k hk => absurd hk (Nat.not_lt_zero _)⟩
set_option maxHeartbeats 4000000 in
set_option maxRecDepth 100000 in
theorem k_M_setJob {d n : Nat} {h : PH} {m : Nat} {S : Shp} {P : PlS} {kn bs : Int} {sv tl : Nat} {x : Nat → Snp} {tx : Nat → Int} {th : Int} {j w v0 : Int} (hd : 30 ≤ d) (hI : MOI n h m th ((S, P, kn, bs), sv, x, tx, tl)) (hO : BOk ((S, P, kn, bs), sv, x, tx, tl)) (hi1 : IR j) (hi2 : IR w) (hi3 : IR v0) : CtrI mX6_setJob d [vR m, vI j, vI w, vI v0] n h (fun v h' => (jOk S j ∧ vOk w v0 ∧ v = S.V w.toNat j.toNat ∧ MOI n h' m 0 ((S.setV w.toNat j.toNat v0, (if w = 0 ∧ S.V 0 j.toNat ≠ v0 then P.none else P), 0, bs), pshN sv, (pshX sv x (S, P, kn, bs)), tx, tl) ∧ Fr h h' m (m + 19)) ∨ (¬ jOk S j ∧ MOI n h' m 1 ((S, P, kn, bs), sv, x, tx, tl) ∧ Fr h h' m (m + 19)) ∨ (jOk S j ∧ ¬ vOk w v0 ∧ MOI n h' m 2 ((S, P, kn, bs), sv, x, tx, tl) ∧ Fr h h' m (m + 19))) := by
  obtain ⟨A, sd, sq, op, ss, es, bo, su, se, tx1, ba, le, fr, un, sF, sR, sT, ad, l0, bm, nf, ne, nc, hM, ⟨hR, hP⟩, hSv, hTx, hL⟩ := hI
  have hM : isModel n h m A sd (sv : Int) th sq op l0 ss es bo su se bm tx1 (tl : Int) ba le fr un nf ne nc sF sR sT ad := hM
  have hR : MR A S := hR
  have hP : MP A P := hP
  have hSv : MSv sd sv x := hSv
  have hTx : ∀ i, i < tl → tx1 i = tx i := hTx
  obtain ⟨hko, hsv, hks, htl, htx⟩ := hO
  have hko : SnOk (S, P, kn, bs) := hko
  have hsv : sv ≤ 4 := hsv
  have hks : ∀ i, i < sv → SnOk (x i) := hks
  have htl : tl ≤ 60 := htl
  have htx : ∀ i, 0 ≤ tx i ∧ tx i ≤ 127 := htx
  have hk : Sok S := hko.1
  have hc8 := hk.c
  have hkp : Pok S.cnt P.od P.en P.bc P.sz := hko.2.1
  have hp8 : P.sz ≤ 8 := hkp.1
  have hpb : P.bc ≤ P.sz := hkp.2.1
  have hA0 := hR.c
  have hF : Fr h h m (m + 19) := Fr.rf
  refine q_beginI (L := [some (vR m), some (vI j), some (vI w), some (vI v0), none]) rfl ?_
  refine q_aload_n (pc' := 1) (dk_at dkX6_setJob 0 rfl) rfl rfl ?_
  refine q_aload_n (pc' := 2) (dk_at dkX6_setJob 1 rfl) rfl rfl ?_
  refine q_iload_n (pc' := 3) (dk_at dkX6_setJob 2 rfl) rfl rfl ?_
  refine r_cVI (pc' := 6) (As := [vI j]) (S := [vR m]) cv_RX6_98 (dk_at dkX6_setJob 3 rfl) hM.obj rfl (k_M_isJob (d := 1) (by omega) hR hc8 (by omega) hM) (by omega) (Nat.zero_le _) (Nat.zero_le _) rfl (Nat.le_of_ble_eq_true rfl) rfl (Nat.le_of_ble_eq_true rfl) rfl (fun xx1 hh2 hphh2 => ?_)
  obtain ⟨qq3, y3⟩ := hphh2
  rw [qq3]
  have yr3 := y3.r
  refine q_join 31 [some (vR m), some (vI j), some (vI w), some (vI v0), none] [vI xx1, vR m] (fun jx => YN jx (vOk w v0)) (fun jx31 yv => ?_) (fun J31 => ?_)
  · have yvr := yv.r
    refine r_cVI (pc' := 34) (As := [vI xx1, vI jx31]) (S := []) cv_RX6_91 (dk_at dkX6_setJob 17 rfl) hM.obj rfl (k_M_goes (d := 0) (by omega) (by omega) hM) (by omega) (Nat.zero_le _) (Nat.zero_le _) rfl (Nat.le_of_ble_eq_true rfl) rfl (Nat.le_of_ble_eq_true rfl) rfl (fun xx4 hh5 hphh5 => ?_)
    obtain ⟨y31, hM, hGf⟩ := hphh5
    have hF := hF.tr hGf (by omega)
    have yr31 := y31.r
    refine q_if_ne (tgt := 39) (pc' := 37) (dk_at dkX6_setJob 18 rfl) rfl rfl (by omega) (fun c34 => ?_) (fun c34 => ?_)
    · have yy := y31.t (by omega)
      rw [if_neg (by omega), if_neg (by omega)] at hM
      have yj : 0 ≤ j ∧ j < (S.cnt : Int) := y3.t (by omega)
      have yw := (yv.t (by omega)).1
      have yb := hk.v w.toNat j.toNat
      have yc := row_r w.toNat
      have yd := (yv.t (by omega)).2
      refine q_aload_n (pc' := 40) (dk_at dkX6_setJob 21 rfl) rfl rfl ?_
      refine r_cVV (pc' := 43) (As := []) (S := []) cv_RX6_95 (dk_at dkX6_setJob 22 rfl) hM.obj rfl (k_M_save (d := 0) (c := (S, P, kn, bs)) hko hks hsv ⟨hR, hP⟩ hSv hM) (by omega) (Nat.zero_le _) (Nat.zero_le _) rfl (Nat.le_of_ble_eq_true rfl) rfl (Nat.le_of_ble_eq_true rfl) rfl (fun hh7 hphh7 => ?_)
      obtain ⟨sd2, hM, hSv, hGf⟩ := hphh7
      have hF := hF.tr hGf (by omega)
      refine q_aload_n (pc' := 44) (dk_at dkX6_setJob 23 rfl) rfl rfl ?_
      refine q_iload_n (pc' := 45) (dk_at dkX6_setJob 24 rfl) rfl rfl ?_
      refine q_iload_n (pc' := 46) (dk_at dkX6_setJob 25 rfl) rfl rfl ?_
      refine r_cVI (pc' := 49) (As := [vI j, vI w]) (S := []) cv_RX6_104 (dk_at dkX6_setJob 26 rfl) hM.obj rfl (k_M_of (d := 0) (j := j.toNat) (w := w.toNat) hR hc8 (by omega) (by omega) (by omega) (by omega) hM) (by omega) (Nat.zero_le _) (Nat.zero_le _) rfl (Nat.le_of_ble_eq_true rfl) rfl (Nat.le_of_ble_eq_true rfl) rfl (fun xx8 hh9 hphh9 => ?_)
      obtain ⟨qq10, rfl⟩ := hphh9
      rw [qq10]
      refine q_istore (pc' := 51) (L' := [some (vR m), some (vI j), some (vI w), some (vI v0), some (vI (S.V w.toNat j.toNat))]) (dk_at dkX6_setJob 27 rfl) (by decide) rfl rfl ?_
      refine q_aload_n (pc' := 52) (dk_at dkX6_setJob 28 rfl) rfl rfl ?_
      refine r_getf (pc' := 55) fl_RX6_7 (dk_at dkX6_setJob 29 rfl) hM.obj rfl rfl ?_
      refine q_iconst (pc' := 56) (dk_at dkX6_setJob 30 rfl) rfl ?_
      refine q_iconst (pc' := 57) (dk_at dkX6_setJob 31 rfl) rfl ?_
      refine q_iload_n (pc' := 58) (dk_at dkX6_setJob 32 rfl) rfl rfl ?_
      refine q_imul (pc' := 59) (dk_at dkX6_setJob 33 rfl) rfl ?_
      refine q_iadd (pc' := 60) (dk_at dkX6_setJob 34 rfl) rfl ?_
      refine q_iload_n (pc' := 61) (dk_at dkX6_setJob 35 rfl) rfl rfl ?_
      refine q_iadd (pc' := 62) (dk_at dkX6_setJob 36 rfl) rfl ?_
      refine q_iload_n (pc' := 63) (dk_at dkX6_setJob 37 rfl) rfl rfl ?_
      refine r_iast (pc' := 64) (dk_at dkX6_setJob 38 rfl) hM.all (1 + 5 * j.toNat + w.toNat) (by omega) (by omega) (by decide) rfl (fun hh11 ehh11 => ?_)
      have hM := hM.w_all ehh11
      have hF := hF.put ehh11 (by omega)
      refine q_aload_n (pc' := 65) (dk_at dkX6_setJob 39 rfl) rfl rfl ?_
      refine r_getf (pc' := 68) fl_RX6_7 (dk_at dkX6_setJob 40 rfl) hM.obj rfl rfl ?_
      refine q_bipush (pc' := 70) (dk_at dkX6_setJob 41 rfl) (by decide +kernel) rfl ?_
      refine q_iload_n (pc' := 71) (dk_at dkX6_setJob 42 rfl) rfl rfl ?_
      refine q_if_ne (tgt := 84) (pc' := 74) (dk_at dkX6_setJob 43 rfl) rfl rfl (by omega) (fun c71 => ?_) (fun c71 => ?_)
      · refine q_aload_n (pc' := 85) (dk_at dkX6_setJob 49 rfl) rfl rfl ?_
        refine r_getf (pc' := 88) fl_RX6_7 (dk_at dkX6_setJob 50 rfl) hM.obj rfl rfl ?_
        refine q_bipush (pc' := 90) (dk_at dkX6_setJob 51 rfl) (by decide +kernel) rfl ?_
        refine r_iald (pc' := 91) (dk_at dkX6_setJob 52 rfl) hM.all 64 (by omega) (by omega) (by decide) rfl ?_
        refine r_iast (pc' := 92) (dk_at dkX6_setJob 53 rfl) hM.all 64 (by omega) (by omega) (by decide) rfl (fun hh12 ehh12 => ?_)
        have hM := hM.w_all ehh12
        have hF := hF.put ehh12 (by omega)
        refine q_iload (pc' := 94) (dk_at dkX6_setJob 54 rfl) rfl rfl ?_
        refine r_iret rfl (dk_at dkX6_setJob 55 rfl) ?_
        refine Or.inl ⟨y3.t (by omega), yv.t (by omega), rfl, ⟨_, _, _, _, _, _, _, _, _, _, _, _, _, _, _, _, _, _, _, _, _, _, _, hM, ⟨hR.setV hc8 (by omega) (by omega) ?_ ?_, ?_⟩, hSv, hTx, hL⟩, hF⟩
        · repeat (first | rw [upz_at (by omega)] | rw [upz_ne (by omega)])
        · intro k k1 k2
          repeat (first | rw [upz_at (by omega)] | rw [upz_ne (by omega)])
        · show MP _ (if w = 0 ∧ S.V 0 j.toNat ≠ v0 then P.none else P)
          rw [if_neg (by intro z; first | omega | (apply z.2; have e0 : w = 0 := z.1; subst e0; exact c77; done))]
          refine hP.cong (fun k k1 k2 => ?_) hp8
          by_cases y : k = 64
          · rw [y, upz_eq, upz_ne (by omega)]
          · repeat (first | rw [upz_at (by omega)] | rw [upz_ne (by omega)])
      · refine q_iload (pc' := 76) (dk_at dkX6_setJob 44 rfl) rfl rfl ?_
        refine q_iload_n (pc' := 77) (dk_at dkX6_setJob 45 rfl) rfl rfl ?_
        refine q_icmp_eq (tgt := 84) (pc' := 80) (dk_at dkX6_setJob 46 rfl) rfl rfl (by omega) (by omega) (fun c77 => ?_) (fun c77 => ?_)
        · refine q_aload_n (pc' := 85) (dk_at dkX6_setJob 49 rfl) rfl rfl ?_
          refine r_getf (pc' := 88) fl_RX6_7 (dk_at dkX6_setJob 50 rfl) hM.obj rfl rfl ?_
          refine q_bipush (pc' := 90) (dk_at dkX6_setJob 51 rfl) (by decide +kernel) rfl ?_
          refine r_iald (pc' := 91) (dk_at dkX6_setJob 52 rfl) hM.all 64 (by omega) (by omega) (by decide) rfl ?_
          refine r_iast (pc' := 92) (dk_at dkX6_setJob 53 rfl) hM.all 64 (by omega) (by omega) (by decide) rfl (fun hh13 ehh13 => ?_)
          have hM := hM.w_all ehh13
          have hF := hF.put ehh13 (by omega)
          refine q_iload (pc' := 94) (dk_at dkX6_setJob 54 rfl) rfl rfl ?_
          refine r_iret rfl (dk_at dkX6_setJob 55 rfl) ?_
          refine Or.inl ⟨y3.t (by omega), yv.t (by omega), rfl, ⟨_, _, _, _, _, _, _, _, _, _, _, _, _, _, _, _, _, _, _, _, _, _, _, hM, ⟨hR.setV hc8 (by omega) (by omega) ?_ ?_, ?_⟩, hSv, hTx, hL⟩, hF⟩
          · repeat (first | rw [upz_at (by omega)] | rw [upz_ne (by omega)])
          · intro k k1 k2
            repeat (first | rw [upz_at (by omega)] | rw [upz_ne (by omega)])
          · show MP _ (if w = 0 ∧ S.V 0 j.toNat ≠ v0 then P.none else P)
            rw [if_neg (by intro z; first | omega | (apply z.2; have e0 : w = 0 := z.1; subst e0; exact c77; done))]
            refine hP.cong (fun k k1 k2 => ?_) hp8
            by_cases y : k = 64
            · rw [y, upz_eq, upz_ne (by omega)]
            · repeat (first | rw [upz_at (by omega)] | rw [upz_ne (by omega)])
        · refine q_iconst (pc' := 81) (dk_at dkX6_setJob 47 rfl) rfl ?_
          refine q_goto (tgt := 91) (dk_at dkX6_setJob 48 rfl) rfl ?_
          refine r_iast (pc' := 92) (dk_at dkX6_setJob 53 rfl) hM.all 64 (by omega) (by omega) (by decide) rfl (fun hh14 ehh14 => ?_)
          have hM := hM.w_all ehh14
          have hF := hF.put ehh14 (by omega)
          refine q_iload (pc' := 94) (dk_at dkX6_setJob 54 rfl) rfl rfl ?_
          refine r_iret rfl (dk_at dkX6_setJob 55 rfl) ?_
          refine Or.inl ⟨y3.t (by omega), yv.t (by omega), rfl, ⟨_, _, _, _, _, _, _, _, _, _, _, _, _, _, _, _, _, _, _, _, _, _, _, hM, ⟨hR.setV hc8 (by omega) (by omega) ?_ ?_, ?_⟩, hSv, hTx, hL⟩, hF⟩
          · repeat (first | rw [upz_at (by omega)] | rw [upz_ne (by omega)])
          · intro k k1 k2
            repeat (first | rw [upz_at (by omega)] | rw [upz_ne (by omega)])
          · show MP _ (if w = 0 ∧ S.V 0 j.toNat ≠ v0 then P.none else P)
            rw [if_pos ⟨by omega, by intro z; apply c77; have e0 : w = 0 := (by omega); subst e0; exact z⟩]
            exact MP.none (by rw [upz_eq])
    · refine q_iconst (pc' := 38) (dk_at dkX6_setJob 19 rfl) rfl ?_
      refine r_iret rfl (dk_at dkX6_setJob 20 rfl) ?_
      by_cases z : xx1 = 0
      · rw [if_pos z] at hM
        exact Or.inr (Or.inl ⟨y3.f z, ⟨_, _, _, _, _, _, _, _, _, _, _, _, _, _, _, _, _, _, _, _, _, _, _, hM, ⟨hR, hP⟩, hSv, hTx, hL⟩, hF⟩)
      · rw [if_neg z, if_pos (by have := y31.f (by omega); omega)] at hM
        exact Or.inr (Or.inr ⟨y3.t z, yv.f (by have := y31.f (by omega); have := yv.r; omega), ⟨_, _, _, _, _, _, _, _, _, _, _, _, _, _, _, _, _, _, _, _, _, _, _, hM, ⟨hR, hP⟩, hSv, hTx, hL⟩, hF⟩)
  refine q_iload_n (pc' := 7) (dk_at dkX6_setJob 4 rfl) rfl rfl ?_
  refine q_i2l (pc' := 8) (dk_at dkX6_setJob 5 rfl) (by omega) rfl ?_
  refine q_lconst0 (pc' := 9) (dk_at dkX6_setJob 6 rfl) rfl ?_
  refine q_ldc2 (pc' := 12) (z := 4) kc_RX6_102 (by decide +kernel) (dk_at dkX6_setJob 7 rfl) rfl ?_
  refine r_cSI (pc' := 15) (As := [vJ w, vJ 0, vJ 4]) (S := [vI xx1, vR m]) cs_RX6_73 (dk_at dkX6_setJob 8 rfl) (k_M_in (d := 0) (by omega) (by omega) (by omega)) (by omega) (Nat.zero_le _) (Nat.zero_le _) rfl (Nat.le_of_ble_eq_true rfl) rfl (Nat.le_of_ble_eq_true rfl) rfl (fun xx15 hh16 hphh16 => ?_)
  obtain ⟨qq17, y12⟩ := hphh16
  rw [qq17]
  have yr12 := y12.r
  refine q_if_eq (tgt := 30) (pc' := 18) (dk_at dkX6_setJob 9 rfl) rfl rfl (by omega) (fun c15 => ?_) (fun c15 => ?_)
  · refine q_iconst (pc' := 31) (dk_at dkX6_setJob 16 rfl) rfl ?_
    exact J31 _ (Or.inr ⟨rfl, fun z => y12.f c15 ⟨z.1.1, by have := z.1.2; omega⟩⟩)
  · have yw := y12.t c15
    refine q_iload_n (pc' := 19) (dk_at dkX6_setJob 10 rfl) rfl rfl ?_
    refine q_iload_n (pc' := 20) (dk_at dkX6_setJob 11 rfl) rfl rfl ?_
    refine r_cSI (pc' := 23) (As := [vI w, vI v0]) (S := [vI xx1, vR m]) cs_RX6_87 (dk_at dkX6_setJob 12 rfl) (k_M_isValue (d := 1) (w := w) (v := v0) (by omega) (by omega) (by omega)) (by omega) (Nat.zero_le _) (Nat.zero_le _) rfl (Nat.le_of_ble_eq_true rfl) rfl (Nat.le_of_ble_eq_true rfl) rfl (fun xx18 hh19 hphh19 => ?_)
    obtain ⟨qq20, y20⟩ := hphh19
    rw [qq20]
    have yr20 := y20.r
    refine q_if_eq (tgt := 30) (pc' := 26) (dk_at dkX6_setJob 13 rfl) rfl rfl (by omega) (fun c23 => ?_) (fun c23 => ?_)
    · refine q_iconst (pc' := 31) (dk_at dkX6_setJob 16 rfl) rfl ?_
      exact J31 _ (Or.inr ⟨rfl, y20.f c23⟩)
    · refine q_iconst (pc' := 27) (dk_at dkX6_setJob 14 rfl) rfl ?_
      refine q_goto (tgt := 31) (dk_at dkX6_setJob 15 rfl) rfl ?_
      exact J31 _ (Or.inl ⟨rfl, y20.t c23⟩)

set_option maxHeartbeats 4000000 in
set_option maxRecDepth 100000 in
theorem k_M_job {d n : Nat} {h : PH} {m : Nat} {S : Shp} {P : PlS} {kn bs : Int} {sv tl : Nat} {x : Nat → Snp} {tx : Nat → Int} {th : Int} {j w : Int} (hd : 30 ≤ d) (hI : MOI n h m th ((S, P, kn, bs), sv, x, tx, tl)) (hO : BOk ((S, P, kn, bs), sv, x, tx, tl)) (hi1 : IR j) (hi2 : IR w) : CtrI mX6_job d [vR m, vI j, vI w] n h (fun v h' => (jOk S j ∧ (0 ≤ w ∧ w < 5) ∧ v = S.V w.toNat j.toNat ∧ MOI n h' m 0 ((S, P, kn, bs), sv, x, tx, tl) ∧ Fr h h' m (m + 19)) ∨ (¬ jOk S j ∧ MOI n h' m 1 ((S, P, kn, bs), sv, x, tx, tl) ∧ Fr h h' m (m + 19)) ∨ (jOk S j ∧ ¬ (0 ≤ w ∧ w < 5) ∧ MOI n h' m 2 ((S, P, kn, bs), sv, x, tx, tl) ∧ Fr h h' m (m + 19))) := by
  obtain ⟨A, sd, sq, op, ss, es, bo, su, se, tx1, ba, le, fr, un, sF, sR, sT, ad, l0, bm, nf, ne, nc, hM, ⟨hR, hP⟩, hSv, hTx, hL⟩ := hI
  have hM : isModel n h m A sd (sv : Int) th sq op l0 ss es bo su se bm tx1 (tl : Int) ba le fr un nf ne nc sF sR sT ad := hM
  have hR : MR A S := hR
  have hP : MP A P := hP
  have hSv : MSv sd sv x := hSv
  have hTx : ∀ i, i < tl → tx1 i = tx i := hTx
  obtain ⟨hko, hsv, hks, htl, htx⟩ := hO
  have hko : SnOk (S, P, kn, bs) := hko
  have hsv : sv ≤ 4 := hsv
  have hks : ∀ i, i < sv → SnOk (x i) := hks
  have htl : tl ≤ 60 := htl
  have htx : ∀ i, 0 ≤ tx i ∧ tx i ≤ 127 := htx
  have hk : Sok S := hko.1
  have hc8 := hk.c
  have hkp : Pok S.cnt P.od P.en P.bc P.sz := hko.2.1
  have hp8 : P.sz ≤ 8 := hkp.1
  have hpb : P.bc ≤ P.sz := hkp.2.1
  have hA0 := hR.c
  have hF : Fr h h m (m + 19) := Fr.rf
  refine q_beginI (L := [some (vR m), some (vI j), some (vI w)]) rfl ?_
  refine q_aload_n (pc' := 1) (dk_at dkX6_job 0 rfl) rfl rfl ?_
  refine q_aload_n (pc' := 2) (dk_at dkX6_job 1 rfl) rfl rfl ?_
  refine q_iload_n (pc' := 3) (dk_at dkX6_job 2 rfl) rfl rfl ?_
  refine r_cVI (pc' := 6) (As := [vI j]) (S := [vR m]) cv_RX6_98 (dk_at dkX6_job 3 rfl) hM.obj rfl (k_M_isJob (d := 1) (by omega) hR hc8 (by omega) hM) (by omega) (Nat.zero_le _) (Nat.zero_le _) rfl (Nat.le_of_ble_eq_true rfl) rfl (Nat.le_of_ble_eq_true rfl) rfl (fun xx1 hh2 hphh2 => ?_)
  obtain ⟨qq3, y3⟩ := hphh2
  rw [qq3]
  have yr3 := y3.r
  refine q_iload_n (pc' := 7) (dk_at dkX6_job 4 rfl) rfl rfl ?_
  refine q_i2l (pc' := 8) (dk_at dkX6_job 5 rfl) (by omega) rfl ?_
  refine q_lconst0 (pc' := 9) (dk_at dkX6_job 6 rfl) rfl ?_
  refine q_ldc2 (pc' := 12) (z := 4) kc_RX6_102 (by decide +kernel) (dk_at dkX6_job 7 rfl) rfl ?_
  refine r_cSI (pc' := 15) (As := [vJ w, vJ 0, vJ 4]) (S := [vI xx1, vR m]) cs_RX6_73 (dk_at dkX6_job 8 rfl) (k_M_in (d := 0) (by omega) (by omega) (by omega)) (by omega) (Nat.zero_le _) (Nat.zero_le _) rfl (Nat.le_of_ble_eq_true rfl) rfl (Nat.le_of_ble_eq_true rfl) rfl (fun xx4 hh5 hphh5 => ?_)
  obtain ⟨qq6, y12⟩ := hphh5
  rw [qq6]
  have yr12 := y12.r
  refine r_cVI (pc' := 18) (As := [vI xx1, vI xx4]) (S := []) cv_RX6_91 (dk_at dkX6_job 9 rfl) hM.obj rfl (k_M_goes (d := 0) (by omega) (by omega) hM) (by omega) (Nat.zero_le _) (Nat.zero_le _) rfl (Nat.le_of_ble_eq_true rfl) rfl (Nat.le_of_ble_eq_true rfl) rfl (fun xx7 hh8 hphh8 => ?_)
  obtain ⟨y15, hM, hGf⟩ := hphh8
  have hF := hF.tr hGf (by omega)
  have yr15 := y15.r
  refine q_if_eq (tgt := 30) (pc' := 21) (dk_at dkX6_job 10 rfl) rfl rfl (by omega) (fun c18 => ?_) (fun c18 => ?_)
  · refine q_iconst (pc' := 31) (dk_at dkX6_job 16 rfl) rfl ?_
    refine r_iret rfl (dk_at dkX6_job 17 rfl) ?_
    by_cases z : xx1 = 0
    · rw [if_pos z] at hM
      exact Or.inr (Or.inl ⟨y3.f z, ⟨_, _, _, _, _, _, _, _, _, _, _, _, _, _, _, _, _, _, _, _, _, _, _, hM, ⟨hR, hP⟩, hSv, hTx, hL⟩, hF⟩)
    · rw [if_neg z, if_pos (by have := y15.f (by omega); omega)] at hM
      exact Or.inr (Or.inr ⟨y3.t z, by have := y15.f (by omega); have := y12.f (by have := y12.r; omega); omega, ⟨_, _, _, _, _, _, _, _, _, _, _, _, _, _, _, _, _, _, _, _, _, _, _, hM, ⟨hR, hP⟩, hSv, hTx, hL⟩, hF⟩)
  · have yy := y15.t (by omega)
    rw [if_neg (by omega), if_neg (by omega)] at hM
    have yj : 0 ≤ j ∧ j < (S.cnt : Int) := y3.t (by omega)
    have yw := y12.t (by omega)
    refine q_aload_n (pc' := 22) (dk_at dkX6_job 11 rfl) rfl rfl ?_
    refine q_iload_n (pc' := 23) (dk_at dkX6_job 12 rfl) rfl rfl ?_
    refine q_iload_n (pc' := 24) (dk_at dkX6_job 13 rfl) rfl rfl ?_
    refine r_cVI (pc' := 27) (As := [vI j, vI w]) (S := []) cv_RX6_104 (dk_at dkX6_job 14 rfl) hM.obj rfl (k_M_of (d := 0) (j := j.toNat) (w := w.toNat) hR hc8 (by omega) (by omega) (by omega) (by omega) hM) (by omega) (Nat.zero_le _) (Nat.zero_le _) rfl (Nat.le_of_ble_eq_true rfl) rfl (Nat.le_of_ble_eq_true rfl) rfl (fun xx9 hh10 hphh10 => ?_)
    obtain ⟨qq11, rfl⟩ := hphh10
    rw [qq11]
    refine q_goto (tgt := 31) (dk_at dkX6_job 15 rfl) rfl ?_
    refine r_iret rfl (dk_at dkX6_job 17 rfl) ?_
    exact Or.inl ⟨yj, by omega, rfl, ⟨_, _, _, _, _, _, _, _, _, _, _, _, _, _, _, _, _, _, _, _, _, _, _, hM, ⟨hR, hP⟩, hSv, hTx, hL⟩, hF⟩

set_option maxHeartbeats 4000000 in
set_option maxRecDepth 100000 in
theorem k_M_jobs {d n : Nat} {h : PH} {m : Nat} {S : Shp} {P : PlS} {kn bs : Int} {sv tl : Nat} {x : Nat → Snp} {tx : Nat → Int} {th : Int}  (hd : 30 ≤ d) (hI : MOI n h m th ((S, P, kn, bs), sv, x, tx, tl)) (hO : BOk ((S, P, kn, bs), sv, x, tx, tl))  : CtrI mX6_jobs d [vR m] n h (fun v h' => v = (S.cnt : Int) ∧ MOI n h' m 0 ((S, P, kn, bs), sv, x, tx, tl) ∧ Fr h h' m (m + 19)) := by
  obtain ⟨A, sd, sq, op, ss, es, bo, su, se, tx1, ba, le, fr, un, sF, sR, sT, ad, l0, bm, nf, ne, nc, hM, ⟨hR, hP⟩, hSv, hTx, hL⟩ := hI
  have hM : isModel n h m A sd (sv : Int) th sq op l0 ss es bo su se bm tx1 (tl : Int) ba le fr un nf ne nc sF sR sT ad := hM
  have hR : MR A S := hR
  have hP : MP A P := hP
  have hSv : MSv sd sv x := hSv
  have hTx : ∀ i, i < tl → tx1 i = tx i := hTx
  obtain ⟨hko, hsv, hks, htl, htx⟩ := hO
  have hko : SnOk (S, P, kn, bs) := hko
  have hsv : sv ≤ 4 := hsv
  have hks : ∀ i, i < sv → SnOk (x i) := hks
  have htl : tl ≤ 60 := htl
  have htx : ∀ i, 0 ≤ tx i ∧ tx i ≤ 127 := htx
  have hk : Sok S := hko.1
  have hc8 := hk.c
  have hkp : Pok S.cnt P.od P.en P.bc P.sz := hko.2.1
  have hp8 : P.sz ≤ 8 := hkp.1
  have hpb : P.bc ≤ P.sz := hkp.2.1
  have hA0 := hR.c
  have hF : Fr h h m (m + 19) := Fr.rf
  refine q_beginI (L := [some (vR m)]) rfl ?_
  refine q_aload_n (pc' := 1) (dk_at dkX6_jobs 0 rfl) rfl rfl ?_
  refine q_iconst (pc' := 2) (dk_at dkX6_jobs 1 rfl) rfl ?_
  refine r_putf (pc' := 5) fp_RX6_66 (dk_at dkX6_jobs 2 rfl) hM.obj (Nat.le_of_ble_eq_true rfl) (PT_int _) rfl (fun hh1 ehh1 => ?_)
  have hM := hM.w_obj ehh1
  have hF := hF.put ehh1 (by omega)
  refine q_aload_n (pc' := 6) (dk_at dkX6_jobs 3 rfl) rfl rfl ?_
  refine r_getf (pc' := 9) fl_RX6_7 (dk_at dkX6_jobs 4 rfl) hM.obj rfl rfl ?_
  refine q_iconst (pc' := 10) (dk_at dkX6_jobs 5 rfl) rfl ?_
  refine r_iald (pc' := 11) (dk_at dkX6_jobs 6 rfl) hM.all 0 (by omega) (by omega) (by decide) rfl ?_
  refine r_iret rfl (dk_at dkX6_jobs 7 rfl) ?_
  exact ⟨hA0, ⟨_, _, _, _, _, _, _, _, _, _, _, _, _, _, _, _, _, _, _, _, _, _, _, hM, ⟨hR, hP⟩, hSv, hTx, hL⟩, hF⟩

set_option maxHeartbeats 4000000 in
set_option maxRecDepth 100000 in
theorem k_M_setSetup {d n : Nat} {h : PH} {m : Nat} {S : Shp} {P : PlS} {kn bs : Int} {sv tl : Nat} {x : Nat → Snp} {tx : Nat → Int} {th : Int} {fv to v0 : Int} (hd : 30 ≤ d) (hI : MOI n h m th ((S, P, kn, bs), sv, x, tx, tl)) (hO : BOk ((S, P, kn, bs), sv, x, tx, tl)) (hi1 : IR fv) (hi2 : IR to) (hi3 : IR v0) : CtrI mX6_setSetup d [vR m, vI fv, vI to, vI v0] n h (fun v h' => (((-1 ≤ fv ∧ fv < 4) ∧ 0 ≤ to ∧ to < 4) ∧ (0 ≤ v0 ∧ v0 ≤ 60) ∧ v = S.T (fv + 1).toNat to.toNat ∧ MOI n h' m 0 ((S.setT (fv + 1).toNat to.toNat v0, P, 0, bs), pshN sv, (pshX sv x (S, P, kn, bs)), tx, tl) ∧ Fr h h' m (m + 19)) ∨ (¬ ((-1 ≤ fv ∧ fv < 4) ∧ 0 ≤ to ∧ to < 4) ∧ MOI n h' m 1 ((S, P, kn, bs), sv, x, tx, tl) ∧ Fr h h' m (m + 19)) ∨ (((-1 ≤ fv ∧ fv < 4) ∧ 0 ≤ to ∧ to < 4) ∧ ¬ (0 ≤ v0 ∧ v0 ≤ 60) ∧ MOI n h' m 2 ((S, P, kn, bs), sv, x, tx, tl) ∧ Fr h h' m (m + 19))) := by
  obtain ⟨A, sd, sq, op, ss, es, bo, su, se, tx1, ba, le, fr, un, sF, sR, sT, ad, l0, bm, nf, ne, nc, hM, ⟨hR, hP⟩, hSv, hTx, hL⟩ := hI
  have hM : isModel n h m A sd (sv : Int) th sq op l0 ss es bo su se bm tx1 (tl : Int) ba le fr un nf ne nc sF sR sT ad := hM
  have hR : MR A S := hR
  have hP : MP A P := hP
  have hSv : MSv sd sv x := hSv
  have hTx : ∀ i, i < tl → tx1 i = tx i := hTx
  obtain ⟨hko, hsv, hks, htl, htx⟩ := hO
  have hko : SnOk (S, P, kn, bs) := hko
  have hsv : sv ≤ 4 := hsv
  have hks : ∀ i, i < sv → SnOk (x i) := hks
  have htl : tl ≤ 60 := htl
  have htx : ∀ i, 0 ≤ tx i ∧ tx i ≤ 127 := htx
  have hk : Sok S := hko.1
  have hc8 := hk.c
  have hkp : Pok S.cnt P.od P.en P.bc P.sz := hko.2.1
  have hp8 : P.sz ≤ 8 := hkp.1
  have hpb : P.bc ≤ P.sz := hkp.2.1
  have hA0 := hR.c
  have hF : Fr h h m (m + 19) := Fr.rf
  refine q_beginI (L := [some (vR m), some (vI fv), some (vI to), some (vI v0), none, none]) rfl ?_
  refine q_aload_n (pc' := 1) (dk_at dkX6_setSetup 0 rfl) rfl rfl ?_
  refine q_join 32 [some (vR m), some (vI fv), some (vI to), some (vI v0), none, none] [vR m] (fun jx => YN jx ((-1 ≤ fv ∧ fv < 4) ∧ 0 ≤ to ∧ to < 4)) (fun jx32 yf => ?_) (fun J32 => ?_)
  · have yfr := yf.r
    refine q_iload_n (pc' := 33) (dk_at dkX6_setSetup 16 rfl) rfl rfl ?_
    refine q_i2l (pc' := 34) (dk_at dkX6_setSetup 17 rfl) (by omega) rfl ?_
    refine q_lconst0 (pc' := 35) (dk_at dkX6_setSetup 18 rfl) rfl ?_
    refine q_ldc2 (pc' := 38) (z := 60) kc_RX6_110 (by decide +kernel) (dk_at dkX6_setSetup 19 rfl) rfl ?_
    refine r_cSI (pc' := 41) (As := [vJ v0, vJ 0, vJ 60]) (S := [vI jx32, vR m]) cs_RX6_73 (dk_at dkX6_setSetup 20 rfl) (k_M_in (d := 0) (by omega) (by omega) (by omega)) (by omega) (Nat.zero_le _) (Nat.zero_le _) rfl (Nat.le_of_ble_eq_true rfl) rfl (Nat.le_of_ble_eq_true rfl) rfl (fun xx1 hh2 hphh2 => ?_)
    obtain ⟨qq3, y38⟩ := hphh2
    rw [qq3]
    have yr38 := y38.r
    refine r_cVI (pc' := 44) (As := [vI jx32, vI xx1]) (S := []) cv_RX6_91 (dk_at dkX6_setSetup 21 rfl) hM.obj rfl (k_M_goes (d := 0) (by omega) (by omega) hM) (by omega) (Nat.zero_le _) (Nat.zero_le _) rfl (Nat.le_of_ble_eq_true rfl) rfl (Nat.le_of_ble_eq_true rfl) rfl (fun xx4 hh5 hphh5 => ?_)
    obtain ⟨y41, hM, hGf⟩ := hphh5
    have hF := hF.tr hGf (by omega)
    have yr41 := y41.r
    refine q_if_ne (tgt := 49) (pc' := 47) (dk_at dkX6_setSetup 22 rfl) rfl rfl (by omega) (fun c44 => ?_) (fun c44 => ?_)
    · have yy := y41.t (by omega)
      rw [if_neg (by omega), if_neg (by omega)] at hM
      have yff := yf.t (by omega)
      have yw := y38.t (by omega)
      refine q_aload_n (pc' := 50) (dk_at dkX6_setSetup 25 rfl) rfl rfl ?_
      refine r_cVV (pc' := 53) (As := []) (S := []) cv_RX6_95 (dk_at dkX6_setSetup 26 rfl) hM.obj rfl (k_M_save (d := 0) (c := (S, P, kn, bs)) hko hks hsv ⟨hR, hP⟩ hSv hM) (by omega) (Nat.zero_le _) (Nat.zero_le _) rfl (Nat.le_of_ble_eq_true rfl) rfl (Nat.le_of_ble_eq_true rfl) rfl (fun hh7 hphh7 => ?_)
      obtain ⟨sd2, hM, hSv, hGf⟩ := hphh7
      have hF := hF.tr hGf (by omega)
      refine q_iload_n (pc' := 54) (dk_at dkX6_setSetup 27 rfl) rfl rfl ?_
      refine q_iconst (pc' := 55) (dk_at dkX6_setSetup 28 rfl) rfl ?_
      refine q_icmp_ne (tgt := 65) (pc' := 58) (dk_at dkX6_setSetup 29 rfl) rfl rfl (by omega) (by omega) (fun c55 => ?_) (fun c55 => ?_)
      · refine q_bipush (pc' := 67) (dk_at dkX6_setSetup 34 rfl) (by decide +kernel) rfl ?_
        refine q_iconst (pc' := 68) (dk_at dkX6_setSetup 35 rfl) rfl ?_
        refine q_iload_n (pc' := 69) (dk_at dkX6_setSetup 36 rfl) rfl rfl ?_
        refine q_imul (pc' := 70) (dk_at dkX6_setSetup 37 rfl) rfl ?_
        refine q_iadd (pc' := 71) (dk_at dkX6_setSetup 38 rfl) rfl ?_
        refine q_iload_n (pc' := 72) (dk_at dkX6_setSetup 39 rfl) rfl rfl ?_
        refine q_iadd (pc' := 73) (dk_at dkX6_setSetup 40 rfl) rfl ?_
        refine q_istore (pc' := 75) (L' := [some (vR m), some (vI fv), some (vI to), some (vI v0), some (vI ((45 + (4 * fv)) + to)), none]) (dk_at dkX6_setSetup 41 rfl) (by decide) rfl rfl ?_
        refine q_aload_n (pc' := 76) (dk_at dkX6_setSetup 42 rfl) rfl rfl ?_
        refine r_getf (pc' := 79) fl_RX6_7 (dk_at dkX6_setSetup 43 rfl) hM.obj rfl rfl ?_
        refine q_iload (pc' := 81) (dk_at dkX6_setSetup 44 rfl) rfl rfl ?_
        refine r_iald (pc' := 82) (dk_at dkX6_setSetup 45 rfl) hM.all ((((45 + (4 * fv)) + to)).toNat) (by omega) (by omega) (by decide) rfl ?_
        refine q_istore (pc' := 84) (L' := [some (vR m), some (vI fv), some (vI to), some (vI v0), some (vI ((45 + (4 * fv)) + to)), some (vI (A ((((45 + (4 * fv)) + to)).toNat)))]) (dk_at dkX6_setSetup 46 rfl) (by decide) rfl rfl ?_
        refine q_aload_n (pc' := 85) (dk_at dkX6_setSetup 47 rfl) rfl rfl ?_
        refine r_getf (pc' := 88) fl_RX6_7 (dk_at dkX6_setSetup 48 rfl) hM.obj rfl rfl ?_
        refine q_iload (pc' := 90) (dk_at dkX6_setSetup 49 rfl) rfl rfl ?_
        refine q_iload_n (pc' := 91) (dk_at dkX6_setSetup 50 rfl) rfl rfl ?_
        refine r_iast (pc' := 92) (dk_at dkX6_setSetup 51 rfl) hM.all ((((45 + (4 * fv)) + to)).toNat) (by omega) (by omega) (by decide) rfl (fun hh8 ehh8 => ?_)
        have hM := hM.w_all ehh8
        have hF := hF.put ehh8 (by omega)
        refine q_iload (pc' := 94) (dk_at dkX6_setSetup 52 rfl) rfl rfl ?_
        refine r_iret rfl (dk_at dkX6_setSetup 53 rfl) ?_
        rw [show (45 + 4 * fv + to).toNat = 41 + 4 * (fv + 1).toNat + to.toNat by omega] at hM ⊢
        refine Or.inl ⟨yff, by omega, ?_, ⟨_, _, _, _, _, _, _, _, _, _, _, _, _, _, _, _, _, _, _, _, _, _, _, hM, ⟨hR.setT hc8 (by omega) (by omega) (upz_eq _ _ _) (fun k k1 k2 => upz_ne k2), hP.cong (fun k k1 k2 => upz_ne (by omega)) hp8⟩, hSv, hTx, hL⟩, hF⟩
        obtain ⟨f0, e0⟩ : ∃ f0, (fv + 1).toNat = f0 + 1 := ⟨fv.toNat, by omega⟩
        rw [e0, show 41 + 4 * (f0 + 1) + to.toNat = 45 + 4 * f0 + to.toNat by omega]
        exact hR.t (by omega) (by omega)
      · refine q_bipush (pc' := 60) (dk_at dkX6_setSetup 30 rfl) (by decide +kernel) rfl ?_
        refine q_iload_n (pc' := 61) (dk_at dkX6_setSetup 31 rfl) rfl rfl ?_
        refine q_iadd (pc' := 62) (dk_at dkX6_setSetup 32 rfl) rfl ?_
        refine q_goto (tgt := 73) (dk_at dkX6_setSetup 33 rfl) rfl ?_
        refine q_istore (pc' := 75) (L' := [some (vR m), some (vI fv), some (vI to), some (vI v0), some (vI (41 + to)), none]) (dk_at dkX6_setSetup 41 rfl) (by decide) rfl rfl ?_
        refine q_aload_n (pc' := 76) (dk_at dkX6_setSetup 42 rfl) rfl rfl ?_
        refine r_getf (pc' := 79) fl_RX6_7 (dk_at dkX6_setSetup 43 rfl) hM.obj rfl rfl ?_
        refine q_iload (pc' := 81) (dk_at dkX6_setSetup 44 rfl) rfl rfl ?_
        refine r_iald (pc' := 82) (dk_at dkX6_setSetup 45 rfl) hM.all (((41 + to)).toNat) (by omega) (by omega) (by decide) rfl ?_
        refine q_istore (pc' := 84) (L' := [some (vR m), some (vI fv), some (vI to), some (vI v0), some (vI (41 + to)), some (vI (A (((41 + to)).toNat)))]) (dk_at dkX6_setSetup 46 rfl) (by decide) rfl rfl ?_
        refine q_aload_n (pc' := 85) (dk_at dkX6_setSetup 47 rfl) rfl rfl ?_
        refine r_getf (pc' := 88) fl_RX6_7 (dk_at dkX6_setSetup 48 rfl) hM.obj rfl rfl ?_
        refine q_iload (pc' := 90) (dk_at dkX6_setSetup 49 rfl) rfl rfl ?_
        refine q_iload_n (pc' := 91) (dk_at dkX6_setSetup 50 rfl) rfl rfl ?_
        refine r_iast (pc' := 92) (dk_at dkX6_setSetup 51 rfl) hM.all (((41 + to)).toNat) (by omega) (by omega) (by decide) rfl (fun hh9 ehh9 => ?_)
        have hM := hM.w_all ehh9
        have hF := hF.put ehh9 (by omega)
        refine q_iload (pc' := 94) (dk_at dkX6_setSetup 52 rfl) rfl rfl ?_
        refine r_iret rfl (dk_at dkX6_setSetup 53 rfl) ?_
        rw [show (41 + to).toNat = 41 + 4 * (fv + 1).toNat + to.toNat by omega] at hM ⊢
        refine Or.inl ⟨yff, by omega, ?_, ⟨_, _, _, _, _, _, _, _, _, _, _, _, _, _, _, _, _, _, _, _, _, _, _, hM, ⟨hR.setT hc8 (by omega) (by omega) (upz_eq _ _ _) (fun k k1 k2 => upz_ne k2), hP.cong (fun k k1 k2 => upz_ne (by omega)) hp8⟩, hSv, hTx, hL⟩, hF⟩
        rw [show (fv + 1).toNat = 0 by omega]
        exact hR.t0 (by omega)
    · refine q_iconst (pc' := 48) (dk_at dkX6_setSetup 23 rfl) rfl ?_
      refine r_iret rfl (dk_at dkX6_setSetup 24 rfl) ?_
      by_cases z : jx32 = 0
      · rw [if_pos z] at hM
        exact Or.inr (Or.inl ⟨yf.f z, ⟨_, _, _, _, _, _, _, _, _, _, _, _, _, _, _, _, _, _, _, _, _, _, _, hM, ⟨hR, hP⟩, hSv, hTx, hL⟩, hF⟩)
      · rw [if_neg z, if_pos (by have := y41.f (by omega); omega)] at hM
        exact Or.inr (Or.inr ⟨yf.t z, by have := y41.f (by omega); have := yf.r; have := y38.f (by have := y38.r; omega); omega, ⟨_, _, _, _, _, _, _, _, _, _, _, _, _, _, _, _, _, _, _, _, _, _, _, hM, ⟨hR, hP⟩, hSv, hTx, hL⟩, hF⟩)
  refine q_iload_n (pc' := 2) (dk_at dkX6_setSetup 1 rfl) rfl rfl ?_
  refine q_i2l (pc' := 3) (dk_at dkX6_setSetup 2 rfl) (by omega) rfl ?_
  refine q_ldc2 (pc' := 6) (z := -1) kc_RX6_108 (by decide +kernel) (dk_at dkX6_setSetup 3 rfl) rfl ?_
  refine q_ldc2 (pc' := 9) (z := 3) kc_RX6_77 (by decide +kernel) (dk_at dkX6_setSetup 4 rfl) rfl ?_
  refine r_cSI (pc' := 12) (As := [vJ fv, vJ (-1), vJ 3]) (S := [vR m]) cs_RX6_73 (dk_at dkX6_setSetup 5 rfl) (k_M_in (d := 0) (by omega) (by omega) (by omega)) (by omega) (Nat.zero_le _) (Nat.zero_le _) rfl (Nat.le_of_ble_eq_true rfl) rfl (Nat.le_of_ble_eq_true rfl) rfl (fun xx10 hh11 hphh11 => ?_)
  obtain ⟨qq12, y9⟩ := hphh11
  rw [qq12]
  have yr9 := y9.r
  refine q_if_eq (tgt := 31) (pc' := 15) (dk_at dkX6_setSetup 6 rfl) rfl rfl (by omega) (fun c12 => ?_) (fun c12 => ?_)
  · refine q_iconst (pc' := 32) (dk_at dkX6_setSetup 15 rfl) rfl ?_
    exact J32 _ (Or.inr ⟨rfl, by have := y9.f c12; omega⟩)
  · refine q_iload_n (pc' := 16) (dk_at dkX6_setSetup 7 rfl) rfl rfl ?_
    refine q_i2l (pc' := 17) (dk_at dkX6_setSetup 8 rfl) (by omega) rfl ?_
    refine q_lconst0 (pc' := 18) (dk_at dkX6_setSetup 9 rfl) rfl ?_
    refine q_ldc2 (pc' := 21) (z := 3) kc_RX6_77 (by decide +kernel) (dk_at dkX6_setSetup 10 rfl) rfl ?_
    refine r_cSI (pc' := 24) (As := [vJ to, vJ 0, vJ 3]) (S := [vR m]) cs_RX6_73 (dk_at dkX6_setSetup 11 rfl) (k_M_in (d := 0) (by omega) (by omega) (by omega)) (by omega) (Nat.zero_le _) (Nat.zero_le _) rfl (Nat.le_of_ble_eq_true rfl) rfl (Nat.le_of_ble_eq_true rfl) rfl (fun xx13 hh14 hphh14 => ?_)
    obtain ⟨qq15, y21⟩ := hphh14
    rw [qq15]
    have yr21 := y21.r
    refine q_if_eq (tgt := 31) (pc' := 27) (dk_at dkX6_setSetup 12 rfl) rfl rfl (by omega) (fun c24 => ?_) (fun c24 => ?_)
    · refine q_iconst (pc' := 32) (dk_at dkX6_setSetup 15 rfl) rfl ?_
      exact J32 _ (Or.inr ⟨rfl, by have := y21.f c24; omega⟩)
    · refine q_iconst (pc' := 28) (dk_at dkX6_setSetup 13 rfl) rfl ?_
      refine q_goto (tgt := 32) (dk_at dkX6_setSetup 14 rfl) rfl ?_
      exact J32 _ (Or.inl ⟨rfl, by have := y9.t c12; have := y21.t c24; omega⟩)

set_option maxHeartbeats 4000000 in
set_option maxRecDepth 100000 in
theorem k_M_setMode {d n : Nat} {h : PH} {m : Nat} {S : Shp} {P : PlS} {kn bs : Int} {sv tl : Nat} {x : Nat → Snp} {tx : Nat → Int} {th : Int} {wh er : Int} (hd : 30 ≤ d) (hI : MOI n h m th ((S, P, kn, bs), sv, x, tx, tl)) (hO : BOk ((S, P, kn, bs), sv, x, tx, tl)) (hi1 : wh = 0 ∨ wh = 1) (hi2 : er = 0 ∨ er = 1) : CtrI mX6_setMode d [vR m, vI wh, vI er] n h (fun v h' => v = 2 * S.wh + S.er ∧ MOI n h' m 0 ((S.setM wh er, P, 0, bs), pshN sv, (pshX sv x (S, P, kn, bs)), tx, tl) ∧ Fr h h' m (m + 19)) := by
  obtain ⟨A, sd, sq, op, ss, es, bo, su, se, tx1, ba, le, fr, un, sF, sR, sT, ad, l0, bm, nf, ne, nc, hM, ⟨hR, hP⟩, hSv, hTx, hL⟩ := hI
  have hM : isModel n h m A sd (sv : Int) th sq op l0 ss es bo su se bm tx1 (tl : Int) ba le fr un nf ne nc sF sR sT ad := hM
  have hR : MR A S := hR
  have hP : MP A P := hP
  have hSv : MSv sd sv x := hSv
  have hTx : ∀ i, i < tl → tx1 i = tx i := hTx
  obtain ⟨hko, hsv, hks, htl, htx⟩ := hO
  have hko : SnOk (S, P, kn, bs) := hko
  have hsv : sv ≤ 4 := hsv
  have hks : ∀ i, i < sv → SnOk (x i) := hks
  have htl : tl ≤ 60 := htl
  have htx : ∀ i, 0 ≤ tx i ∧ tx i ≤ 127 := htx
  have hk : Sok S := hko.1
  have hc8 := hk.c
  have hkp : Pok S.cnt P.od P.en P.bc P.sz := hko.2.1
  have hp8 : P.sz ≤ 8 := hkp.1
  have hpb : P.bc ≤ P.sz := hkp.2.1
  have hA0 := hR.c
  have hF : Fr h h m (m + 19) := Fr.rf
  have hwh := hR.w
  have her := hR.e
  have hwr := hk.w
  have hee := hk.e
  refine q_beginI (L := [some (vR m), some (vI wh), some (vI er), none]) rfl ?_
  refine q_aload_n (pc' := 1) (dk_at dkX6_setMode 0 rfl) rfl rfl ?_
  refine q_iconst (pc' := 2) (dk_at dkX6_setMode 1 rfl) rfl ?_
  refine r_putf (pc' := 5) fp_RX6_66 (dk_at dkX6_setMode 2 rfl) hM.obj (Nat.le_of_ble_eq_true rfl) (PT_int _) rfl (fun hh1 ehh1 => ?_)
  have hM := hM.w_obj ehh1
  have hF := hF.put ehh1 (by omega)
  refine q_aload_n (pc' := 6) (dk_at dkX6_setMode 3 rfl) rfl rfl ?_
  refine r_cVV (pc' := 9) (As := []) (S := []) cv_RX6_95 (dk_at dkX6_setMode 4 rfl) hM.obj rfl (k_M_save (d := 0) (c := (S, P, kn, bs)) hko hks hsv ⟨hR, hP⟩ hSv hM) (by omega) (Nat.zero_le _) (Nat.zero_le _) rfl (Nat.le_of_ble_eq_true rfl) rfl (Nat.le_of_ble_eq_true rfl) rfl (fun hh3 hphh3 => ?_)
  obtain ⟨sd2, hM, hSv, hGf⟩ := hphh3
  have hF := hF.tr hGf (by omega)
  refine q_iconst (pc' := 10) (dk_at dkX6_setMode 5 rfl) rfl ?_
  refine q_aload_n (pc' := 11) (dk_at dkX6_setMode 6 rfl) rfl rfl ?_
  refine r_getf (pc' := 14) fl_RX6_7 (dk_at dkX6_setMode 7 rfl) hM.obj rfl rfl ?_
  refine q_bipush (pc' := 16) (dk_at dkX6_setMode 8 rfl) (by decide +kernel) rfl ?_
  refine r_iald (pc' := 17) (dk_at dkX6_setMode 9 rfl) hM.all 61 (by omega) (by omega) (by decide) rfl ?_
  refine q_imul (pc' := 18) (dk_at dkX6_setMode 10 rfl) rfl ?_
  refine q_aload_n (pc' := 19) (dk_at dkX6_setMode 11 rfl) rfl rfl ?_
  refine r_getf (pc' := 22) fl_RX6_7 (dk_at dkX6_setMode 12 rfl) hM.obj rfl rfl ?_
  refine q_bipush (pc' := 24) (dk_at dkX6_setMode 13 rfl) (by decide +kernel) rfl ?_
  refine r_iald (pc' := 25) (dk_at dkX6_setMode 14 rfl) hM.all 62 (by omega) (by omega) (by decide) rfl ?_
  refine q_iadd (pc' := 26) (dk_at dkX6_setMode 15 rfl) rfl ?_
  refine q_istore_n (pc' := 27) (L' := [some (vR m), some (vI wh), some (vI er), some (vI ((2 * (A 61)) + (A 62)))]) (dk_at dkX6_setMode 16 rfl) (by decide) rfl rfl ?_
  refine q_aload_n (pc' := 28) (dk_at dkX6_setMode 17 rfl) rfl rfl ?_
  refine r_getf (pc' := 31) fl_RX6_7 (dk_at dkX6_setMode 18 rfl) hM.obj rfl rfl ?_
  refine q_bipush (pc' := 33) (dk_at dkX6_setMode 19 rfl) (by decide +kernel) rfl ?_
  refine q_iload_n (pc' := 34) (dk_at dkX6_setMode 20 rfl) rfl rfl ?_
  refine q_if_eq (tgt := 41) (pc' := 37) (dk_at dkX6_setMode 21 rfl) rfl rfl (by omega) (fun c34 => ?_) (fun c34 => ?_)
  · refine q_iconst (pc' := 42) (dk_at dkX6_setMode 24 rfl) rfl ?_
    refine r_iast (pc' := 43) (dk_at dkX6_setMode 25 rfl) hM.all 61 (by omega) (by omega) (by decide) rfl (fun hh4 ehh4 => ?_)
    have hM := hM.w_all ehh4
    have hF := hF.put ehh4 (by omega)
    refine q_aload_n (pc' := 44) (dk_at dkX6_setMode 26 rfl) rfl rfl ?_
    refine r_getf (pc' := 47) fl_RX6_7 (dk_at dkX6_setMode 27 rfl) hM.obj rfl rfl ?_
    refine q_bipush (pc' := 49) (dk_at dkX6_setMode 28 rfl) (by decide +kernel) rfl ?_
    refine q_iload_n (pc' := 50) (dk_at dkX6_setMode 29 rfl) rfl rfl ?_
    refine q_if_eq (tgt := 57) (pc' := 53) (dk_at dkX6_setMode 30 rfl) rfl rfl (by omega) (fun c50 => ?_) (fun c50 => ?_)
    · refine q_iconst (pc' := 58) (dk_at dkX6_setMode 33 rfl) rfl ?_
      refine r_iast (pc' := 59) (dk_at dkX6_setMode 34 rfl) hM.all 62 (by omega) (by omega) (by decide) rfl (fun hh5 ehh5 => ?_)
      have hM := hM.w_all ehh5
      have hF := hF.put ehh5 (by omega)
      refine q_iload_n (pc' := 60) (dk_at dkX6_setMode 35 rfl) rfl rfl ?_
      refine r_iret rfl (dk_at dkX6_setMode 36 rfl) ?_
      refine ⟨by omega, ⟨_, _, _, _, _, _, _, _, _, _, _, _, _, _, _, _, _, _, _, _, _, _, _, hM, ⟨⟨?_, fun w j hw hj => ?_, fun t ht => ?_, fun f t hf ht => ?_, ?_, ?_, ?_⟩, hP.cong (fun k k1 k2 => ?_) hp8⟩, hSv, hTx, hL⟩, hF⟩
      · repeat (first | rw [upz_at (by omega)] | rw [upz_ne (by omega)])
        exact hR.c
      · have hj : j < S.cnt := hj
        repeat (first | rw [upz_at (by omega)] | rw [upz_ne (by omega)])
        exact hR.v hw hj
      · repeat (first | rw [upz_at (by omega)] | rw [upz_ne (by omega)])
        exact hR.t0 ht
      · repeat (first | rw [upz_at (by omega)] | rw [upz_ne (by omega)])
        exact hR.t hf ht
      · repeat (first | rw [upz_at (by omega)] | rw [upz_ne (by omega)])
        show _ = wh
        omega
      · repeat (first | rw [upz_at (by omega)] | rw [upz_ne (by omega)])
        show _ = er
        omega
      · repeat (first | rw [upz_at (by omega)] | rw [upz_ne (by omega)])
        exact hR.o
      · repeat (first | rw [upz_at (by omega)] | rw [upz_ne (by omega)])
    · refine q_iconst (pc' := 54) (dk_at dkX6_setMode 31 rfl) rfl ?_
      refine q_goto (tgt := 58) (dk_at dkX6_setMode 32 rfl) rfl ?_
      refine r_iast (pc' := 59) (dk_at dkX6_setMode 34 rfl) hM.all 62 (by omega) (by omega) (by decide) rfl (fun hh6 ehh6 => ?_)
      have hM := hM.w_all ehh6
      have hF := hF.put ehh6 (by omega)
      refine q_iload_n (pc' := 60) (dk_at dkX6_setMode 35 rfl) rfl rfl ?_
      refine r_iret rfl (dk_at dkX6_setMode 36 rfl) ?_
      refine ⟨by omega, ⟨_, _, _, _, _, _, _, _, _, _, _, _, _, _, _, _, _, _, _, _, _, _, _, hM, ⟨⟨?_, fun w j hw hj => ?_, fun t ht => ?_, fun f t hf ht => ?_, ?_, ?_, ?_⟩, hP.cong (fun k k1 k2 => ?_) hp8⟩, hSv, hTx, hL⟩, hF⟩
      · repeat (first | rw [upz_at (by omega)] | rw [upz_ne (by omega)])
        exact hR.c
      · have hj : j < S.cnt := hj
        repeat (first | rw [upz_at (by omega)] | rw [upz_ne (by omega)])
        exact hR.v hw hj
      · repeat (first | rw [upz_at (by omega)] | rw [upz_ne (by omega)])
        exact hR.t0 ht
      · repeat (first | rw [upz_at (by omega)] | rw [upz_ne (by omega)])
        exact hR.t hf ht
      · repeat (first | rw [upz_at (by omega)] | rw [upz_ne (by omega)])
        show _ = wh
        omega
      · repeat (first | rw [upz_at (by omega)] | rw [upz_ne (by omega)])
        show _ = er
        omega
      · repeat (first | rw [upz_at (by omega)] | rw [upz_ne (by omega)])
        exact hR.o
      · repeat (first | rw [upz_at (by omega)] | rw [upz_ne (by omega)])
  · refine q_iconst (pc' := 38) (dk_at dkX6_setMode 22 rfl) rfl ?_
    refine q_goto (tgt := 42) (dk_at dkX6_setMode 23 rfl) rfl ?_
    refine r_iast (pc' := 43) (dk_at dkX6_setMode 25 rfl) hM.all 61 (by omega) (by omega) (by decide) rfl (fun hh7 ehh7 => ?_)
    have hM := hM.w_all ehh7
    have hF := hF.put ehh7 (by omega)
    refine q_aload_n (pc' := 44) (dk_at dkX6_setMode 26 rfl) rfl rfl ?_
    refine r_getf (pc' := 47) fl_RX6_7 (dk_at dkX6_setMode 27 rfl) hM.obj rfl rfl ?_
    refine q_bipush (pc' := 49) (dk_at dkX6_setMode 28 rfl) (by decide +kernel) rfl ?_
    refine q_iload_n (pc' := 50) (dk_at dkX6_setMode 29 rfl) rfl rfl ?_
    refine q_if_eq (tgt := 57) (pc' := 53) (dk_at dkX6_setMode 30 rfl) rfl rfl (by omega) (fun c50 => ?_) (fun c50 => ?_)
    · refine q_iconst (pc' := 58) (dk_at dkX6_setMode 33 rfl) rfl ?_
      refine r_iast (pc' := 59) (dk_at dkX6_setMode 34 rfl) hM.all 62 (by omega) (by omega) (by decide) rfl (fun hh8 ehh8 => ?_)
      have hM := hM.w_all ehh8
      have hF := hF.put ehh8 (by omega)
      refine q_iload_n (pc' := 60) (dk_at dkX6_setMode 35 rfl) rfl rfl ?_
      refine r_iret rfl (dk_at dkX6_setMode 36 rfl) ?_
      refine ⟨by omega, ⟨_, _, _, _, _, _, _, _, _, _, _, _, _, _, _, _, _, _, _, _, _, _, _, hM, ⟨⟨?_, fun w j hw hj => ?_, fun t ht => ?_, fun f t hf ht => ?_, ?_, ?_, ?_⟩, hP.cong (fun k k1 k2 => ?_) hp8⟩, hSv, hTx, hL⟩, hF⟩
      · repeat (first | rw [upz_at (by omega)] | rw [upz_ne (by omega)])
        exact hR.c
      · have hj : j < S.cnt := hj
        repeat (first | rw [upz_at (by omega)] | rw [upz_ne (by omega)])
        exact hR.v hw hj
      · repeat (first | rw [upz_at (by omega)] | rw [upz_ne (by omega)])
        exact hR.t0 ht
      · repeat (first | rw [upz_at (by omega)] | rw [upz_ne (by omega)])
        exact hR.t hf ht
      · repeat (first | rw [upz_at (by omega)] | rw [upz_ne (by omega)])
        show _ = wh
        omega
      · repeat (first | rw [upz_at (by omega)] | rw [upz_ne (by omega)])
        show _ = er
        omega
      · repeat (first | rw [upz_at (by omega)] | rw [upz_ne (by omega)])
        exact hR.o
      · repeat (first | rw [upz_at (by omega)] | rw [upz_ne (by omega)])
    · refine q_iconst (pc' := 54) (dk_at dkX6_setMode 31 rfl) rfl ?_
      refine q_goto (tgt := 58) (dk_at dkX6_setMode 32 rfl) rfl ?_
      refine r_iast (pc' := 59) (dk_at dkX6_setMode 34 rfl) hM.all 62 (by omega) (by omega) (by decide) rfl (fun hh9 ehh9 => ?_)
      have hM := hM.w_all ehh9
      have hF := hF.put ehh9 (by omega)
      refine q_iload_n (pc' := 60) (dk_at dkX6_setMode 35 rfl) rfl rfl ?_
      refine r_iret rfl (dk_at dkX6_setMode 36 rfl) ?_
      refine ⟨by omega, ⟨_, _, _, _, _, _, _, _, _, _, _, _, _, _, _, _, _, _, _, _, _, _, _, hM, ⟨⟨?_, fun w j hw hj => ?_, fun t ht => ?_, fun f t hf ht => ?_, ?_, ?_, ?_⟩, hP.cong (fun k k1 k2 => ?_) hp8⟩, hSv, hTx, hL⟩, hF⟩
      · repeat (first | rw [upz_at (by omega)] | rw [upz_ne (by omega)])
        exact hR.c
      · have hj : j < S.cnt := hj
        repeat (first | rw [upz_at (by omega)] | rw [upz_ne (by omega)])
        exact hR.v hw hj
      · repeat (first | rw [upz_at (by omega)] | rw [upz_ne (by omega)])
        exact hR.t0 ht
      · repeat (first | rw [upz_at (by omega)] | rw [upz_ne (by omega)])
        exact hR.t hf ht
      · repeat (first | rw [upz_at (by omega)] | rw [upz_ne (by omega)])
        show _ = wh
        omega
      · repeat (first | rw [upz_at (by omega)] | rw [upz_ne (by omega)])
        show _ = er
        omega
      · repeat (first | rw [upz_at (by omega)] | rw [upz_ne (by omega)])
        exact hR.o
      · repeat (first | rw [upz_at (by omega)] | rw [upz_ne (by omega)])

set_option maxHeartbeats 4000000 in
set_option maxRecDepth 100000 in
theorem k_M_setObjective {d n : Nat} {h : PH} {m : Nat} {S : Shp} {P : PlS} {kn bs : Int} {sv tl : Nat} {x : Nat → Snp} {tx : Nat → Int} {th : Int} {ob : Int} (hd : 30 ≤ d) (hI : MOI n h m th ((S, P, kn, bs), sv, x, tx, tl)) (hO : BOk ((S, P, kn, bs), sv, x, tx, tl)) (hi1 : IR ob) : CtrI mX6_setObjective d [vR m, vI ob] n h (fun v h' => ((0 ≤ ob ∧ ob ≤ 5) ∧ v = S.ob ∧ MOI n h' m 0 ((S.setO ob, P, 0, bs), pshN sv, (pshX sv x (S, P, kn, bs)), tx, tl) ∧ Fr h h' m (m + 19)) ∨ (¬ (0 ≤ ob ∧ ob ≤ 5) ∧ MOI n h' m 1 ((S, P, kn, bs), sv, x, tx, tl) ∧ Fr h h' m (m + 19))) := by
  obtain ⟨A, sd, sq, op, ss, es, bo, su, se, tx1, ba, le, fr, un, sF, sR, sT, ad, l0, bm, nf, ne, nc, hM, ⟨hR, hP⟩, hSv, hTx, hL⟩ := hI
  have hM : isModel n h m A sd (sv : Int) th sq op l0 ss es bo su se bm tx1 (tl : Int) ba le fr un nf ne nc sF sR sT ad := hM
  have hR : MR A S := hR
  have hP : MP A P := hP
  have hSv : MSv sd sv x := hSv
  have hTx : ∀ i, i < tl → tx1 i = tx i := hTx
  obtain ⟨hko, hsv, hks, htl, htx⟩ := hO
  have hko : SnOk (S, P, kn, bs) := hko
  have hsv : sv ≤ 4 := hsv
  have hks : ∀ i, i < sv → SnOk (x i) := hks
  have htl : tl ≤ 60 := htl
  have htx : ∀ i, 0 ≤ tx i ∧ tx i ≤ 127 := htx
  have hk : Sok S := hko.1
  have hc8 := hk.c
  have hkp : Pok S.cnt P.od P.en P.bc P.sz := hko.2.1
  have hp8 : P.sz ≤ 8 := hkp.1
  have hpb : P.bc ≤ P.sz := hkp.2.1
  have hA0 := hR.c
  have hF : Fr h h m (m + 19) := Fr.rf
  refine q_beginI (L := [some (vR m), some (vI ob), none]) rfl ?_
  refine q_aload_n (pc' := 1) (dk_at dkX6_setObjective 0 rfl) rfl rfl ?_
  refine q_iload_n (pc' := 2) (dk_at dkX6_setObjective 1 rfl) rfl rfl ?_
  refine q_i2l (pc' := 3) (dk_at dkX6_setObjective 2 rfl) (by omega) rfl ?_
  refine q_lconst0 (pc' := 4) (dk_at dkX6_setObjective 3 rfl) rfl ?_
  refine q_ldc2 (pc' := 7) (z := 5) kc_RX6_112 (by decide +kernel) (dk_at dkX6_setObjective 4 rfl) rfl ?_
  refine r_cSI (pc' := 10) (As := [vJ ob, vJ 0, vJ 5]) (S := [vR m]) cs_RX6_73 (dk_at dkX6_setObjective 5 rfl) (k_M_in (d := 0) (by omega) (by omega) (by omega)) (by omega) (Nat.zero_le _) (Nat.zero_le _) rfl (Nat.le_of_ble_eq_true rfl) rfl (Nat.le_of_ble_eq_true rfl) rfl (fun xx1 hh2 hphh2 => ?_)
  obtain ⟨qq3, y7⟩ := hphh2
  rw [qq3]
  have yr7 := y7.r
  refine q_iconst (pc' := 11) (dk_at dkX6_setObjective 6 rfl) rfl ?_
  refine r_cVI (pc' := 14) (As := [vI xx1, vI 1]) (S := []) cv_RX6_91 (dk_at dkX6_setObjective 7 rfl) hM.obj rfl (k_M_goes (d := 0) (by omega) (by omega) hM) (by omega) (Nat.zero_le _) (Nat.zero_le _) rfl (Nat.le_of_ble_eq_true rfl) rfl (Nat.le_of_ble_eq_true rfl) rfl (fun xx4 hh5 hphh5 => ?_)
  obtain ⟨y11, hM, hGf⟩ := hphh5
  have hF := hF.tr hGf (by omega)
  have yr11 := y11.r
  refine q_if_ne (tgt := 19) (pc' := 17) (dk_at dkX6_setObjective 8 rfl) rfl rfl (by omega) (fun c14 => ?_) (fun c14 => ?_)
  · refine q_aload_n (pc' := 20) (dk_at dkX6_setObjective 11 rfl) rfl rfl ?_
    refine r_cVV (pc' := 23) (As := []) (S := []) cv_RX6_95 (dk_at dkX6_setObjective 12 rfl) hM.obj rfl (k_M_save (d := 0) (c := (S, P, kn, bs)) hko hks hsv ⟨hR, hP⟩ hSv hM) (by omega) (Nat.zero_le _) (Nat.zero_le _) rfl (Nat.le_of_ble_eq_true rfl) rfl (Nat.le_of_ble_eq_true rfl) rfl (fun hh7 hphh7 => ?_)
    obtain ⟨sd2, hM, hSv, hGf⟩ := hphh7
    have hF := hF.tr hGf (by omega)
    refine q_aload_n (pc' := 24) (dk_at dkX6_setObjective 13 rfl) rfl rfl ?_
    refine r_getf (pc' := 27) fl_RX6_7 (dk_at dkX6_setObjective 14 rfl) hM.obj rfl rfl ?_
    refine q_bipush (pc' := 29) (dk_at dkX6_setObjective 15 rfl) (by decide +kernel) rfl ?_
    refine r_iald (pc' := 30) (dk_at dkX6_setObjective 16 rfl) hM.all 63 (by omega) (by omega) (by decide) rfl ?_
    refine q_istore_n (pc' := 31) (L' := [some (vR m), some (vI ob), some (vI (A 63))]) (dk_at dkX6_setObjective 17 rfl) (by decide) rfl rfl ?_
    refine q_aload_n (pc' := 32) (dk_at dkX6_setObjective 18 rfl) rfl rfl ?_
    refine r_getf (pc' := 35) fl_RX6_7 (dk_at dkX6_setObjective 19 rfl) hM.obj rfl rfl ?_
    refine q_bipush (pc' := 37) (dk_at dkX6_setObjective 20 rfl) (by decide +kernel) rfl ?_
    refine q_iload_n (pc' := 38) (dk_at dkX6_setObjective 21 rfl) rfl rfl ?_
    refine r_iast (pc' := 39) (dk_at dkX6_setObjective 22 rfl) hM.all 63 (by omega) (by omega) (by decide) rfl (fun hh8 ehh8 => ?_)
    have hM := hM.w_all ehh8
    have hF := hF.put ehh8 (by omega)
    refine q_iload_n (pc' := 40) (dk_at dkX6_setObjective 23 rfl) rfl rfl ?_
    refine r_iret rfl (dk_at dkX6_setObjective 24 rfl) ?_
    have yy := y11.t (by omega)
    rw [if_neg (by omega), if_neg (by omega)] at hM
    refine Or.inl ⟨by have := y7.t (by omega); omega, hR.o, ⟨_, _, _, _, _, _, _, _, _, _, _, _, _, _, _, _, _, _, _, _, _, _, _, hM, ⟨⟨?_, fun w j hw hj => ?_, fun t ht => ?_, fun f t hf ht => ?_, ?_, ?_, ?_⟩, hP.cong (fun k k1 k2 => ?_) hp8⟩, hSv, hTx, hL⟩, hF⟩
    · repeat (first | rw [upz_at (by omega)] | rw [upz_ne (by omega)])
      exact hR.c
    · have hj : j < S.cnt := hj
      repeat (first | rw [upz_at (by omega)] | rw [upz_ne (by omega)])
      exact hR.v hw hj
    · repeat (first | rw [upz_at (by omega)] | rw [upz_ne (by omega)])
      exact hR.t0 ht
    · repeat (first | rw [upz_at (by omega)] | rw [upz_ne (by omega)])
      exact hR.t hf ht
    · repeat (first | rw [upz_at (by omega)] | rw [upz_ne (by omega)])
      exact hR.w
    · repeat (first | rw [upz_at (by omega)] | rw [upz_ne (by omega)])
      exact hR.e
    · repeat (first | rw [upz_at (by omega)] | rw [upz_ne (by omega)])
      rfl
    · repeat (first | rw [upz_at (by omega)] | rw [upz_ne (by omega)])
  · refine q_iconst (pc' := 18) (dk_at dkX6_setObjective 9 rfl) rfl ?_
    refine r_iret rfl (dk_at dkX6_setObjective 10 rfl) ?_
    rw [if_pos (by have := y11.f (by omega); omega)] at hM
    exact Or.inr ⟨by have := y11.f (by omega); have := y7.f (by have := y7.r; omega); omega, ⟨_, _, _, _, _, _, _, _, _, _, _, _, _, _, _, _, _, _, _, _, _, _, _, hM, ⟨hR, hP⟩, hSv, hTx, hL⟩, hF⟩

set_option maxHeartbeats 4000000 in
set_option maxRecDepth 100000 in
theorem k_M_append {d n : Nat} {h : PH} {m : Nat} {S : Shp} {P : PlS} {kn bs : Int} {sv tl : Nat} {x : Nat → Snp} {tx : Nat → Int} {th : Int} {v0 : Int} (hd : 30 ≤ d) (hI : MOI n h m th ((S, P, kn, bs), sv, x, tx, tl)) (hO : BOk ((S, P, kn, bs), sv, x, tx, tl)) (hi1 : IR v0) : CtrI mX6_append d [vR m, vI v0] n h (fun v h' => ((0 ≤ v0 ∧ v0 ≤ 127) ∧ tl < 60 ∧ v = (tl : Int) + 1 ∧ MOI n h' m 0 ((S, P, kn, bs), sv, x, upz tx tl v0, tl + 1) ∧ Fr h h' m (m + 19)) ∨ (¬ (0 ≤ v0 ∧ v0 ≤ 127) ∧ MOI n h' m 1 ((S, P, kn, bs), sv, x, tx, tl) ∧ Fr h h' m (m + 19)) ∨ ((0 ≤ v0 ∧ v0 ≤ 127) ∧ tl = 60 ∧ MOI n h' m 2 ((S, P, kn, bs), sv, x, tx, tl) ∧ Fr h h' m (m + 19))) := by
  obtain ⟨A, sd, sq, op, ss, es, bo, su, se, tx1, ba, le, fr, un, sF, sR, sT, ad, l0, bm, nf, ne, nc, hM, ⟨hR, hP⟩, hSv, hTx, hL⟩ := hI
  have hM : isModel n h m A sd (sv : Int) th sq op l0 ss es bo su se bm tx1 (tl : Int) ba le fr un nf ne nc sF sR sT ad := hM
  have hR : MR A S := hR
  have hP : MP A P := hP
  have hSv : MSv sd sv x := hSv
  have hTx : ∀ i, i < tl → tx1 i = tx i := hTx
  obtain ⟨hko, hsv, hks, htl, htx⟩ := hO
  have hko : SnOk (S, P, kn, bs) := hko
  have hsv : sv ≤ 4 := hsv
  have hks : ∀ i, i < sv → SnOk (x i) := hks
  have htl : tl ≤ 60 := htl
  have htx : ∀ i, 0 ≤ tx i ∧ tx i ≤ 127 := htx
  have hk : Sok S := hko.1
  have hc8 := hk.c
  have hkp : Pok S.cnt P.od P.en P.bc P.sz := hko.2.1
  have hp8 : P.sz ≤ 8 := hkp.1
  have hpb : P.bc ≤ P.sz := hkp.2.1
  have hA0 := hR.c
  have hF : Fr h h m (m + 19) := Fr.rf
  refine q_beginI (L := [some (vR m), some (vI v0)]) rfl ?_
  refine q_aload_n (pc' := 1) (dk_at dkX6_append 0 rfl) rfl rfl ?_
  refine q_iload_n (pc' := 2) (dk_at dkX6_append 1 rfl) rfl rfl ?_
  refine q_i2l (pc' := 3) (dk_at dkX6_append 2 rfl) (by omega) rfl ?_
  refine q_lconst0 (pc' := 4) (dk_at dkX6_append 3 rfl) rfl ?_
  refine q_ldc2 (pc' := 7) (z := 127) kc_RX6_149 (by decide +kernel) (dk_at dkX6_append 4 rfl) rfl ?_
  refine r_cSI (pc' := 10) (As := [vJ v0, vJ 0, vJ 127]) (S := [vR m]) cs_RX6_73 (dk_at dkX6_append 5 rfl) (k_M_in (d := 0) (by omega) (by omega) (by omega)) (by omega) (Nat.zero_le _) (Nat.zero_le _) rfl (Nat.le_of_ble_eq_true rfl) rfl (Nat.le_of_ble_eq_true rfl) rfl (fun xx1 hh2 hphh2 => ?_)
  obtain ⟨qq3, y7⟩ := hphh2
  rw [qq3]
  have yr7 := y7.r
  refine q_aload_n (pc' := 11) (dk_at dkX6_append 6 rfl) rfl rfl ?_
  refine r_getf (pc' := 14) fl_RX6_151 (dk_at dkX6_append 7 rfl) hM.obj rfl rfl ?_
  refine q_bipush (pc' := 16) (dk_at dkX6_append 8 rfl) (by decide +kernel) rfl ?_
  refine q_icmp_ge (tgt := 23) (pc' := 19) (dk_at dkX6_append 9 rfl) rfl rfl (by omega) (by omega) (fun c16 => ?_) (fun c16 => ?_)
  · refine q_iconst (pc' := 24) (dk_at dkX6_append 12 rfl) rfl ?_
    refine r_cVI (pc' := 27) (As := [vI xx1, vI 0]) (S := []) cv_RX6_91 (dk_at dkX6_append 13 rfl) hM.obj rfl (k_M_goes (d := 0) (by omega) (by omega) hM) (by omega) (Nat.zero_le _) (Nat.zero_le _) rfl (Nat.le_of_ble_eq_true rfl) rfl (Nat.le_of_ble_eq_true rfl) rfl (fun xx4 hh5 hphh5 => ?_)
    obtain ⟨y24, hM, hGf⟩ := hphh5
    have hF := hF.tr hGf (by omega)
    have yr24 := y24.r
    refine q_if_ne (tgt := 32) (pc' := 30) (dk_at dkX6_append 14 rfl) rfl rfl (by omega) (fun c27 => ?_) (fun c27 => ?_)
    · exfalso
      have yy := y24.t (by omega)
      omega
    · refine q_iconst (pc' := 31) (dk_at dkX6_append 15 rfl) rfl ?_
      refine r_iret rfl (dk_at dkX6_append 16 rfl) ?_
      by_cases z : xx1 = 0
      · rw [if_pos z] at hM
        exact Or.inr (Or.inl ⟨by have := y7.f z; omega, ⟨_, _, _, _, _, _, _, _, _, _, _, _, _, _, _, _, _, _, _, _, _, _, _, hM, ⟨hR, hP⟩, hSv, hTx, hL⟩, hF⟩)
      · rw [if_neg z, if_pos (by have := y24.f (by omega); omega)] at hM
        exact Or.inr (Or.inr ⟨by have := y7.t z; omega, by have := y24.f (by omega); omega, ⟨_, _, _, _, _, _, _, _, _, _, _, _, _, _, _, _, _, _, _, _, _, _, _, hM, ⟨hR, hP⟩, hSv, hTx, hL⟩, hF⟩)
  · refine q_iconst (pc' := 20) (dk_at dkX6_append 10 rfl) rfl ?_
    refine q_goto (tgt := 24) (dk_at dkX6_append 11 rfl) rfl ?_
    refine r_cVI (pc' := 27) (As := [vI xx1, vI 1]) (S := []) cv_RX6_91 (dk_at dkX6_append 13 rfl) hM.obj rfl (k_M_goes (d := 0) (by omega) (by omega) hM) (by omega) (Nat.zero_le _) (Nat.zero_le _) rfl (Nat.le_of_ble_eq_true rfl) rfl (Nat.le_of_ble_eq_true rfl) rfl (fun xx6 hh7 hphh7 => ?_)
    obtain ⟨y24, hM, hGf⟩ := hphh7
    have hF := hF.tr hGf (by omega)
    have yr24 := y24.r
    refine q_if_ne (tgt := 32) (pc' := 30) (dk_at dkX6_append 14 rfl) rfl rfl (by omega) (fun c27 => ?_) (fun c27 => ?_)
    · refine q_aload_n (pc' := 33) (dk_at dkX6_append 17 rfl) rfl rfl ?_
      refine r_getf (pc' := 36) fl_RX6_37 (dk_at dkX6_append 18 rfl) hM.obj rfl rfl ?_
      refine q_aload_n (pc' := 37) (dk_at dkX6_append 19 rfl) rfl rfl ?_
      refine r_getf (pc' := 40) fl_RX6_151 (dk_at dkX6_append 20 rfl) hM.obj rfl rfl ?_
      refine q_iload_n (pc' := 41) (dk_at dkX6_append 21 rfl) rfl rfl ?_
      refine r_iast (pc' := 42) (dk_at dkX6_append 22 rfl) hM.text tl (by omega) (by omega) (by decide) rfl (fun hh8 ehh8 => ?_)
      have hM := hM.w_text ehh8
      have hF := hF.put ehh8 (by omega)
      refine q_aload_n (pc' := 43) (dk_at dkX6_append 23 rfl) rfl rfl ?_
      refine q_dup (pc' := 44) (fun _ => rfl) (dk_at dkX6_append 24 rfl) rfl ?_
      refine r_getf (pc' := 47) fl_RX6_151 (dk_at dkX6_append 25 rfl) hM.obj rfl rfl ?_
      refine q_iconst (pc' := 48) (dk_at dkX6_append 26 rfl) rfl ?_
      refine q_iadd (pc' := 49) (dk_at dkX6_append 27 rfl) rfl ?_
      refine r_putf (pc' := 52) fp_RX6_151 (dk_at dkX6_append 28 rfl) hM.obj (Nat.le_of_ble_eq_true rfl) (PT_int _) rfl (fun hh9 ehh9 => ?_)
      have hM := hM.w_obj ehh9
      have hF := hF.put ehh9 (by omega)
      refine q_aload_n (pc' := 53) (dk_at dkX6_append 29 rfl) rfl rfl ?_
      refine r_getf (pc' := 56) fl_RX6_151 (dk_at dkX6_append 30 rfl) hM.obj rfl rfl ?_
      refine r_iret rfl (dk_at dkX6_append 31 rfl) ?_
      have yy := y24.t (by omega)
      rw [if_neg (by omega), if_neg (by omega)] at hM
      refine Or.inl ⟨by have := y7.t (by omega); omega, by omega, rfl, ⟨_, _, _, _, _, _, _, _, _, _, _, _, _, _, _, _, _, _, _, _, _, _, _, hM, ⟨hR, hP⟩, hSv, fun i hi => ?_, hL⟩, hF⟩
      have hi : i < tl + 1 := hi
      show _ = upz tx tl v0 i
      by_cases z : i = tl
      · rw [z, upz_eq, upz_eq]
      · rw [upz_ne z, upz_ne z]; exact hTx i (by omega)
    · refine q_iconst (pc' := 31) (dk_at dkX6_append 15 rfl) rfl ?_
      refine r_iret rfl (dk_at dkX6_append 16 rfl) ?_
      by_cases z : xx1 = 0
      · rw [if_pos z] at hM
        exact Or.inr (Or.inl ⟨by have := y7.f z; omega, ⟨_, _, _, _, _, _, _, _, _, _, _, _, _, _, _, _, _, _, _, _, _, _, _, hM, ⟨hR, hP⟩, hSv, hTx, hL⟩, hF⟩)
      · rw [if_neg z, if_pos (by have := y24.f (by omega); omega)] at hM
        exact Or.inr (Or.inr ⟨by have := y7.t z; omega, by have := y24.f (by omega); omega, ⟨_, _, _, _, _, _, _, _, _, _, _, _, _, _, _, _, _, _, _, _, _, _, _, hM, ⟨hR, hP⟩, hSv, hTx, hL⟩, hF⟩)

set_option maxHeartbeats 4000000 in
set_option maxRecDepth 100000 in
theorem k_M_clearText {d n : Nat} {h : PH} {m : Nat} {S : Shp} {P : PlS} {kn bs : Int} {sv tl : Nat} {x : Nat → Snp} {tx : Nat → Int} {th : Int}  (hd : 30 ≤ d) (hI : MOI n h m th ((S, P, kn, bs), sv, x, tx, tl)) (hO : BOk ((S, P, kn, bs), sv, x, tx, tl))  : CtrI mX6_clearText d [vR m] n h (fun v h' => v = (tl : Int) ∧ MOI n h' m 0 ((S, P, kn, bs), sv, x, tx, 0) ∧ Fr h h' m (m + 19)) := by
  obtain ⟨A, sd, sq, op, ss, es, bo, su, se, tx1, ba, le, fr, un, sF, sR, sT, ad, l0, bm, nf, ne, nc, hM, ⟨hR, hP⟩, hSv, hTx, hL⟩ := hI
  have hM : isModel n h m A sd (sv : Int) th sq op l0 ss es bo su se bm tx1 (tl : Int) ba le fr un nf ne nc sF sR sT ad := hM
  have hR : MR A S := hR
  have hP : MP A P := hP
  have hSv : MSv sd sv x := hSv
  have hTx : ∀ i, i < tl → tx1 i = tx i := hTx
  obtain ⟨hko, hsv, hks, htl, htx⟩ := hO
  have hko : SnOk (S, P, kn, bs) := hko
  have hsv : sv ≤ 4 := hsv
  have hks : ∀ i, i < sv → SnOk (x i) := hks
  have htl : tl ≤ 60 := htl
  have htx : ∀ i, 0 ≤ tx i ∧ tx i ≤ 127 := htx
  have hk : Sok S := hko.1
  have hc8 := hk.c
  have hkp : Pok S.cnt P.od P.en P.bc P.sz := hko.2.1
  have hp8 : P.sz ≤ 8 := hkp.1
  have hpb : P.bc ≤ P.sz := hkp.2.1
  have hA0 := hR.c
  have hF : Fr h h m (m + 19) := Fr.rf
  refine q_beginI (L := [some (vR m), none]) rfl ?_
  refine q_aload_n (pc' := 1) (dk_at dkX6_clearText 0 rfl) rfl rfl ?_
  refine q_iconst (pc' := 2) (dk_at dkX6_clearText 1 rfl) rfl ?_
  refine r_putf (pc' := 5) fp_RX6_66 (dk_at dkX6_clearText 2 rfl) hM.obj (Nat.le_of_ble_eq_true rfl) (PT_int _) rfl (fun hh1 ehh1 => ?_)
  have hM := hM.w_obj ehh1
  have hF := hF.put ehh1 (by omega)
  refine q_aload_n (pc' := 6) (dk_at dkX6_clearText 3 rfl) rfl rfl ?_
  refine r_getf (pc' := 9) fl_RX6_151 (dk_at dkX6_clearText 4 rfl) hM.obj rfl rfl ?_
  refine q_istore_n (pc' := 10) (L' := [some (vR m), some (vI (tl : Int))]) (dk_at dkX6_clearText 5 rfl) (by decide) rfl rfl ?_
  refine q_aload_n (pc' := 11) (dk_at dkX6_clearText 6 rfl) rfl rfl ?_
  refine q_iconst (pc' := 12) (dk_at dkX6_clearText 7 rfl) rfl ?_
  refine r_putf (pc' := 15) fp_RX6_151 (dk_at dkX6_clearText 8 rfl) hM.obj (Nat.le_of_ble_eq_true rfl) (PT_int _) rfl (fun hh2 ehh2 => ?_)
  have hM := hM.w_obj ehh2
  have hF := hF.put ehh2 (by omega)
  refine q_iload_n (pc' := 16) (dk_at dkX6_clearText 9 rfl) rfl rfl ?_
  refine r_iret rfl (dk_at dkX6_clearText 10 rfl) ?_
  exact ⟨rfl, ⟨_, _, _, _, _, _, _, _, _, _, _, _, _, _, _, _, _, _, _, _, _, _, _, hM, ⟨hR, hP⟩, hSv, fun i hi => absurd hi (Nat.not_lt_zero _), hL⟩, hF⟩

def cpB (A sd : Nat → Int) (s i : Nat) : Nat → Int := fun k => if k < i then sd (81 * s + k) else A k
theorem cpB_0 (A sd : Nat → Int) (s : Nat) : cpB A sd s 0 = A := by funext k; unfold cpB; rw [if_neg (by omega)]
theorem cpB_step (A sd : Nat → Int) (s i : Nat) : upz (cpB A sd s i) i (sd (81 * s + i)) = cpB A sd s (i + 1) := by
  funext k
  unfold upz cpB
  by_cases z : k = i
  · rw [if_pos z, if_pos (by omega), z]
  · rw [if_neg z]
    by_cases y : k < i
    · rw [if_pos y, if_pos (by omega)]
    · rw [if_neg y, if_neg (by omega)]
set_option maxHeartbeats 4000000 in
set_option maxRecDepth 100000 in
theorem l_undoM {d n : Nat} {h : PH} {m s : Nat} {A sd sq op ss es bo su se tx ba le fr un sF sR sT ad : Nat → Int} {th l0 bm tl nf ne nc : Int} (hsv : s < 4) : ∀ (c : Nat) (i : Nat) (h1 : PH), (i + c = 81) → (isModel n h1 m (cpB A sd s i) sd (s : Int) th sq op l0 ss es bo su se bm tx tl ba le fr un nf ne nc sF sR sT ad) → (Fr h h1 m (m + 19)) → QN mX6_undo d (FI n (fun x h' => x = (s : Int) ∧ isModel n h' m (cpB A sd s 81) sd (s : Int) th sq op l0 ss es bo su se bm tx tl ba le fr un nf ne nc sF sR sT ad ∧ Fr h h' m (m + 19))) 34 [some (vR m), some (vI (i : Int))] [] n h1 := by
  intro c
  induction c with
  | zero =>
    intro i h1 hc hM hF
    refine q_iload_n (pc' := 35) (dk_at dkX6_undo 20 rfl) rfl rfl ?_
    refine q_bipush (pc' := 37) (dk_at dkX6_undo 21 rfl) (by decide +kernel) rfl ?_
    refine q_icmp_ge (tgt := 66) (pc' := 40) (dk_at dkX6_undo 22 rfl) rfl rfl (by omega) (by omega) (fun c37 => ?_) (fun c37 => ?_)
    · refine q_aload_n (pc' := 67) (dk_at dkX6_undo 38 rfl) rfl rfl ?_
      refine r_getf (pc' := 70) fl_RX6_70 (dk_at dkX6_undo 39 rfl) hM.obj rfl rfl ?_
      refine r_iret rfl (dk_at dkX6_undo 40 rfl) ?_
      have ei : i = 81 := by omega
      rw [ei] at hM
      exact ⟨rfl, hM, hF⟩
    · exfalso
      omega
  | succ c ih =>
    intro i h1 hc hM hF
    refine q_iload_n (pc' := 35) (dk_at dkX6_undo 20 rfl) rfl rfl ?_
    refine q_bipush (pc' := 37) (dk_at dkX6_undo 21 rfl) (by decide +kernel) rfl ?_
    refine q_icmp_ge (tgt := 66) (pc' := 40) (dk_at dkX6_undo 22 rfl) rfl rfl (by omega) (by omega) (fun c37 => ?_) (fun c37 => ?_)
    · refine q_aload_n (pc' := 67) (dk_at dkX6_undo 38 rfl) rfl rfl ?_
      refine r_getf (pc' := 70) fl_RX6_70 (dk_at dkX6_undo 39 rfl) hM.obj rfl rfl ?_
      refine r_iret rfl (dk_at dkX6_undo 40 rfl) ?_
      have ei : i = 81 := by omega
      rw [ei] at hM
      exact ⟨rfl, hM, hF⟩
    · refine q_aload_n (pc' := 41) (dk_at dkX6_undo 23 rfl) rfl rfl ?_
      refine r_getf (pc' := 44) fl_RX6_7 (dk_at dkX6_undo 24 rfl) hM.obj rfl rfl ?_
      refine q_iload_n (pc' := 45) (dk_at dkX6_undo 25 rfl) rfl rfl ?_
      refine q_aload_n (pc' := 46) (dk_at dkX6_undo 26 rfl) rfl rfl ?_
      refine r_getf (pc' := 49) fl_RX6_13 (dk_at dkX6_undo 27 rfl) hM.obj rfl rfl ?_
      refine q_bipush (pc' := 51) (dk_at dkX6_undo 28 rfl) (by decide +kernel) rfl ?_
      refine q_aload_n (pc' := 52) (dk_at dkX6_undo 29 rfl) rfl rfl ?_
      refine r_getf (pc' := 55) fl_RX6_70 (dk_at dkX6_undo 30 rfl) hM.obj rfl rfl ?_
      refine q_imul (pc' := 56) (dk_at dkX6_undo 31 rfl) rfl ?_
      refine q_iload_n (pc' := 57) (dk_at dkX6_undo 32 rfl) rfl rfl ?_
      refine q_iadd (pc' := 58) (dk_at dkX6_undo 33 rfl) rfl ?_
      refine r_iald (pc' := 59) (dk_at dkX6_undo 34 rfl) hM.saved ((81 * s) + i) (by omega) (by omega) (by decide) rfl ?_
      refine r_iast (pc' := 60) (dk_at dkX6_undo 35 rfl) hM.all i (by omega) (by omega) (by decide) rfl (fun hh1 ehh1 => ?_)
      have hM := hM.w_all ehh1
      have hF := hF.put ehh1 (by omega)
      refine q_iinc (pc' := 63) (L' := [some (vR m), some (vI ((i : Int) + 1))]) (dk_at dkX6_undo 36 rfl) (by decide) rfl rfl rfl ?_
      rw [show ((i : Int) + 1) = ((i + 1 : Nat) : Int) by omega]
      refine q_goto (tgt := 34) (dk_at dkX6_undo 37 rfl) rfl ?_
      rw [cpB_step] at hM
      exact ih (i + 1) _ (by omega) hM hF

theorem QNI_mono {M : MD} {d n : Nat} {pc : Nat} {L : List (Option PV)} {S : List PV} {h : PH} {post post' : Int → PH → Prop} (H : QN M d (FI n post) pc L S n h) (hi : ∀ x h', post x h' → post' x h') : QN M d (FI n post') pc L S n h := by
  intro p l e R s m args below meth c D B K X H1 locs ls O Hl HP Hs HS T hT X'
  obtain ⟨t, a1, o, b1, b2, ⟨r, n', h', z1, ⟨x, z2, z3, z4⟩, z5⟩, b4⟩ := H p l e R s m args below meth c D B K X H1 locs ls O Hl HP Hs HS T hT X'
  exact ⟨t, a1, o, b1, b2, ⟨r, n', h', z1, ⟨x, z2, z3, hi _ _ z4⟩, z5⟩, b4⟩
set_option maxHeartbeats 4000000 in
set_option maxRecDepth 100000 in
theorem k_M_undo {d n : Nat} {h : PH} {m : Nat} {S : Shp} {P : PlS} {kn bs : Int} {sv tl : Nat} {x : Nat → Snp} {tx : Nat → Int} {th : Int}  (hd : 30 ≤ d) (hI : MOI n h m th ((S, P, kn, bs), sv, x, tx, tl)) (hO : BOk ((S, P, kn, bs), sv, x, tx, tl))  : CtrI mX6_undo d [vR m] n h (fun v h' => (0 < sv ∧ v = (sv : Int) - 1 ∧ MOI n h' m 0 (x (sv - 1), sv - 1, x, tx, tl) ∧ Fr h h' m (m + 19)) ∨ (sv = 0 ∧ MOI n h' m 1 ((S, P, kn, bs), sv, x, tx, tl) ∧ Fr h h' m (m + 19))) := by
  obtain ⟨A, sd, sq, op, ss, es, bo, su, se, tx1, ba, le, fr, un, sF, sR, sT, ad, l0, bm, nf, ne, nc, hM, ⟨hR, hP⟩, hSv, hTx, hL⟩ := hI
  have hM : isModel n h m A sd (sv : Int) th sq op l0 ss es bo su se bm tx1 (tl : Int) ba le fr un nf ne nc sF sR sT ad := hM
  have hR : MR A S := hR
  have hP : MP A P := hP
  have hSv : MSv sd sv x := hSv
  have hTx : ∀ i, i < tl → tx1 i = tx i := hTx
  obtain ⟨hko, hsv, hks, htl, htx⟩ := hO
  have hko : SnOk (S, P, kn, bs) := hko
  have hsv : sv ≤ 4 := hsv
  have hks : ∀ i, i < sv → SnOk (x i) := hks
  have htl : tl ≤ 60 := htl
  have htx : ∀ i, 0 ≤ tx i ∧ tx i ≤ 127 := htx
  have hk : Sok S := hko.1
  have hc8 := hk.c
  have hkp : Pok S.cnt P.od P.en P.bc P.sz := hko.2.1
  have hp8 : P.sz ≤ 8 := hkp.1
  have hpb : P.bc ≤ P.sz := hkp.2.1
  have hA0 := hR.c
  have hF : Fr h h m (m + 19) := Fr.rf
  refine q_beginI (L := [some (vR m), none]) rfl ?_
  refine q_aload_n (pc' := 1) (dk_at dkX6_undo 0 rfl) rfl rfl ?_
  refine q_aload_n (pc' := 2) (dk_at dkX6_undo 1 rfl) rfl rfl ?_
  refine r_getf (pc' := 5) fl_RX6_70 (dk_at dkX6_undo 2 rfl) hM.obj rfl rfl ?_
  refine q_if_le (tgt := 12) (pc' := 8) (dk_at dkX6_undo 3 rfl) rfl rfl (by omega) (fun c5 => ?_) (fun c5 => ?_)
  · refine q_iconst (pc' := 13) (dk_at dkX6_undo 6 rfl) rfl ?_
    refine q_iconst (pc' := 14) (dk_at dkX6_undo 7 rfl) rfl ?_
    refine r_cVI (pc' := 17) (As := [vI 0, vI 1]) (S := []) cv_RX6_91 (dk_at dkX6_undo 8 rfl) hM.obj rfl (k_M_goes (d := 0) (by omega) (by omega) hM) (by omega) (Nat.zero_le _) (Nat.zero_le _) rfl (Nat.le_of_ble_eq_true rfl) rfl (Nat.le_of_ble_eq_true rfl) rfl (fun xx1 hh2 hphh2 => ?_)
    obtain ⟨y14, hM, hGf⟩ := hphh2
    have hF := hF.tr hGf (by omega)
    have yr14 := y14.r
    refine q_if_ne (tgt := 22) (pc' := 20) (dk_at dkX6_undo 9 rfl) rfl rfl (by omega) (fun c17 => ?_) (fun c17 => ?_)
    · have yy := y14.t (by omega)
      rw [if_neg (by omega), if_neg (by omega)] at hM
      refine q_aload_n (pc' := 23) (dk_at dkX6_undo 12 rfl) rfl rfl ?_
      refine q_dup (pc' := 24) (fun _ => rfl) (dk_at dkX6_undo 13 rfl) rfl ?_
      refine r_getf (pc' := 27) fl_RX6_70 (dk_at dkX6_undo 14 rfl) hM.obj rfl rfl ?_
      refine q_iconst (pc' := 28) (dk_at dkX6_undo 15 rfl) rfl ?_
      refine q_isub (pc' := 29) (dk_at dkX6_undo 16 rfl) rfl ?_
      refine r_putf (pc' := 32) fp_RX6_70 (dk_at dkX6_undo 17 rfl) hM.obj (Nat.le_of_ble_eq_true rfl) (PT_int _) rfl (fun hh3 ehh3 => ?_)
      have hM := hM.w_obj ehh3
      have hF := hF.put ehh3 (by omega)
      refine q_iconst (pc' := 33) (dk_at dkX6_undo 18 rfl) rfl ?_
      refine q_istore_n (pc' := 34) (L' := [some (vR m), some (vI 0)]) (dk_at dkX6_undo 19 rfl) (by decide) rfl rfl ?_
      exfalso
      omega
    · refine q_iconst (pc' := 21) (dk_at dkX6_undo 10 rfl) rfl ?_
      refine r_iret rfl (dk_at dkX6_undo 11 rfl) ?_
      rw [if_pos rfl] at hM
      exact Or.inr ⟨by omega, ⟨_, _, _, _, _, _, _, _, _, _, _, _, _, _, _, _, _, _, _, _, _, _, _, hM, ⟨hR, hP⟩, hSv, hTx, hL⟩, hF⟩
  · refine q_iconst (pc' := 9) (dk_at dkX6_undo 4 rfl) rfl ?_
    refine q_goto (tgt := 13) (dk_at dkX6_undo 5 rfl) rfl ?_
    refine q_iconst (pc' := 14) (dk_at dkX6_undo 7 rfl) rfl ?_
    refine r_cVI (pc' := 17) (As := [vI 1, vI 1]) (S := []) cv_RX6_91 (dk_at dkX6_undo 8 rfl) hM.obj rfl (k_M_goes (d := 0) (by omega) (by omega) hM) (by omega) (Nat.zero_le _) (Nat.zero_le _) rfl (Nat.le_of_ble_eq_true rfl) rfl (Nat.le_of_ble_eq_true rfl) rfl (fun xx4 hh5 hphh5 => ?_)
    obtain ⟨y14, hM, hGf⟩ := hphh5
    have hF := hF.tr hGf (by omega)
    have yr14 := y14.r
    refine q_if_ne (tgt := 22) (pc' := 20) (dk_at dkX6_undo 9 rfl) rfl rfl (by omega) (fun c17 => ?_) (fun c17 => ?_)
    · have yy := y14.t (by omega)
      rw [if_neg (by omega), if_neg (by omega)] at hM
      refine q_aload_n (pc' := 23) (dk_at dkX6_undo 12 rfl) rfl rfl ?_
      refine q_dup (pc' := 24) (fun _ => rfl) (dk_at dkX6_undo 13 rfl) rfl ?_
      refine r_getf (pc' := 27) fl_RX6_70 (dk_at dkX6_undo 14 rfl) hM.obj rfl rfl ?_
      refine q_iconst (pc' := 28) (dk_at dkX6_undo 15 rfl) rfl ?_
      refine q_isub (pc' := 29) (dk_at dkX6_undo 16 rfl) rfl ?_
      refine r_putf (pc' := 32) fp_RX6_70 (dk_at dkX6_undo 17 rfl) hM.obj (Nat.le_of_ble_eq_true rfl) (PT_int _) rfl (fun hh6 ehh6 => ?_)
      have hM := hM.w_obj ehh6
      have hF := hF.put ehh6 (by omega)
      refine q_iconst (pc' := 33) (dk_at dkX6_undo 18 rfl) rfl ?_
      refine q_istore_n (pc' := 34) (L' := [some (vR m), some (vI 0)]) (dk_at dkX6_undo 19 rfl) (by decide) rfl rfl ?_
      rw [show ((sv : Int) - 1) = ((sv - 1 : Nat) : Int) by omega] at hM
      refine QNI_mono (l_undoM (s := sv - 1) (h := h) (by omega) 81 0 _ (by omega) (by rw [cpB_0]; exact hM) hF) (fun v h' z => ?_)
      refine Or.inl ⟨by omega, by omega, ⟨_, _, _, _, _, _, _, _, _, _, _, _, _, _, _, _, _, _, _, _, _, _, _, z.2.1, ?_, fun i hi => hSv i ?_, hTx, hL⟩, z.2.2⟩
      · show MRP _ (x (sv - 1))
        refine (hSv (sv - 1) (by omega)).cong (hks (sv - 1) (by omega)) (fun k hk => ?_)
        unfold cpB
        rw [if_pos hk]
      · have hi : i < sv - 1 := hi
        omega
    · refine q_iconst (pc' := 21) (dk_at dkX6_undo 10 rfl) rfl ?_
      refine r_iret rfl (dk_at dkX6_undo 11 rfl) ?_
      exfalso
      have := y14.f (by omega)
      omega
