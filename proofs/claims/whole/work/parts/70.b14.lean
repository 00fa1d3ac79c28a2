/-! BatchMachine: latestRelease -/
theorem best_cost {S : Shp} (hk : Sok S) {ts : Nat → Nat} {m : Nat} (h : BestP S ts m) (h0 : 0 < S.cnt) {o e : Nat → Int} (hO : ∀ k, 0 ≤ o k ∧ o k ≤ 7) : cvS S (wrP S ts m o e) = lcS S (-1) := by
  rcases h with ⟨h1, -⟩ | ⟨-, l, g1, rfl, rfl⟩
  · omega
  · obtain ⟨a1, a2, a3⟩ := wr_cost hk g1 h0 hO (e := e)
    unfold cvS
    rw [a1]
    exact a3
theorem best_ge {S S' : Shp} (hk : Sok S) (hk' : Sok S') (hc : S'.cnt = S.cnt) (hf : ∀ j, S'.V 0 j = S.V 0 j) (hw : S'.wh = S.wh) {ts : Nat → Nat} {m : Nat} (h : BestP S ts m) (h0 : 0 < S.cnt) {o e : Nat → Int} (hO : ∀ k, 0 ≤ o k ∧ o k ≤ 7) : lcS S' (-1) ≤ cvS S' (wrP S ts m o e) := by
  rcases h with ⟨h1, -⟩ | ⟨-, l, g1, rfl, rfl⟩
  · omega
  · unfold lcS
    rw [if_neg (by omega)]
    exact wr_ge hk hk' hc hf hw g1 h0 hO
/-- all the releases of one job that leave the best cost -/
def SameTo (S : Shp) (j : Nat) (r : Nat) : Prop := ∀ q : Nat, S.V 2 j ≤ (q : Int) → q ≤ r → lcS (S.rls j (q : Int)) (-1) = lcS S (-1)
theorem rls_ge {S : Shp} (hk : Sok S) {j : Nat} {q : Int} (h1 : S.V 2 j ≤ q) : lcS S (-1) ≤ lcS (S.rls j q) (-1) := by
  have h := lcS_rel (rls_ok hk j (r := S.V 2 j) ⟨(hk.v 2 j).1, (hk.v 2 j).2.2.2.2.1 rfl⟩).v (rls_rel S j h1) (-1)
  rw [rls_self] at h
  exact h
theorem Same_step {S : Shp} (hk : Sok S) {j : Nat} (h0 : 0 < S.cnt) {r g : Nat} (hr : S.V 2 j ≤ (r : Int)) (hg : g ≤ 300) (hs : SameTo S j r) {ts : Nat → Nat} {m : Nat} (hb : BestP (S.rls j ((r + 1 : Nat) : Int)) ts m) {o e : Nat → Int} (hO : ∀ k, 0 ≤ o k ∧ o k ≤ 7) (hrg : r + 1 ≤ g) (hc : cvS (S.rls j (g : Int)) (wrP (S.rls j ((r + 1 : Nat) : Int)) ts m o e) ≤ lcS S (-1)) : SameTo S j g := by
  intro q q1 q2
  by_cases z : q ≤ r
  · exact hs q q1 z
  · have k1 := rls_ok hk j (r := ((r + 1 : Nat) : Int)) (by omega)
    have k2 := rls_ok hk j (r := (q : Int)) (by omega)
    have a1 := best_ge k1 k2 rfl (fun i => by rw [rls_V _ _ _ (by decide), rls_V _ _ _ (by decide)]) rfl hb h0 hO (e := e)
    have a2 : cvS (S.rls j (q : Int)) (wrP (S.rls j ((r + 1 : Nat) : Int)) ts m o e) ≤ cvS (S.rls j (g : Int)) (wrP (S.rls j ((r + 1 : Nat) : Int)) ts m o e) := costP_rel k2.v (rls_rel S j (by omega))
    have a3 := rls_ge hk (j := j) (q := (q : Int)) q1
    omega
set_option maxHeartbeats 4000000 in
set_option maxRecDepth 100000 in
theorem l_latest {d n : Nat} {h : PH} {b jn lm rn : Nat} {S : Shp} {P : PlS} {kn1 bs1 : Int} {sv tl : Nat} {x : Nat → Snp} {tx : Nat → Int} (hd : 20 ≤ d) (hk1 : Sok S) (hc8 : S.cnt ≤ 8) (hkb1 : Bst S kn1 bs1) (yj : 0 ≤ (jn : Int) ∧ (jn : Int) < (S.cnt : Int)) (hrn : S.V 2 jn = (rn : Int)) (hlm : lm = min (rn + 100) 300) (hlr : -1000000000000 ≤ lcS S (-1) ∧ lcS S (-1) ≤ 1000000000000) : ∀ (c : Nat) (i r : Nat) (h1 : PH) (r1 : Int), (i + c = 100) → (rn + i ≤ r ∧ r ≤ lm ∧ rn ≤ 300) → (SameTo S jn r) → (isBM n h1 b (sv : Int) tx (tl : Int)) → (isState n h1 (b + 1) kn1 bs1) → (isShp n h1 (b + 2) S) → (isPlS n h1 (b + 15) P) → (SvI n h1 b x) → (DrP n h1 (b + 88)) → (TmP n h1 (b + 91)) → (isShp n h1 (b + 105) (S.rls jn r1)) → (SxP n h1 (b + 118)) → (Fr h h1 b (b + 149)) → QW mX5_latestRelease d 1 6 (FX n (fun r h' => ∃ v, r = some (vI v) ∧ jOk S (jn : Int) ∧ ∃ vn : Nat, v = (vn : Int) ∧ S.V 2 (jn : Int).toNat ≤ v ∧ v ≤ min (S.V 2 (jn : Int).toNat + 100) 300 ∧ SameTo S (jn : Int).toNat vn ∧ (v = min (S.V 2 (jn : Int).toNat + 100) 300 ∨ lcS (S.rls (jn : Int).toNat (v + 1)) (-1) ≠ lcS S (-1)) ∧ ∃ kn' bs', Bst S kn' bs' ∧ BMI n h' b ((S, P, kn', bs'), sv, x, tx, tl) ∧ Fr h h' b (b + 149)) (fun E h' => h' = h ∧ E = "java/lang/IndexOutOfBoundsException" ∧ ¬ jOk S (jn : Int))) 0 0 69 [some (vR b), some (vI (jn : Int)), some (vJ (lcS S (-1))), none, some (vI (r : Int)), some (vI (lm : Int)), some (vI (i : Int))] [] false n h1 := by
  intro c
  induction c with
  | zero =>
    intro i r h1 r1 hc hr hsm hB hN hQ hK hZ hD hM hU hX hF
    refine q_iload (pc' := 71) (dk_at dkX5_latestRelease 35 rfl) rfl rfl ?_
    refine q_bipush (pc' := 73) (dk_at dkX5_latestRelease 36 rfl) (by decide +kernel) rfl ?_
    refine q_icmp_ge (tgt := 153) (pc' := 76) (dk_at dkX5_latestRelease 37 rfl) rfl rfl (by omega) (by omega) (fun c73 => ?_) (fun c73 => ?_)
    · refine q_iload (pc' := 155) (dk_at dkX5_latestRelease 82 rfl) rfl rfl ?_
      refine x_iret rfl (dk_at dkX5_latestRelease 83 rfl) ?_
      exact ⟨_, rfl, yj, r, rfl, by rw [Int.toNat_natCast]; omega, by rw [Int.toNat_natCast]; omega, hsm, Or.inl (by rw [Int.toNat_natCast]; omega), kn1, bs1, hkb1, ⟨hB, ⟨hN, hQ, hK⟩, hZ, hD, hM, ⟨_, hU⟩, hX⟩, hF⟩
    · exfalso
      omega
  | succ c ih =>
    intro i r h1 r1 hc hr hsm hB hN hQ hK hZ hD hM hU hX hF
    refine q_iload (pc' := 71) (dk_at dkX5_latestRelease 35 rfl) rfl rfl ?_
    refine q_bipush (pc' := 73) (dk_at dkX5_latestRelease 36 rfl) (by decide +kernel) rfl ?_
    refine q_icmp_ge (tgt := 153) (pc' := 76) (dk_at dkX5_latestRelease 37 rfl) rfl rfl (by omega) (by omega) (fun c73 => ?_) (fun c73 => ?_)
    · refine q_iload (pc' := 155) (dk_at dkX5_latestRelease 82 rfl) rfl rfl ?_
      refine x_iret rfl (dk_at dkX5_latestRelease 83 rfl) ?_
      exact ⟨_, rfl, yj, r, rfl, by rw [Int.toNat_natCast]; omega, by rw [Int.toNat_natCast]; omega, hsm, Or.inl (by rw [Int.toNat_natCast]; omega), kn1, bs1, hkb1, ⟨hB, ⟨hN, hQ, hK⟩, hZ, hD, hM, ⟨_, hU⟩, hX⟩, hF⟩
    · refine q_iload (pc' := 78) (dk_at dkX5_latestRelease 38 rfl) rfl rfl ?_
      refine q_iload (pc' := 80) (dk_at dkX5_latestRelease 39 rfl) rfl rfl ?_
      refine q_icmp_ge (tgt := 153) (pc' := 83) (dk_at dkX5_latestRelease 40 rfl) rfl rfl (by omega) (by omega) (fun c80 => ?_) (fun c80 => ?_)
      · refine q_iload (pc' := 155) (dk_at dkX5_latestRelease 82 rfl) rfl rfl ?_
        refine x_iret rfl (dk_at dkX5_latestRelease 83 rfl) ?_
        exact ⟨_, rfl, yj, r, rfl, by rw [Int.toNat_natCast]; omega, by rw [Int.toNat_natCast]; omega, hsm, Or.inl (by rw [Int.toNat_natCast]; omega), kn1, bs1, hkb1, ⟨hB, ⟨hN, hQ, hK⟩, hZ, hD, hM, ⟨_, hU⟩, hX⟩, hF⟩
      · have hk2 := rls_ok hk1 jn (r := ((r + 1 : Nat) : Int)) (by omega)
        have hge := rls_ge hk1 (j := jn) (q := ((r + 1 : Nat) : Int)) (by omega)
        obtain ⟨sz0, bc0, o0, e0, hD, hO0⟩ := hD
        refine q_aload_n (pc' := 84) (dk_at dkX5_latestRelease 41 rfl) rfl rfl ?_
        refine r_getf (pc' := 87) fl_RX5_41 (dk_at dkX5_latestRelease 42 rfl) hB.obj rfl rfl ?_
        refine r_getf (pc' := 90) fl_RX5_78 (dk_at dkX5_latestRelease 43 rfl) hU.obj rfl rfl ?_
        refine q_iconst (pc' := 91) (dk_at dkX5_latestRelease 44 rfl) rfl ?_
        refine r_aald1 (pc' := 92) (dk_at dkX5_latestRelease 45 rfl) hU.values 2 (by omega) (by omega) (by decide) rfl ?_
        refine q_iload_n (pc' := 93) (dk_at dkX5_latestRelease 46 rfl) rfl rfl ?_
        refine q_iload (pc' := 95) (dk_at dkX5_latestRelease 47 rfl) rfl rfl ?_
        refine q_iconst (pc' := 96) (dk_at dkX5_latestRelease 48 rfl) rfl ?_
        refine q_iadd (pc' := 97) (dk_at dkX5_latestRelease 49 rfl) rfl ?_
        rw [show ((r : Int) + 1) = ((r + 1 : Nat) : Int) by omega]
        refine r_iast (pc' := 98) (dk_at dkX5_latestRelease 50 rfl) (hU.values_at 2 (by omega)) jn (by omega) (by omega) (by decide) rfl (fun hh1 ehh1 => ?_)
        have hB := hB.off ehh1 (by omega)
        have hN := hN.off ehh1 (by omega)
        have hQ := hQ.off ehh1 (by omega)
        have hK := hK.off ehh1 (by omega)
        have hZ := hZ.off ehh1 (by omega)
        have hD := hD.off ehh1 (by omega)
        have hM := hM.off ehh1 (by omega)
        have hU := isShop.w_values (by omega) hU ehh1
        have hX := hX.off ehh1 (by omega)
        have hF := hF.put ehh1 (by omega)
        have hU : isShp n hh1 (b + 105) (S.rls jn ((r + 1 : Nat) : Int)) := rls_put hU
        obtain ⟨S0, fc0, fo0, hX0⟩ := hX
        obtain ⟨al0, fi0, bs0, fl0, sc0, st0, fa0, re0, wo0, lg0, rk0, ch0, sC0, sT0, sX0, G0, hX, -⟩ := id hX0
        refine q_aload_n (pc' := 99) (dk_at dkX5_latestRelease 51 rfl) rfl rfl ?_
        refine r_getf (pc' := 102) fl_RX5_48 (dk_at dkX5_latestRelease 52 rfl) hB.obj rfl rfl ?_
        refine q_aload_n (pc' := 103) (dk_at dkX5_latestRelease 53 rfl) rfl rfl ?_
        refine r_getf (pc' := 106) fl_RX5_41 (dk_at dkX5_latestRelease 54 rfl) hB.obj rfl rfl ?_
        refine q_iconst (pc' := 107) (dk_at dkX5_latestRelease 55 rfl) rfl ?_
        refine q_lload_n (pc' := 108) (dk_at dkX5_latestRelease 56 rfl) rfl rfl ?_
        refine q_lconst1 (pc' := 109) (dk_at dkX5_latestRelease 57 rfl) rfl ?_
        refine q_ladd (pc' := 110) (dk_at dkX5_latestRelease 58 rfl) rfl ?_
        refine q_lload_n (pc' := 111) (dk_at dkX5_latestRelease 59 rfl) rfl rfl ?_
        refine r_cVJ (pc' := 114) (As := [vR (b + 105), vI (-1), vJ ((lcS S (-1)) + 1), vJ (lcS S (-1))]) (S := []) cv_RX5_156 (dk_at dkX5_latestRelease 60 rfl) hX.obj rfl (k_Search_run (d := 12) (S := S.rls jn ((r + 1 : Nat) : Int)) (by omega) hk2 (by omega) (by omega) (by unfold INF; omega) (by unfold INF; omega) (fun _ => by have z : lcS (S.rls jn ((r + 1 : Nat) : Int)) (-1) = fnS (S.rls jn ((r + 1 : Nat) : Int)) (-1) := if_neg (show ¬ S.cnt = 0 by omega); omega) hX0 hU) (by omega) (Nat.zero_le _) (Nat.zero_le _) rfl (Nat.le_of_ble_eq_true rfl) rfl (Nat.le_of_ble_eq_true rfl) rfl (fun xx2 hh3 hphh3 => ?_)
        obtain ⟨hx, fc1, fo1, hX1, hfd, hGf⟩ := hphh3
        have hB := isBM.frm hB hGf (by omega)
        have hN := isState.frm hN hGf (by omega)
        have hQ := isShop.frm hQ hGf (by omega)
        have hK := isPlan.frm hK hGf (by omega)
        have hZ := SvI.frm hZ hGf (by omega)
        have hD := isPlan.frm hD hGf (by omega)
        have hM := TmP.frm hM hGf (by omega)
        have hU := isShop.frm hU hGf (by omega)
        have hF := hF.tr hGf (by omega)
        rw [if_neg (show ¬ (S.rls jn ((r + 1 : Nat) : Int)).cnt = 0 by show ¬ S.cnt = 0; omega)] at hx
        have hlc : lcS (S.rls jn ((r + 1 : Nat) : Int)) (-1) = fnS (S.rls jn ((r + 1 : Nat) : Int)) (-1) := if_neg (show ¬ S.cnt = 0 by omega)
        obtain ⟨al8, fi8, bs8, fl8, sc8, st8, fa8, re8, wo8, lg8, rk8, ch8, sC8, sT8, sX8, G8, hX, -⟩ := id hX1
        refine q_lload_n (pc' := 115) (dk_at dkX5_latestRelease 61 rfl) rfl rfl ?_
        refine q_lcmp (pc' := 116) (dk_at dkX5_latestRelease 62 rfl) (by omega) (by omega) rfl ?_
        refine q_if_le (tgt := 122) (pc' := 119) (dk_at dkX5_latestRelease 63 rfl) rfl rfl (cmpz_IR _ _) (fun c116 => ?_) (fun c116 => ?_)
        · rw [cmpz_le] at c116
          have hbe : lcS (S.rls jn ((r + 1 : Nat) : Int)) (-1) = lcS S (-1) := by rw [hlc]; omega
          rw [← hbe] at hfd
          obtain ⟨ts, m, q1, q2, q3, q4, q5, q6⟩ := best_of hk2 hfd
          have hbo := best_ok hk2 q6 hO0 (e := e0)
          refine q_aload_n (pc' := 123) (dk_at dkX5_latestRelease 66 rfl) rfl rfl ?_
          refine r_getf (pc' := 126) fl_RX5_48 (dk_at dkX5_latestRelease 67 rfl) hB.obj rfl rfl ?_
          refine q_aload_n (pc' := 127) (dk_at dkX5_latestRelease 68 rfl) rfl rfl ?_
          refine r_getf (pc' := 130) fl_RX5_27 (dk_at dkX5_latestRelease 69 rfl) hB.obj rfl rfl ?_
          refine r_cVV (pc' := 133) (As := [vR (b + 88)]) (S := []) cv_RX5_160 (dk_at dkX5_latestRelease 70 rfl) hX.obj rfl (k_Search_writePlan (d := 2) (by omega) hk2 (by omega) q1 hO0 q2 q3 q4 q5 hX1 hD) (by omega) (Nat.zero_le _) (Nat.zero_le _) rfl (Nat.le_of_ble_eq_true rfl) rfl (Nat.le_of_ble_eq_true rfl) rfl (fun hh5 hphh5 => ?_)
          obtain ⟨hX2, hD, hGf⟩ := hphh5
          have hB := isBM.frm hB hGf (by omega)
          have hN := isState.frm hN hGf (by omega)
          have hQ := isShop.frm hQ hGf (by omega)
          have hK := isPlan.frm hK hGf (by omega)
          have hZ := SvI.frm hZ hGf (by omega)
          have hM := TmP.frm hM hGf (by omega)
          have hU := isShop.frm hU hGf (by omega)
          have hF := hF.tr hGf (by omega)
          refine q_aload_n (pc' := 134) (dk_at dkX5_latestRelease 71 rfl) rfl rfl ?_
          refine q_iload_n (pc' := 135) (dk_at dkX5_latestRelease 72 rfl) rfl rfl ?_
          refine q_iload (pc' := 137) (dk_at dkX5_latestRelease 73 rfl) rfl rfl ?_
          refine q_iconst (pc' := 138) (dk_at dkX5_latestRelease 74 rfl) rfl ?_
          refine q_iadd (pc' := 139) (dk_at dkX5_latestRelease 75 rfl) rfl ?_
          rw [show ((r : Int) + 1) = ((r + 1 : Nat) : Int) by omega]
          refine q_iload (pc' := 141) (dk_at dkX5_latestRelease 76 rfl) rfl rfl ?_
          refine q_lload_n (pc' := 142) (dk_at dkX5_latestRelease 77 rfl) rfl rfl ?_
          refine r_cVI (pc' := 145) (As := [vI (jn : Int), vI ((r + 1 : Nat) : Int), vI (lm : Int), vJ (lcS S (-1))]) (S := []) cv_RX5_209 (dk_at dkX5_latestRelease 78 rfl) hB.obj rfl (k_BM_latestInDraft (d := 4) (j := jn) (kn := r + 1) (lm := lm) (S := S) (by omega) hk1 (by omega) (by omega) hbo.1 (by omega) (by omega) (by rw [best_cost hk2 q6 (show 0 < S.cnt by omega) hO0]; omega) hB hU hD hM) (by omega) (Nat.zero_le _) (Nat.zero_le _) rfl (Nat.le_of_ble_eq_true rfl) rfl (Nat.le_of_ble_eq_true rfl) rfl (fun xx6 hh7 hphh7 => ?_)
          obtain ⟨g, r2, hx2, hg1, hg2, hg3, hB, hU, hD, hM, hGf⟩ := hphh7
          have hN := isState.frm hN hGf (by omega)
          have hQ := isShop.frm hQ hGf (by omega)
          have hK := isPlan.frm hK hGf (by omega)
          have hZ := SvI.frm hZ hGf (by omega)
          have hX2 := SrP.frm hX2 hGf (by omega)
          have hF := hF.tr hGf (by omega)
          subst hx2
          refine q_istore (pc' := 147) (L' := [some (vR b), some (vI (jn : Int)), some (vJ (lcS S (-1))), none, some (vI (g : Int)), some (vI (lm : Int)), some (vI (i : Int))]) (dk_at dkX5_latestRelease 79 rfl) (by decide) rfl rfl ?_
          refine q_iinc (pc' := 150) (L' := [some (vR b), some (vI (jn : Int)), some (vJ (lcS S (-1))), none, some (vI (g : Int)), some (vI (lm : Int)), some (vI ((i : Int) + 1))]) (dk_at dkX5_latestRelease 80 rfl) (by decide) rfl rfl rfl ?_
          rw [show ((i : Int) + 1) = ((i + 1 : Nat) : Int) by omega]
          refine q_goto (tgt := 69) (dk_at dkX5_latestRelease 81 rfl) rfl ?_
          refine ih (i + 1) g _ r2 (by omega) (by omega) (Same_step hk1 (by omega) (by omega) (by omega) hsm q6 hO0 (by omega) hg3) hB hN hQ hK hZ ⟨_, _, _, _, hD, hbo.1.2.2.1⟩ hM hU ⟨_, _, _, hX2⟩ hF
        · rw [cmpz_le] at c116
          refine q_iload (pc' := 121) (dk_at dkX5_latestRelease 64 rfl) rfl rfl ?_
          refine x_iret rfl (dk_at dkX5_latestRelease 65 rfl) ?_
          refine ⟨_, rfl, yj, r, rfl, by rw [Int.toNat_natCast]; omega, by rw [Int.toNat_natCast]; omega, hsm, Or.inr ?_, kn1, bs1, hkb1, ⟨hB, ⟨hN, hQ, hK⟩, hZ, ⟨_, _, _, _, hD, hO0⟩, hM, ⟨_, hU⟩, ⟨_, _, _, hX1⟩⟩, hF⟩
          rw [Int.toNat_natCast, show ((r : Int) + 1) = ((r + 1 : Nat) : Int) by omega, hlc]
          omega

set_option maxHeartbeats 4000000 in
set_option maxRecDepth 100000 in
theorem k_BM_latestRelease {d n : Nat} {h : PH} {b : Nat} {S : Shp} {P : PlS} {kn bs : Int} {sv tl : Nat} {x : Nat → Snp} {tx : Nat → Int} {j : Int} (hd : 20 ≤ d) (hI : BMI n h b ((S, P, kn, bs), sv, x, tx, tl)) (hO : BOk ((S, P, kn, bs), sv, x, tx, tl)) (hi1 : IR j) : CtrX mX5_latestRelease d [vR b, vI j] n h (fun r h' => ∃ v, r = some (vI v) ∧ jOk S j ∧ ∃ vn : Nat, v = (vn : Int) ∧ S.V 2 j.toNat ≤ v ∧ v ≤ min (S.V 2 j.toNat + 100) 300 ∧ SameTo S j.toNat vn ∧ (v = min (S.V 2 j.toNat + 100) 300 ∨ lcS (S.rls j.toNat (v + 1)) (-1) ≠ lcS S (-1)) ∧ ∃ kn' bs', Bst S kn' bs' ∧ BMI n h' b ((S, P, kn', bs'), sv, x, tx, tl) ∧ Fr h h' b (b + 149)) (fun E h' => h' = h ∧ E = "java/lang/IndexOutOfBoundsException" ∧ ¬ jOk S j) := by
  obtain ⟨hB, hSt, hZ, hR⟩ := hI
  have hB : isBM n h b (sv : Int) tx (tl : Int) := hB
  obtain ⟨hN, hQ, hK⟩ := hSt
  have hN : isState n h (b + 1) kn bs := hN
  have hQ : isShp n h (b + 2) S := hQ
  have hK : isPlS n h (b + 15) P := hK
  have hZ : SvI n h b x := hZ
  obtain ⟨hk, hsv, hks, htl, htx⟩ := hO
  have hk : SnOk (S, P, kn, bs) := hk
  have hsv : sv ≤ 4 := hsv
  have htl : tl ≤ 60 := htl
  have htx : ∀ i, 0 ≤ tx i ∧ tx i ≤ 127 := htx
  have hk1 : Sok S := hk.1
  have hc8 := hk1.c
  have hkp : Pok S.cnt P.od P.en P.bc P.sz := hk.2.1
  have hp8 : P.sz ≤ 8 := hkp.1
  have hpb : P.bc ≤ P.sz := hkp.2.1
  have hkb : Bst S kn bs := hk.2.2
  have hkn := hkb.1
  have hF : Fr h h b (b + 149) := Fr.rf
  refine q_beginX (L := [some (vR b), some (vI j), none, none, none, none, none]) rfl ?_
  refine q_aload_n (pc' := 1) (dk_at dkX5_latestRelease 0 rfl) rfl rfl ?_
  refine q_iload_n (pc' := 2) (dk_at dkX5_latestRelease 1 rfl) rfl rfl ?_
  refine r_cVI (pc' := 5) (As := [vI j]) (S := []) cv_RX5_86 (dk_at dkX5_latestRelease 2 rfl) hB.obj rfl (k_BM_isJobY (d := 0) hc8 (by omega) hB hN hQ) (by omega) (Nat.zero_le _) (Nat.zero_le _) rfl (Nat.le_of_ble_eq_true rfl) rfl (Nat.le_of_ble_eq_true rfl) rfl (fun xx1 hh2 hphh2 => ?_)
  obtain ⟨qq3, y2⟩ := hphh2
  subst qq3
  have yr2 := y2.r
  refine q_if_ne (tgt := 18) (pc' := 8) (dk_at dkX5_latestRelease 3 rfl) rfl rfl (by omega) (fun c5 => ?_) (fun c5 => ?_)
  · obtain ⟨jn, rfl⟩ : ∃ z : Nat, j = (z : Int) := ⟨j.toNat, by have := y2.t (by omega); unfold jOk at this; omega⟩
    obtain ⟨hD, hM, hU, hX⟩ := hR
    obtain ⟨U, hU⟩ := hU
    have yj : (0 : Int) ≤ (jn : Int) ∧ (jn : Int) < (S.cnt : Int) := y2.t (by omega)
    refine q_aload_n (pc' := 19) (dk_at dkX5_latestRelease 9 rfl) rfl rfl ?_
    refine r_cVJ (pc' := 22) (As := []) (S := []) cv_RX5_152 (dk_at dkX5_latestRelease 10 rfl) hB.obj rfl (k_BM_presentBest (d := 14) (by omega) hk1 hkb hB hQ hN hD hM hX) (by omega) (Nat.zero_le _) (Nat.zero_le _) rfl (Nat.le_of_ble_eq_true rfl) rfl (Nat.le_of_ble_eq_true rfl) rfl (fun xx4 hh5 hphh5 => ?_)
    obtain ⟨hx, hB, hQ, ⟨kn1, bs1, hN, hkb1⟩, hD, hM, hX, hW⟩ := hphh5
    obtain ⟨hm1, hm2, hW1, hW2, hW3⟩ := hW.split
    have hK := isPlan.frm hK hW1 (by omega)
    have hZ := SvI.frm hZ hW1 (by omega)
    have hU := isShop.frm hU hW1 (by omega)
    have hF := hF.tr hW1 (by omega)
    have hK := isPlan.frm hK hW2 (by omega)
    have hZ := SvI.frm hZ hW2 (by omega)
    have hU := isShop.frm hU hW2 (by omega)
    have hF := hF.tr hW2 (by omega)
    have hK := isPlan.frm hK hW3 (by omega)
    have hZ := SvI.frm hZ hW3 (by omega)
    have hU := isShop.frm hU hW3 (by omega)
    have hF := hF.tr hW3 (by omega)
    have hkn1 := hkb1.1
    subst hx
    have hlr := lcS_r hk1
    refine q_lstore_n (pc' := 23) (L' := [some (vR b), some (vI (jn : Int)), some (vJ (lcS S (-1))), none, none, none, none]) (dk_at dkX5_latestRelease 11 rfl) (by decide) rfl rfl ?_
    refine q_aload_n (pc' := 24) (dk_at dkX5_latestRelease 12 rfl) rfl rfl ?_
    refine r_getf (pc' := 27) fl_RX5_41 (dk_at dkX5_latestRelease 13 rfl) hB.obj rfl rfl ?_
    refine q_aload_n (pc' := 28) (dk_at dkX5_latestRelease 14 rfl) rfl rfl ?_
    refine r_getf (pc' := 31) fl_RX5_10 (dk_at dkX5_latestRelease 15 rfl) hB.obj rfl rfl ?_
    refine r_getf (pc' := 34) fl_RX5_63 (dk_at dkX5_latestRelease 16 rfl) hN.obj rfl rfl ?_
    refine r_cVV (pc' := 37) (As := [vR (b + 2)]) (S := []) cv_RX5_196 (dk_at dkX5_latestRelease 17 rfl) hU.obj rfl (k_Shop_takeFrom (d := 1) (by omega) (by omega) hk1 hU hQ) (by omega) (Nat.zero_le _) (Nat.zero_le _) rfl (Nat.le_of_ble_eq_true rfl) rfl (Nat.le_of_ble_eq_true rfl) rfl (fun hh7 hphh7 => ?_)
    obtain ⟨hU, hGf⟩ := hphh7
    have hB := isBM.frm hB hGf (by omega)
    have hN := isState.frm hN hGf (by omega)
    have hQ := isShop.frm hQ hGf (by omega)
    have hK := isPlan.frm hK hGf (by omega)
    have hZ := SvI.frm hZ hGf (by omega)
    have hD := DrP.frm hD hGf (by omega)
    have hX := SxP.frm hX hGf (by omega)
    have hM := TmP.frm hM hGf (by omega)
    have hF := hF.tr hGf (by omega)
    refine q_aload_n (pc' := 38) (dk_at dkX5_latestRelease 18 rfl) rfl rfl ?_
    refine r_getf (pc' := 41) fl_RX5_10 (dk_at dkX5_latestRelease 19 rfl) hB.obj rfl rfl ?_
    refine r_getf (pc' := 44) fl_RX5_63 (dk_at dkX5_latestRelease 20 rfl) hN.obj rfl rfl ?_
    refine r_getf (pc' := 47) fl_RX5_78 (dk_at dkX5_latestRelease 21 rfl) hQ.obj rfl rfl ?_
    refine q_iconst (pc' := 48) (dk_at dkX5_latestRelease 22 rfl) rfl ?_
    refine r_aald1 (pc' := 49) (dk_at dkX5_latestRelease 23 rfl) hQ.values 2 (by omega) (by omega) (by decide) rfl ?_
    refine q_iload_n (pc' := 50) (dk_at dkX5_latestRelease 24 rfl) rfl rfl ?_
    refine r_iald (pc' := 51) (dk_at dkX5_latestRelease 25 rfl) (hQ.values_at 2 (by omega)) jn (by omega) (by omega) (by decide) rfl ?_
    obtain ⟨rn, hrn⟩ : ∃ z : Nat, S.V 2 jn = (z : Int) := ⟨(S.V 2 jn).toNat, by have := (hk1.v 2 jn).1; omega⟩
    have hrr := (hk1.v 2 jn).2.2.2.2.1 rfl
    rw [hrn]
    refine q_istore (pc' := 53) (L' := [some (vR b), some (vI (jn : Int)), some (vJ (lcS S (-1))), none, some (vI (rn : Int)), none, none]) (dk_at dkX5_latestRelease 26 rfl) (by decide) rfl rfl ?_
    refine q_iload (pc' := 55) (dk_at dkX5_latestRelease 27 rfl) rfl rfl ?_
    refine q_bipush (pc' := 57) (dk_at dkX5_latestRelease 28 rfl) (by decide +kernel) rfl ?_
    refine q_iadd (pc' := 58) (dk_at dkX5_latestRelease 29 rfl) rfl ?_
    refine q_sipush (pc' := 61) (dk_at dkX5_latestRelease 30 rfl) (by decide +kernel) rfl ?_
    refine q_min (pc' := 64) jk_RX5_203 (dk_at dkX5_latestRelease 31 rfl) (by omega) (by omega) (by omega) (Nat.zero_le _) (Nat.zero_le _) (Nat.le_of_ble_eq_true rfl) rfl ?_
    obtain ⟨lm, hlm⟩ : ∃ z : Nat, z = min (rn + 100) 300 := ⟨_, rfl⟩
    rw [show (min ((rn : Int) + 100) 300) = (lm : Int) by omega]
    refine q_istore (pc' := 66) (L' := [some (vR b), some (vI (jn : Int)), some (vJ (lcS S (-1))), none, some (vI (rn : Int)), some (vI (lm : Int)), none]) (dk_at dkX5_latestRelease 32 rfl) (by decide) rfl rfl ?_
    refine q_iconst (pc' := 67) (dk_at dkX5_latestRelease 33 rfl) rfl ?_
    refine q_istore (pc' := 69) (L' := [some (vR b), some (vI (jn : Int)), some (vJ (lcS S (-1))), none, some (vI (rn : Int)), some (vI (lm : Int)), some (vI 0)]) (dk_at dkX5_latestRelease 34 rfl) (by decide) rfl rfl ?_
    refine l_latest hd hk1 hc8 hkb1 yj hrn hlm hlr 100 0 rn _ (rn : Int) (by omega) (by omega) ?_ hB hN hQ hK hZ hD hM ?_ hX hF
    · intro q q1 q2
      have e : (q : Int) = S.V 2 jn := by omega
      rw [e, rls_self]
    · rw [← hrn, rls_self]
      exact hU
  · refine q_throw (cls := "java/lang/IndexOutOfBoundsException") (text := "there is no such job") th_IOB rfl rfl (by decide +kernel) (by omega) (Nat.le_of_ble_eq_true rfl) (dk_at dkX5_latestRelease 4 rfl) (dk_at dkX5_latestRelease 5 rfl) (dk_at dkX5_latestRelease 6 rfl) (dk_at dkX5_latestRelease 7 rfl) (dk_at dkX5_latestRelease 8 rfl) ?_
    exact ⟨rfl, rfl, y2.f (by omega)⟩
