/-! BatchMachine: digest -/
def dgB (S : Shp) (P : PlS) (z : Int) : Nat → Int
  | 0 => z
  | b + 1 => mxW (fun k => P.od (bgn P.en b + k)) (mxW (fun w => bvS S P w b) (dgB S P z b) 6) (bgn P.en (b + 1) - bgn P.en b)
def dgS (S : Shp) (P : PlS) (tl sv : Int) : Int := 31 * (31 * (31 * dgB S P (31 * mixS S (31 * 2887 + tl) + (P.bc : Int)) P.bc + cvS S P) + lcS S (-1)) + sv
theorem bvS_r {S : Shp} (hk : Sok S) {P : PlS} (hp : PlOk S.cnt P) {w i : Nat} (hi : i < P.bc) : -1000 ≤ bvS S P w i ∧ bvS S P w i ≤ 100000 := by
  have hp : Pok S.cnt P.od P.en P.bc P.sz := hp
  have h8 := hp.1
  have hb8 := hp.2.1
  have h1 := frB_r hk.v hk.t hp i (by omega)
  have h2 := frB_r hk.v hk.t hp (i + 1) (by omega)
  have g1 := hp.bg i (by omega)
  have g2 := hp.bg (i + 1) (by omega)
  have h3 := (hk.v 0 (jb P.od (bgn P.en i)))
  have h4 := hp.2.2.2.1 i hi
  have h5 := rdy_r hk.v P.od (bgn P.en i) (P.en i).toNat
  have h6 : 0 ≤ stp S P.od (bgn P.en i) (lstB S P.od P.en i) ∧ stp S P.od (bgn P.en i) (lstB S P.od P.en i) ≤ 60 := hk.t _ _
  have h7 := fst0_r hk.v hk.t P.od (bgn P.en i) (P.en i).toNat (lstB S P.od P.en i) h1.1
  have hs : 0 ≤ sst S P.od (bgn P.en i) (P.en i).toNat (frB S P.od P.en i) ∧ sst S P.od (bgn P.en i) (P.en i).toNat (frB S P.od P.en i) ≤ 2000 := by
    unfold sst
    split <;> omega
  unfold bvS
  split
  · omega
  · split
    · omega
    · split
      · omega
      · split
        · omega
        · split
          · unfold f0B; omega
          · omega
theorem TInv.bv {S : Shp} {P : PlS} {BV JV : Nat → Nat → Int} {tot : Nat → Int} (h : TInv S P.od P.en P.bc P.bc BV JV tot) {w i : Nat} (hi : i < P.bc) (hw : w < 6) : BV w i = bvS S P w i := by
  have hb := h.1 i hi
  rcases (show w = 0 ∨ w = 1 ∨ w = 2 ∨ w = 3 ∨ w = 4 ∨ w = 5 by omega) with rfl | rfl | rfl | rfl | rfl | rfl
  · exact hb.1
  · exact hb.2.1
  · exact hb.2.2.1
  · exact hb.2.2.2.1
  · exact hb.2.2.2.2.1
  · exact hb.2.2.2.2.2
set_option maxHeartbeats 4000000 in
set_option maxRecDepth 100000 in
theorem l_dg1 {d n : Nat} {b : Nat} {S : Shp} {P : PlS} {kn bs : Int} {sv tl : Nat} {tx : Nat → Int} {F : FT} {h1 : PH} {BV JV : Nat → Nat → Int} {tot : Nat → Int} {fr0 co : Int} (hd : 20 ≤ d) (hk1 : Sok S) (hkp : PlOk S.cnt P) (hTI : TInv S P.od P.en P.bc P.bc BV JV tot) (hB : isBM n h1 b (sv : Int) tx (tl : Int)) (hN : isState n h1 (b + 1) kn bs) (hQ : isShp n h1 (b + 2) S) (hK : isPlS n h1 (b + 15) P) (hM : isTiming n h1 (b + 91) BV JV tot fr0) {bi : Nat} (hbi : bi < P.bc) (hp8 : P.bc ≤ 8) {y : Int} (hex : ∀ (z : Int) (v : Int), z = mxW (fun w => bvS S P w bi) y 6 → QN mX5_digest d F 115 [some (vR b), some (vJ z), none, some (vJ co), none, some (vI (bi : Int)), some (vI v)] [] n h1) : ∀ (c : Nat) (wh : Nat) (z : Int), (wh + c = 6) → (z = mxW (fun w => bvS S P w bi) y wh) → QN mX5_digest d F 83 [some (vR b), some (vJ z), none, some (vJ co), none, some (vI (bi : Int)), some (vI (wh : Int))] [] n h1 := by
  intro c
  induction c with
  | zero =>
    intro wh z hc hz
    refine q_iload (pc' := 85) (dk_at dkX5_digest 40 rfl) rfl rfl ?_
    refine q_bipush (pc' := 87) (dk_at dkX5_digest 41 rfl) (by decide +kernel) rfl ?_
    refine q_icmp_ge (tgt := 115) (pc' := 90) (dk_at dkX5_digest 42 rfl) rfl rfl (by omega) (by omega) (fun c87 => ?_) (fun c87 => ?_)
    · first | (exfalso; omega; done) | exact hex z _ (by rw [hz, show wh = 6 by omega])
    · exfalso
      omega
  | succ c ih =>
    intro wh z hc hz
    refine q_iload (pc' := 85) (dk_at dkX5_digest 40 rfl) rfl rfl ?_
    refine q_bipush (pc' := 87) (dk_at dkX5_digest 41 rfl) (by decide +kernel) rfl ?_
    refine q_icmp_ge (tgt := 115) (pc' := 90) (dk_at dkX5_digest 42 rfl) rfl rfl (by omega) (by omega) (fun c87 => ?_) (fun c87 => ?_)
    · first | (exfalso; omega; done) | exact hex z _ (by rw [hz, show wh = 6 by omega])
    · refine q_lload_n (pc' := 91) (dk_at dkX5_digest 43 rfl) rfl rfl ?_
      refine q_aload_n (pc' := 92) (dk_at dkX5_digest 44 rfl) rfl rfl ?_
      refine r_getf (pc' := 95) fl_RX5_34 (dk_at dkX5_digest 45 rfl) hB.obj rfl rfl ?_
      refine r_getf (pc' := 98) fl_RX5_175 (dk_at dkX5_digest 46 rfl) hM.obj rfl rfl ?_
      refine q_iload (pc' := 100) (dk_at dkX5_digest 47 rfl) rfl rfl ?_
      refine r_aald1 (pc' := 101) (dk_at dkX5_digest 48 rfl) hM.batchValues wh (by omega) (by omega) (by decide) rfl ?_
      refine q_iload (pc' := 103) (dk_at dkX5_digest 49 rfl) rfl rfl ?_
      refine r_iald (pc' := 104) (dk_at dkX5_digest 50 rfl) (hM.batchValues_at wh (by omega)) bi (by omega) (by omega) (by decide) rfl ?_
      have hb1 := hTI.bv (w := wh) (i := bi) (by omega) (by omega)
      have hb2 := bvS_r hk1 hkp (w := wh) (i := bi) (by omega)
      refine q_i2l (pc' := 105) (dk_at dkX5_digest 51 rfl) (by omega) rfl ?_
      refine r_cSJ (pc' := 108) (As := [vJ z, vJ ((BV wh) bi)]) (S := []) cs_RX5_226 (dk_at dkX5_digest 52 rfl) (k_mixed (d := 0)) (by omega) (Nat.zero_le _) (Nat.zero_le _) rfl (Nat.le_of_ble_eq_true rfl) rfl (Nat.le_of_ble_eq_true rfl) rfl (fun xx1 hh2 hphh2 => ?_)
      obtain ⟨qq3, rfl⟩ := hphh2
      rw [qq3]
      refine q_lstore_n (pc' := 109) (L' := [some (vR b), some (vJ (31 * z + ((BV wh) bi))), none, some (vJ co), none, some (vI (bi : Int)), some (vI (wh : Int))]) (dk_at dkX5_digest 53 rfl) (by decide) rfl rfl ?_
      refine q_iinc (pc' := 112) (L' := [some (vR b), some (vJ (31 * z + ((BV wh) bi))), none, some (vJ co), none, some (vI (bi : Int)), some (vI ((wh : Int) + 1))]) (dk_at dkX5_digest 54 rfl) (by decide) rfl rfl rfl ?_
      rw [show ((wh : Int) + 1) = ((wh + 1 : Nat) : Int) by omega]
      refine q_goto (tgt := 83) (dk_at dkX5_digest 55 rfl) rfl ?_
      exact ih (wh + 1) _ (by omega) (by show _ = 31 * mxW (fun w => bvS S P w bi) y wh + bvS S P wh bi; rw [← hz, ← hb1])

set_option maxHeartbeats 4000000 in
set_option maxRecDepth 100000 in
theorem l_dg2 {d n : Nat} {b : Nat} {S : Shp} {P : PlS} {kn bs : Int} {sv tl : Nat} {tx : Nat → Int} {F : FT} {h1 : PH} {BV JV : Nat → Nat → Int} {tot : Nat → Int} {fr0 co : Int} (hd : 20 ≤ d) (hk1 : Sok S) (hkp : PlOk S.cnt P) (hTI : TInv S P.od P.en P.bc P.bc BV JV tot) (hB : isBM n h1 b (sv : Int) tx (tl : Int)) (hN : isState n h1 (b + 1) kn bs) (hQ : isShp n h1 (b + 2) S) (hK : isPlS n h1 (b + 15) P) (hM : isTiming n h1 (b + 91) BV JV tot fr0) {bi : Nat} (hbi : bi < P.bc) (hp8 : P.bc ≤ 8) {y : Int} (hnx : bgn P.en bi < bgn P.en (bi + 1) ∧ bgn P.en (bi + 1) ≤ 8 ∧ ((bgn P.en (bi + 1) : Nat) : Int) = P.en bi) (hex : ∀ (z : Int) (v : Int), z = mxW (fun k => P.od (bgn P.en bi + k)) y (bgn P.en (bi + 1) - bgn P.en bi) → QN mX5_digest d F 172 [some (vR b), some (vJ z), none, some (vJ co), none, some (vI (bi : Int)), some (vI v)] [] n h1) : ∀ (c : Nat) (k : Nat) (z : Int), (bgn P.en bi + k + c = bgn P.en (bi + 1)) → (z = mxW (fun k => P.od (bgn P.en bi + k)) y k) → QN mX5_digest d F 129 [some (vR b), some (vJ z), none, some (vJ co), none, some (vI (bi : Int)), some (vI ((bgn P.en bi + k : Nat) : Int))] [] n h1 := by
  intro c
  induction c with
  | zero =>
    intro k z hc hz
    refine q_iload (pc' := 131) (dk_at dkX5_digest 62 rfl) rfl rfl ?_
    refine q_aload_n (pc' := 132) (dk_at dkX5_digest 63 rfl) rfl rfl ?_
    refine r_getf (pc' := 135) fl_RX5_10 (dk_at dkX5_digest 64 rfl) hB.obj rfl rfl ?_
    refine r_getf (pc' := 138) fl_RX5_99 (dk_at dkX5_digest 65 rfl) hN.obj rfl rfl ?_
    refine r_getf (pc' := 141) fl_RX5_234 (dk_at dkX5_digest 66 rfl) hK.obj rfl rfl ?_
    refine q_iload (pc' := 143) (dk_at dkX5_digest 67 rfl) rfl rfl ?_
    refine r_iald (pc' := 144) (dk_at dkX5_digest 68 rfl) hK.ends bi (by omega) (by omega) (by decide) rfl ?_
    refine q_icmp_ge (tgt := 172) (pc' := 147) (dk_at dkX5_digest 69 rfl) rfl rfl (by omega) (by omega) (fun c144 => ?_) (fun c144 => ?_)
    · first | (exfalso; omega; done) | exact hex z _ (by rw [hz, show k = bgn P.en (bi + 1) - bgn P.en bi by omega])
    · exfalso
      omega
  | succ c ih =>
    intro k z hc hz
    refine q_iload (pc' := 131) (dk_at dkX5_digest 62 rfl) rfl rfl ?_
    refine q_aload_n (pc' := 132) (dk_at dkX5_digest 63 rfl) rfl rfl ?_
    refine r_getf (pc' := 135) fl_RX5_10 (dk_at dkX5_digest 64 rfl) hB.obj rfl rfl ?_
    refine r_getf (pc' := 138) fl_RX5_99 (dk_at dkX5_digest 65 rfl) hN.obj rfl rfl ?_
    refine r_getf (pc' := 141) fl_RX5_234 (dk_at dkX5_digest 66 rfl) hK.obj rfl rfl ?_
    refine q_iload (pc' := 143) (dk_at dkX5_digest 67 rfl) rfl rfl ?_
    refine r_iald (pc' := 144) (dk_at dkX5_digest 68 rfl) hK.ends bi (by omega) (by omega) (by decide) rfl ?_
    refine q_icmp_ge (tgt := 172) (pc' := 147) (dk_at dkX5_digest 69 rfl) rfl rfl (by omega) (by omega) (fun c144 => ?_) (fun c144 => ?_)
    · first | (exfalso; omega; done) | exact hex z _ (by rw [hz, show k = bgn P.en (bi + 1) - bgn P.en bi by omega])
    · refine q_lload_n (pc' := 148) (dk_at dkX5_digest 70 rfl) rfl rfl ?_
      refine q_aload_n (pc' := 149) (dk_at dkX5_digest 71 rfl) rfl rfl ?_
      refine r_getf (pc' := 152) fl_RX5_10 (dk_at dkX5_digest 72 rfl) hB.obj rfl rfl ?_
      refine r_getf (pc' := 155) fl_RX5_99 (dk_at dkX5_digest 73 rfl) hN.obj rfl rfl ?_
      refine r_getf (pc' := 158) fl_RX5_184 (dk_at dkX5_digest 74 rfl) hK.obj rfl rfl ?_
      refine q_iload (pc' := 160) (dk_at dkX5_digest 75 rfl) rfl rfl ?_
      refine r_iald (pc' := 161) (dk_at dkX5_digest 76 rfl) hK.order (bgn P.en bi + k) (by omega) (by omega) (by decide) rfl ?_
      have hod := hkp.2.2.1 (bgn P.en bi + k)
      refine q_i2l (pc' := 162) (dk_at dkX5_digest 77 rfl) (by omega) rfl ?_
      refine r_cSJ (pc' := 165) (As := [vJ z, vJ (P.od (bgn P.en bi + k))]) (S := []) cs_RX5_226 (dk_at dkX5_digest 78 rfl) (k_mixed (d := 0)) (by omega) (Nat.zero_le _) (Nat.zero_le _) rfl (Nat.le_of_ble_eq_true rfl) rfl (Nat.le_of_ble_eq_true rfl) rfl (fun xx1 hh2 hphh2 => ?_)
      obtain ⟨qq3, rfl⟩ := hphh2
      rw [qq3]
      refine q_lstore_n (pc' := 166) (L' := [some (vR b), some (vJ (31 * z + (P.od (bgn P.en bi + k)))), none, some (vJ co), none, some (vI (bi : Int)), some (vI ((bgn P.en bi + k : Nat) : Int))]) (dk_at dkX5_digest 79 rfl) (by decide) rfl rfl ?_
      refine q_iinc (pc' := 169) (L' := [some (vR b), some (vJ (31 * z + (P.od (bgn P.en bi + k)))), none, some (vJ co), none, some (vI (bi : Int)), some (vI (((bgn P.en bi + k : Nat) : Int) + 1))]) (dk_at dkX5_digest 80 rfl) (by decide) rfl rfl rfl ?_
      rw [show (((bgn P.en bi + k : Nat) : Int) + 1) = ((((bgn P.en bi + k) + 1) : Nat) : Int) by omega]
      refine q_goto (tgt := 129) (dk_at dkX5_digest 81 rfl) rfl ?_
      rw [show ((bgn P.en bi + k + 1 : Nat) : Int) = ((bgn P.en bi + (k + 1) : Nat) : Int) by omega]
      exact ih (k + 1) _ (by omega) (by show _ = 31 * mxW (fun k => P.od (bgn P.en bi + k)) y k + P.od (bgn P.en bi + k); rw [← hz])

set_option maxHeartbeats 4000000 in
set_option maxRecDepth 100000 in
theorem l_dg3 {d n : Nat} {b : Nat} {S : Shp} {P : PlS} {kn bs : Int} {sv tl : Nat} {tx : Nat → Int} {F : FT} {h1 : PH} {BV JV : Nat → Nat → Int} {tot : Nat → Int} {fr0 co : Int} (hd : 20 ≤ d) (hk1 : Sok S) (hkp : PlOk S.cnt P) (hTI : TInv S P.od P.en P.bc P.bc BV JV tot) (hB : isBM n h1 b (sv : Int) tx (tl : Int)) (hN : isState n h1 (b + 1) kn bs) (hQ : isShp n h1 (b + 2) S) (hK : isPlS n h1 (b + 15) P) (hM : isTiming n h1 (b + 91) BV JV tot fr0) (hp8 : P.bc ≤ 8) {y : Int} (hex : ∀ (z : Int) (v : Int) (x6 : Option PV), z = dgB S P y P.bc → QN mX5_digest d F 178 [some (vR b), some (vJ z), none, some (vJ co), none, some (vI v), x6] [] n h1) : ∀ (c : Nat) (bi : Nat) (z : Int) (x6 : Option PV), (bi + c = P.bc) → (z = dgB S P y bi) → QN mX5_digest d F 65 [some (vR b), some (vJ z), none, some (vJ co), none, some (vI (bi : Int)), x6] [] n h1 := by
  intro c
  induction c with
  | zero =>
    intro bi z x6 hc hz
    refine q_iload (pc' := 67) (dk_at dkX5_digest 32 rfl) rfl rfl ?_
    refine q_aload_n (pc' := 68) (dk_at dkX5_digest 33 rfl) rfl rfl ?_
    refine r_getf (pc' := 71) fl_RX5_10 (dk_at dkX5_digest 34 rfl) hB.obj rfl rfl ?_
    refine r_getf (pc' := 74) fl_RX5_99 (dk_at dkX5_digest 35 rfl) hN.obj rfl rfl ?_
    refine r_getf (pc' := 77) fl_RX5_143 (dk_at dkX5_digest 36 rfl) hK.obj rfl rfl ?_
    refine q_icmp_ge (tgt := 178) (pc' := 80) (dk_at dkX5_digest 37 rfl) rfl rfl (by omega) (by omega) (fun c77 => ?_) (fun c77 => ?_)
    · first | (exfalso; omega; done) | exact hex z _ _ (by rw [hz, show bi = P.bc by omega])
    · exfalso
      omega
  | succ c ih =>
    intro bi z x6 hc hz
    refine q_iload (pc' := 67) (dk_at dkX5_digest 32 rfl) rfl rfl ?_
    refine q_aload_n (pc' := 68) (dk_at dkX5_digest 33 rfl) rfl rfl ?_
    refine r_getf (pc' := 71) fl_RX5_10 (dk_at dkX5_digest 34 rfl) hB.obj rfl rfl ?_
    refine r_getf (pc' := 74) fl_RX5_99 (dk_at dkX5_digest 35 rfl) hN.obj rfl rfl ?_
    refine r_getf (pc' := 77) fl_RX5_143 (dk_at dkX5_digest 36 rfl) hK.obj rfl rfl ?_
    refine q_icmp_ge (tgt := 178) (pc' := 80) (dk_at dkX5_digest 37 rfl) rfl rfl (by omega) (by omega) (fun c77 => ?_) (fun c77 => ?_)
    · first | (exfalso; omega; done) | exact hex z _ _ (by rw [hz, show bi = P.bc by omega])
    · refine q_iconst (pc' := 81) (dk_at dkX5_digest 38 rfl) rfl ?_
      refine q_istore (pc' := 83) (L' := [some (vR b), some (vJ z), none, some (vJ co), none, some (vI (bi : Int)), some (vI 0)]) (dk_at dkX5_digest 39 rfl) (by decide) rfl rfl ?_
      refine l_dg1 hd hk1 hkp hTI hB hN hQ hK hM (bi := bi) (by omega) hp8 (y := z) ?_ 6 0 z (by omega) rfl
      intro z1 v1 hz1
      have hbi := Pok.bgi hkp (b := bi) (by omega)
      have hnx := Pok.nx hkp (b := bi) (by omega)
      have hsz := hkp.1
      refine q_aload_n (pc' := 116) (dk_at dkX5_digest 56 rfl) rfl rfl ?_
      refine r_getf (pc' := 119) fl_RX5_10 (dk_at dkX5_digest 57 rfl) hB.obj rfl rfl ?_
      refine r_getf (pc' := 122) fl_RX5_99 (dk_at dkX5_digest 58 rfl) hN.obj rfl rfl ?_
      refine q_iload (pc' := 124) (dk_at dkX5_digest 59 rfl) rfl rfl ?_
      refine r_cVI (pc' := 127) (As := [vI (bi : Int)]) (S := []) cv_RX5_187 (dk_at dkX5_digest 60 rfl) hK.obj rfl (k_Plan_beginOf (d := 1) (i := bi) hK (by omega)) (by omega) (Nat.zero_le _) (Nat.zero_le _) rfl (Nat.le_of_ble_eq_true rfl) rfl (Nat.le_of_ble_eq_true rfl) rfl (fun xx1 hh2 hphh2 => ?_)
      obtain ⟨qq3, rfl⟩ := hphh2
      rw [qq3, hbi, show ((bgn P.en bi : Nat) : Int) = ((bgn P.en bi + 0 : Nat) : Int) from rfl]
      refine q_istore (pc' := 129) (L' := [some (vR b), some (vJ z1), none, some (vJ co), none, some (vI (bi : Int)), some (vI ((bgn P.en bi + 0 : Nat) : Int))]) (dk_at dkX5_digest 61 rfl) (by decide) rfl rfl ?_
      refine l_dg2 hd hk1 hkp hTI hB hN hQ hK hM (bi := bi) (by omega) hp8 (y := z1) ⟨hnx.1, by omega, hnx.2.2⟩ ?_ (bgn P.en (bi + 1) - bgn P.en bi) 0 z1 (by omega) rfl
      intro z2 v2 hz2
      refine q_iinc (pc' := 175) (L' := [some (vR b), some (vJ z2), none, some (vJ co), none, some (vI ((bi : Int) + 1)), some (vI v2)]) (dk_at dkX5_digest 82 rfl) (by decide) rfl rfl rfl ?_
      rw [show ((bi : Int) + 1) = ((bi + 1 : Nat) : Int) by omega]
      refine q_goto (tgt := 65) (dk_at dkX5_digest 83 rfl) rfl ?_
      exact ih (bi + 1) _ _ (by omega) (by show _ = mxW _ (mxW _ (dgB S P y bi) 6) _; rw [hz2, hz1, hz])

set_option maxHeartbeats 4000000 in
set_option maxRecDepth 100000 in
theorem k_BM_digest {d n : Nat} {h : PH} {b : Nat} {S : Shp} {P : PlS} {kn bs : Int} {sv tl : Nat} {x : Nat → Snp} {tx : Nat → Int}  (hd : 20 ≤ d) (hI : BMI n h b ((S, P, kn, bs), sv, x, tx, tl)) (hO : BOk ((S, P, kn, bs), sv, x, tx, tl))  : CtrJ mX5_digest d [vR b] n h (fun v h' => v = dgS S P (tl : Int) (sv : Int) ∧ ∃ kn' bs', Bst S kn' bs' ∧ BMI n h' b ((S, P, kn', bs'), sv, x, tx, tl) ∧ Fr h h' b (b + 149)) := by
  obtain ⟨hB, hSt, hZ, hR⟩ := hI
  have hB : isBM n h b (sv : Int) tx (tl : Int) := hB
  obtain ⟨hN, hQ, hK⟩ := hSt
  have hN : isState n h (b + 1) kn bs := hN
  have hQ : isShp n h (b + 2) S := hQ
  have hK : isPlS n h (b + 15) P := hK
  have hZ : SvI n h b x := hZ
  obtain ⟨hk, hsv, hks, htl, htx⟩ := hO
  have hk : SnOk (S, P, kn, bs) := hk
  have hsv : sv ≤ 4 := hsv
  have htl : tl ≤ 60 := htl
  have htx : ∀ i, 0 ≤ tx i ∧ tx i ≤ 127 := htx
  have hk1 : Sok S := hk.1
  have hc8 := hk1.c
  have hkp : Pok S.cnt P.od P.en P.bc P.sz := hk.2.1
  have hp8 : P.sz ≤ 8 := hkp.1
  have hpb : P.bc ≤ P.sz := hkp.2.1
  have hkb : Bst S kn bs := hk.2.2
  have hkn := hkb.1
  have hF : Fr h h b (b + 149) := Fr.rf
  refine q_beginJ (L := [some (vR b), none, none, none, none, none, none]) rfl ?_
  obtain ⟨hD, hM, hU, hX⟩ := hR
  obtain ⟨BV0, JV0, tot0, fre0, hM⟩ := hM
  refine q_ldc2 (pc' := 3) (z := 2887) kc_RX5_224 (by decide +kernel) (dk_at dkX5_digest 0 rfl) rfl ?_
  refine q_aload_n (pc' := 4) (dk_at dkX5_digest 1 rfl) rfl rfl ?_
  refine r_getf (pc' := 7) fl_RX5_130 (dk_at dkX5_digest 2 rfl) hB.obj rfl rfl ?_
  refine q_i2l (pc' := 8) (dk_at dkX5_digest 3 rfl) (by omega) rfl ?_
  refine r_cSJ (pc' := 11) (As := [vJ 2887, vJ (tl : Int)]) (S := []) cs_RX5_226 (dk_at dkX5_digest 4 rfl) (k_mixed (d := 0)) (by omega) (Nat.zero_le _) (Nat.zero_le _) rfl (Nat.le_of_ble_eq_true rfl) rfl (Nat.le_of_ble_eq_true rfl) rfl (fun xx1 hh2 hphh2 => ?_)
  obtain ⟨qq3, rfl⟩ := hphh2
  rw [qq3]
  refine q_lstore_n (pc' := 12) (L' := [some (vR b), some (vJ (31 * 2887 + (tl : Int))), none, none, none, none, none]) (dk_at dkX5_digest 5 rfl) (by decide) rfl rfl ?_
  refine q_aload_n (pc' := 13) (dk_at dkX5_digest 6 rfl) rfl rfl ?_
  refine r_getf (pc' := 16) fl_RX5_10 (dk_at dkX5_digest 7 rfl) hB.obj rfl rfl ?_
  refine r_getf (pc' := 19) fl_RX5_63 (dk_at dkX5_digest 8 rfl) hN.obj rfl rfl ?_
  refine q_lload_n (pc' := 20) (dk_at dkX5_digest 9 rfl) rfl rfl ?_
  refine r_cVJ (pc' := 23) (As := [vJ (31 * 2887 + (tl : Int))]) (S := []) cv_RX5_230 (dk_at dkX5_digest 10 rfl) hQ.obj rfl (k_Shop_mixInto (d := 1) (by omega) hk1 hQ) (by omega) (Nat.zero_le _) (Nat.zero_le _) rfl (Nat.le_of_ble_eq_true rfl) rfl (Nat.le_of_ble_eq_true rfl) rfl (fun xx4 hh5 hphh5 => ?_)
  obtain ⟨qq6, rfl⟩ := hphh5
  rw [qq6]
  refine q_lstore_n (pc' := 24) (L' := [some (vR b), some (vJ (mixS S (31 * 2887 + (tl : Int)))), none, none, none, none, none]) (dk_at dkX5_digest 11 rfl) (by decide) rfl rfl ?_
  refine q_aload_n (pc' := 25) (dk_at dkX5_digest 12 rfl) rfl rfl ?_
  refine r_getf (pc' := 28) fl_RX5_34 (dk_at dkX5_digest 13 rfl) hB.obj rfl rfl ?_
  refine q_aload_n (pc' := 29) (dk_at dkX5_digest 14 rfl) rfl rfl ?_
  refine r_getf (pc' := 32) fl_RX5_10 (dk_at dkX5_digest 15 rfl) hB.obj rfl rfl ?_
  refine r_getf (pc' := 35) fl_RX5_63 (dk_at dkX5_digest 16 rfl) hN.obj rfl rfl ?_
  refine q_aload_n (pc' := 36) (dk_at dkX5_digest 17 rfl) rfl rfl ?_
  refine r_getf (pc' := 39) fl_RX5_10 (dk_at dkX5_digest 18 rfl) hB.obj rfl rfl ?_
  refine r_getf (pc' := 42) fl_RX5_99 (dk_at dkX5_digest 19 rfl) hN.obj rfl rfl ?_
  refine r_cVJ (pc' := 45) (As := [vR (b + 2), vR (b + 15)]) (S := []) cv_RX5_171 (dk_at dkX5_digest 20 rfl) hM.obj rfl (k_Timing_follow (d := 3) (by omega) hk1 hkp (by omega) (by omega) hQ hK hM) (by omega) (Nat.zero_le _) (Nat.zero_le _) rfl (Nat.le_of_ble_eq_true rfl) rfl (Nat.le_of_ble_eq_true rfl) rfl (fun xx7 hh8 hphh8 => ?_)
  obtain ⟨hx, BV, JV, tot, hM, hTI, htt, hGf⟩ := hphh8
  have hB := isBM.frm hB hGf (by omega)
  have hN := isState.frm hN hGf (by omega)
  have hQ := isShop.frm hQ hGf (by omega)
  have hK := isPlan.frm hK hGf (by omega)
  have hZ := SvI.frm hZ hGf (by omega)
  have hD := DrP.frm hD hGf (by omega)
  have hU := ShA.frm hU hGf (by omega)
  have hX := SxP.frm hX hGf (by omega)
  have hF := hF.tr hGf (by omega)
  subst hx
  refine q_lstore_n (pc' := 46) (L' := [some (vR b), some (vJ (mixS S (31 * 2887 + (tl : Int)))), none, some (vJ (cvS S P)), none, none, none]) (dk_at dkX5_digest 21 rfl) (by decide) rfl rfl ?_
  refine q_lload_n (pc' := 47) (dk_at dkX5_digest 22 rfl) rfl rfl ?_
  refine q_aload_n (pc' := 48) (dk_at dkX5_digest 23 rfl) rfl rfl ?_
  refine r_getf (pc' := 51) fl_RX5_10 (dk_at dkX5_digest 24 rfl) hB.obj rfl rfl ?_
  refine r_getf (pc' := 54) fl_RX5_99 (dk_at dkX5_digest 25 rfl) hN.obj rfl rfl ?_
  refine r_getf (pc' := 57) fl_RX5_143 (dk_at dkX5_digest 26 rfl) hK.obj rfl rfl ?_
  refine q_i2l (pc' := 58) (dk_at dkX5_digest 27 rfl) (by omega) rfl ?_
  refine r_cSJ (pc' := 61) (As := [vJ (mixS S (31 * 2887 + (tl : Int))), vJ (P.bc : Int)]) (S := []) cs_RX5_226 (dk_at dkX5_digest 28 rfl) (k_mixed (d := 0)) (by omega) (Nat.zero_le _) (Nat.zero_le _) rfl (Nat.le_of_ble_eq_true rfl) rfl (Nat.le_of_ble_eq_true rfl) rfl (fun xx9 hh10 hphh10 => ?_)
  obtain ⟨qq11, rfl⟩ := hphh10
  rw [qq11]
  refine q_lstore_n (pc' := 62) (L' := [some (vR b), some (vJ (31 * (mixS S (31 * 2887 + (tl : Int))) + (P.bc : Int))), none, some (vJ (cvS S P)), none, none, none]) (dk_at dkX5_digest 29 rfl) (by decide) rfl rfl ?_
  refine q_iconst (pc' := 63) (dk_at dkX5_digest 30 rfl) rfl ?_
  refine q_istore (pc' := 65) (L' := [some (vR b), some (vJ (31 * (mixS S (31 * 2887 + (tl : Int))) + (P.bc : Int))), none, some (vJ (cvS S P)), none, some (vI 0), none]) (dk_at dkX5_digest 31 rfl) (by decide) rfl rfl ?_
  refine l_dg3 hd hk1 hkp hTI hB hN hQ hK hM (by omega) ?_ P.bc 0 _ none (by omega) rfl
  intro z3 v3 x6 hz3
  have hM : TmP n hh8 (b + 91) := ⟨_, _, _, _, hM⟩
  refine q_lload_n (pc' := 179) (dk_at dkX5_digest 84 rfl) rfl rfl ?_
  refine q_lload_n (pc' := 180) (dk_at dkX5_digest 85 rfl) rfl rfl ?_
  refine r_cSJ (pc' := 183) (As := [vJ z3, vJ (cvS S P)]) (S := []) cs_RX5_226 (dk_at dkX5_digest 86 rfl) (k_mixed (d := 0)) (by omega) (Nat.zero_le _) (Nat.zero_le _) rfl (Nat.le_of_ble_eq_true rfl) rfl (Nat.le_of_ble_eq_true rfl) rfl (fun xx12 hh13 hphh13 => ?_)
  obtain ⟨qq14, rfl⟩ := hphh13
  rw [qq14]
  refine q_lstore_n (pc' := 184) (L' := [some (vR b), some (vJ (31 * z3 + (cvS S P))), none, some (vJ (cvS S P)), none, some (vI v3), x6]) (dk_at dkX5_digest 87 rfl) (by decide) rfl rfl ?_
  refine q_lload_n (pc' := 185) (dk_at dkX5_digest 88 rfl) rfl rfl ?_
  refine q_aload_n (pc' := 186) (dk_at dkX5_digest 89 rfl) rfl rfl ?_
  refine r_cVJ (pc' := 189) (As := []) (S := [vJ (31 * z3 + (cvS S P))]) cv_RX5_152 (dk_at dkX5_digest 90 rfl) hB.obj rfl (k_BM_presentBest (d := 14) (by omega) hk1 hkb hB hQ hN hD hM hX) (by omega) (Nat.zero_le _) (Nat.zero_le _) rfl (Nat.le_of_ble_eq_true rfl) rfl (Nat.le_of_ble_eq_true rfl) rfl (fun xx15 hh16 hphh16 => ?_)
  obtain ⟨hx, hB, hQ, ⟨kn1, bs1, hN, hkb1⟩, hD, hM, hX, hW⟩ := hphh16
  obtain ⟨hm1, hm2, hW1, hW2, hW3⟩ := hW.split
  have hK := isPlan.frm hK hW1 (by omega)
  have hZ := SvI.frm hZ hW1 (by omega)
  have hU := ShA.frm hU hW1 (by omega)
  have hF := hF.tr hW1 (by omega)
  have hK := isPlan.frm hK hW2 (by omega)
  have hZ := SvI.frm hZ hW2 (by omega)
  have hU := ShA.frm hU hW2 (by omega)
  have hF := hF.tr hW2 (by omega)
  have hK := isPlan.frm hK hW3 (by omega)
  have hZ := SvI.frm hZ hW3 (by omega)
  have hU := ShA.frm hU hW3 (by omega)
  have hF := hF.tr hW3 (by omega)
  have hkn1 := hkb1.1
  subst hx
  refine r_cSJ (pc' := 192) (As := [vJ (31 * z3 + (cvS S P)), vJ (lcS S (-1))]) (S := []) cs_RX5_226 (dk_at dkX5_digest 91 rfl) (k_mixed (d := 0)) (by omega) (Nat.zero_le _) (Nat.zero_le _) rfl (Nat.le_of_ble_eq_true rfl) rfl (Nat.le_of_ble_eq_true rfl) rfl (fun xx17 hh18 hphh18 => ?_)
  obtain ⟨qq19, rfl⟩ := hphh18
  rw [qq19]
  refine q_lstore_n (pc' := 193) (L' := [some (vR b), some (vJ (31 * (31 * z3 + (cvS S P)) + (lcS S (-1)))), none, some (vJ (cvS S P)), none, some (vI v3), x6]) (dk_at dkX5_digest 92 rfl) (by decide) rfl rfl ?_
  refine q_lload_n (pc' := 194) (dk_at dkX5_digest 93 rfl) rfl rfl ?_
  refine q_aload_n (pc' := 195) (dk_at dkX5_digest 94 rfl) rfl rfl ?_
  refine r_getf (pc' := 198) fl_RX5_216 (dk_at dkX5_digest 95 rfl) hB.obj rfl rfl ?_
  refine q_i2l (pc' := 199) (dk_at dkX5_digest 96 rfl) (by omega) rfl ?_
  refine r_cSJ (pc' := 202) (As := [vJ (31 * (31 * z3 + (cvS S P)) + (lcS S (-1))), vJ (sv : Int)]) (S := []) cs_RX5_226 (dk_at dkX5_digest 97 rfl) (k_mixed (d := 0)) (by omega) (Nat.zero_le _) (Nat.zero_le _) rfl (Nat.le_of_ble_eq_true rfl) rfl (Nat.le_of_ble_eq_true rfl) rfl (fun xx20 hh21 hphh21 => ?_)
  obtain ⟨qq22, rfl⟩ := hphh21
  rw [qq22]
  refine r_lret rfl (dk_at dkX5_digest 98 rfl) ?_
  refine ⟨?_, kn1, bs1, hkb1, ⟨hB, ⟨hN, hQ, hK⟩, hZ, hD, hM, hU, hX⟩, hF⟩
  rw [hz3]
  rfl
