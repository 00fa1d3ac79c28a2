/-! BatchMachine: undo, and the calls that follow the kept plan -/
/-- what batch() answers -/
def bvS (S : Shp) (P : PlS) (w i : Nat) : Int :=
  if w = 0 then S.V 0 (jb P.od (bgn P.en i)) else if w = 1 then P.en i - ((bgn P.en i : Nat) : Int) else if w = 2 then sst S P.od (bgn P.en i) (P.en i).toNat (frB S P.od P.en i) else if w = 3 then sst S P.od (bgn P.en i) (P.en i).toNat (frB S P.od P.en i) + stp S P.od (bgn P.en i) (lstB S P.od P.en i) else if w = 4 then f0B S P.od P.en i else frB S P.od P.en (i + 1)
/-- what planned() answers of the job at a place -/
def pvK (S : Shp) (P : PlS) (w k : Nat) : Int :=
  if w = 0 then stK S P.od P.en P.bc k else if w = 1 then cmK S P.od P.en P.bc k else if w = 2 then max 0 (cmK S P.od P.en P.bc k - S.V 3 (jb P.od k)) else ((bix P.en k P.bc : Nat) : Int)
def pvS (S : Shp) (P : PlS) (w j : Nat) (v : Int) : Prop := (∃ k, k < P.sz ∧ jb P.od k = j ∧ v = pvK S P w k) ∨ ((∀ k, k < P.sz → jb P.od k ≠ j) ∧ v = -1)
def tvS (S : Shp) (P : PlS) (w : Nat) : Int := if w = 0 then stS S P.od P.en P.bc else if w = 1 then tsum S P.od 0 P.sz else frB S P.od P.en P.bc - stS S P.od P.en P.bc - tsum S P.od 0 P.sz
def cvS (S : Shp) (P : PlS) : Int := costP S P.od P.en P.bc P.sz
theorem FrW.split {h h' : PH} {b : Nat} (H : FrW h h' b) : ∃ h1 h2, Fr h h1 (b + 88) (b + 105) ∧ Fr h1 h2 (b + 118) (b + 149) ∧ Fr h2 h' (b + 1) (b + 2) := by
  refine ⟨fun k => if b + 88 ≤ k ∧ k < b + 105 then h' k else h k, fun k => if (b + 88 ≤ k ∧ k < b + 105) ∨ (b + 118 ≤ k ∧ k < b + 149) then h' k else h k, fun k hk => if_neg (by omega), fun k hk => ?_, fun k hk => ?_⟩
  · dsimp only
    by_cases z : b + 88 ≤ k ∧ k < b + 105
    · rw [if_pos z, if_pos (Or.inl z)]
    · rw [if_neg z, if_neg (by omega)]
  · dsimp only
    by_cases z : (b + 88 ≤ k ∧ k < b + 105) ∨ (b + 118 ≤ k ∧ k < b + 149)
    · rw [if_pos z]
    · rw [if_neg z]; exact H k (by omega) (by omega) (by omega)
set_option maxHeartbeats 4000000 in
set_option maxRecDepth 100000 in
theorem k_BM_undo {d n : Nat} {h : PH} {b : Nat} {S : Shp} {P : PlS} {kn bs : Int} {sv tl : Nat} {x : Nat → Snp} {tx : Nat → Int}  (hd : 20 ≤ d) (hI : BMI n h b ((S, P, kn, bs), sv, x, tx, tl)) (hO : BOk ((S, P, kn, bs), sv, x, tx, tl))  : CtrX mX5_undo d [vR b] n h (fun r h' => ∃ v, r = some (vI v) ∧ 0 < sv ∧ v = (sv : Int) - 1 ∧ BMI n h' b (x (sv - 1), sv - 1, x, tx, tl) ∧ Fr h h' b (b + 149)) (fun E h' => h' = h ∧ E = "java/lang/IllegalStateException" ∧ sv = 0) := by
  obtain ⟨hB, hSt, hZ, hR⟩ := hI
  have hB : isBM n h b (sv : Int) tx (tl : Int) := hB
  obtain ⟨hN, hQ, hK⟩ := hSt
  have hN : isState n h (b + 1) kn bs := hN
  have hQ : isShp n h (b + 2) S := hQ
  have hK : isPlS n h (b + 15) P := hK
  have hZ : SvI n h b x := hZ
  obtain ⟨hk, hsv, hks, htl, htx⟩ := hO
  have hk : SnOk (S, P, kn, bs) := hk
  have hsv : sv ≤ 4 := hsv
  have htl : tl ≤ 60 := htl
  have htx : ∀ i, 0 ≤ tx i ∧ tx i ≤ 127 := htx
  have hk1 : Sok S := hk.1
  have hc8 := hk1.c
  have hkp : Pok S.cnt P.od P.en P.bc P.sz := hk.2.1
  have hp8 : P.sz ≤ 8 := hkp.1
  have hpb : P.bc ≤ P.sz := hkp.2.1
  have hkb : Bst S kn bs := hk.2.2
  have hkn := hkb.1
  have hF : Fr h h b (b + 149) := Fr.rf
  refine q_beginX (L := [some (vR b)]) rfl ?_
  refine q_aload_n (pc' := 1) (dk_at dkX5_undo 0 rfl) rfl rfl ?_
  refine r_getf (pc' := 4) fl_RX5_216 (dk_at dkX5_undo 1 rfl) hB.obj rfl rfl ?_
  refine q_if_gt (tgt := 17) (pc' := 7) (dk_at dkX5_undo 2 rfl) rfl rfl (by omega) (fun c4 => ?_) (fun c4 => ?_)
  · have hx : SnOk (x (sv - 1)) := hks (sv - 1) (by show sv - 1 < sv; omega)
    refine q_aload_n (pc' := 18) (dk_at dkX5_undo 8 rfl) rfl rfl ?_
    refine q_aload_n (pc' := 19) (dk_at dkX5_undo 9 rfl) rfl rfl ?_
    refine r_getf (pc' := 22) fl_RX5_216 (dk_at dkX5_undo 10 rfl) hB.obj rfl rfl ?_
    refine q_iconst (pc' := 23) (dk_at dkX5_undo 11 rfl) rfl ?_
    refine q_isub (pc' := 24) (dk_at dkX5_undo 12 rfl) rfl ?_
    refine r_putf (pc' := 27) fp_RX5_216 (dk_at dkX5_undo 13 rfl) hB.obj (Nat.le_of_ble_eq_true rfl) (PT_int _) rfl (fun hh1 ehh1 => ?_)
    have hB := hB.w_obj ehh1
    have hN := hN.off ehh1 (by omega)
    have hQ := hQ.off ehh1 (by omega)
    have hK := hK.off ehh1 (by omega)
    have hZ := hZ.off ehh1 (by omega)
    have hR := hR.off ehh1 (by omega)
    have hF := hF.put ehh1 (by omega)
    refine q_aload_n (pc' := 28) (dk_at dkX5_undo 14 rfl) rfl rfl ?_
    refine r_getf (pc' := 31) fl_RX5_10 (dk_at dkX5_undo 15 rfl) hB.obj rfl rfl ?_
    refine q_aload_n (pc' := 32) (dk_at dkX5_undo 16 rfl) rfl rfl ?_
    refine r_getf (pc' := 35) fl_RX5_16 (dk_at dkX5_undo 17 rfl) hB.obj rfl rfl ?_
    refine q_aload_n (pc' := 36) (dk_at dkX5_undo 18 rfl) rfl rfl ?_
    refine r_getf (pc' := 39) fl_RX5_216 (dk_at dkX5_undo 19 rfl) hB.obj rfl rfl ?_
    obtain ⟨q, hq, hZq⟩ := id hZ
    have hg : svF b q (sv - 1) = some (b + 19 + 17 * q (sv - 1)) := if_pos (by omega)
    refine r_aald0 (pc' := 40) (dk_at dkX5_undo 20 rfl) hZq.1 (sv - 1) (by omega) (by omega) (by decide) hg rfl ?_
    refine r_cVV (pc' := 43) (As := [vR (b + 19 + 17 * q (sv - 1))]) (S := []) cv_RX5_221 (dk_at dkX5_undo 21 rfl) hN.obj rfl (k_State_takeFrom (d := 2) (S := S) (P1 := P) (by omega) hx.1 hx.2.2.1 (by have := hq.1 (sv - 1) (by omega); omega) ⟨hN, hQ, hK⟩ (hZq.2 (sv - 1) (by omega))) (by omega) (Nat.zero_le _) (Nat.zero_le _) rfl (Nat.le_of_ble_eq_true rfl) rfl (Nat.le_of_ble_eq_true rfl) rfl (fun hh3 hphh3 => ?_)
    obtain ⟨hSt, hGf⟩ := hphh3
    have hB := isBM.frm hB hGf (by omega)
    have hZ := SvI.frm hZ hGf (by omega)
    have hR := BMR.frm hR hGf (by omega)
    have hF := hF.tr hGf (by omega)
    refine q_aload_n (pc' := 44) (dk_at dkX5_undo 22 rfl) rfl rfl ?_
    refine r_getf (pc' := 47) fl_RX5_216 (dk_at dkX5_undo 23 rfl) hB.obj rfl rfl ?_
    refine x_iret rfl (dk_at dkX5_undo 24 rfl) ?_
    refine ⟨_, rfl, by omega, rfl, ⟨?_, hSt, hZ, hR⟩, hF⟩
    show isBM n _ b ((sv - 1 : Nat) : Int) tx (tl : Int)
    rw [show ((sv - 1 : Nat) : Int) = (sv : Int) - 1 by omega]
    exact hB
  · refine q_throw (cls := "java/lang/IllegalStateException") (text := "there is no saved state") th_ISE rfl rfl (by decide +kernel) (by omega) (Nat.le_of_ble_eq_true rfl) (dk_at dkX5_undo 3 rfl) (dk_at dkX5_undo 4 rfl) (dk_at dkX5_undo 5 rfl) (dk_at dkX5_undo 6 rfl) (dk_at dkX5_undo 7 rfl) ?_
    exact ⟨rfl, rfl, by omega⟩

set_option maxHeartbeats 4000000 in
set_option maxRecDepth 100000 in
theorem k_BM_batch {d n : Nat} {h : PH} {b : Nat} {S : Shp} {P : PlS} {kn bs : Int} {sv tl : Nat} {x : Nat → Snp} {tx : Nat → Int} {i0 w : Int} (hd : 20 ≤ d) (hI : BMI n h b ((S, P, kn, bs), sv, x, tx, tl)) (hO : BOk ((S, P, kn, bs), sv, x, tx, tl)) (hi1 : IR i0) (hi2 : IR w) : CtrX mX5_batch d [vR b, vI i0, vI w] n h (fun r h' => ∃ v, r = some (vI v) ∧ (0 ≤ i0 ∧ i0 < (P.bc : Int)) ∧ (0 ≤ w ∧ w < 6) ∧ v = bvS S P w.toNat i0.toNat ∧ BMI n h' b ((S, P, kn, bs), sv, x, tx, tl) ∧ Fr h h' b (b + 149)) (fun E h' => h' = h ∧ ((E = "java/lang/IndexOutOfBoundsException" ∧ ¬ (0 ≤ i0 ∧ i0 < (P.bc : Int))) ∨ (E = "java/lang/IllegalArgumentException" ∧ (0 ≤ i0 ∧ i0 < (P.bc : Int)) ∧ ¬ (0 ≤ w ∧ w < 6)))) := by
  obtain ⟨hB, hSt, hZ, hR⟩ := hI
  have hB : isBM n h b (sv : Int) tx (tl : Int) := hB
  obtain ⟨hN, hQ, hK⟩ := hSt
  have hN : isState n h (b + 1) kn bs := hN
  have hQ : isShp n h (b + 2) S := hQ
  have hK : isPlS n h (b + 15) P := hK
  have hZ : SvI n h b x := hZ
  obtain ⟨hk, hsv, hks, htl, htx⟩ := hO
  have hk : SnOk (S, P, kn, bs) := hk
  have hsv : sv ≤ 4 := hsv
  have htl : tl ≤ 60 := htl
  have htx : ∀ i, 0 ≤ tx i ∧ tx i ≤ 127 := htx
  have hk1 : Sok S := hk.1
  have hc8 := hk1.c
  have hkp : Pok S.cnt P.od P.en P.bc P.sz := hk.2.1
  have hp8 : P.sz ≤ 8 := hkp.1
  have hpb : P.bc ≤ P.sz := hkp.2.1
  have hkb : Bst S kn bs := hk.2.2
  have hkn := hkb.1
  have hF : Fr h h b (b + 149) := Fr.rf
  refine q_beginX (L := [some (vR b), some (vI i0), some (vI w)]) rfl ?_
  refine q_iload_n (pc' := 1) (dk_at dkX5_batch 0 rfl) rfl rfl ?_
  refine q_if_lt (tgt := 18) (pc' := 4) (dk_at dkX5_batch 1 rfl) rfl rfl (by omega) (fun c1 => ?_) (fun c1 => ?_)
  · refine q_throw (cls := "java/lang/IndexOutOfBoundsException") (text := "there is no such batch") th_IOB rfl rfl (by decide +kernel) (by omega) (Nat.le_of_ble_eq_true rfl) (dk_at dkX5_batch 8 rfl) (dk_at dkX5_batch 9 rfl) (dk_at dkX5_batch 10 rfl) (dk_at dkX5_batch 11 rfl) (dk_at dkX5_batch 12 rfl) ?_
    exact ⟨rfl, Or.inl ⟨rfl, by omega⟩⟩
  · refine q_iload_n (pc' := 5) (dk_at dkX5_batch 2 rfl) rfl rfl ?_
    refine q_aload_n (pc' := 6) (dk_at dkX5_batch 3 rfl) rfl rfl ?_
    refine r_getf (pc' := 9) fl_RX5_10 (dk_at dkX5_batch 4 rfl) hB.obj rfl rfl ?_
    refine r_getf (pc' := 12) fl_RX5_99 (dk_at dkX5_batch 5 rfl) hN.obj rfl rfl ?_
    refine r_getf (pc' := 15) fl_RX5_143 (dk_at dkX5_batch 6 rfl) hK.obj rfl rfl ?_
    refine q_icmp_lt (tgt := 28) (pc' := 18) (dk_at dkX5_batch 7 rfl) rfl rfl (by omega) (by omega) (fun c15 => ?_) (fun c15 => ?_)
    · refine q_iload_n (pc' := 29) (dk_at dkX5_batch 13 rfl) rfl rfl ?_
      refine q_if_lt (tgt := 38) (pc' := 32) (dk_at dkX5_batch 14 rfl) rfl rfl (by omega) (fun c29 => ?_) (fun c29 => ?_)
      · refine q_throw (cls := "java/lang/IllegalArgumentException") (text := "what is out of range") th_IAE rfl rfl (by decide +kernel) (by omega) (Nat.le_of_ble_eq_true rfl) (dk_at dkX5_batch 18 rfl) (dk_at dkX5_batch 19 rfl) (dk_at dkX5_batch 20 rfl) (dk_at dkX5_batch 21 rfl) (dk_at dkX5_batch 22 rfl) ?_
        exact ⟨rfl, Or.inr ⟨rfl, by omega, by omega⟩⟩
      · refine q_iload_n (pc' := 33) (dk_at dkX5_batch 15 rfl) rfl rfl ?_
        refine q_bipush (pc' := 35) (dk_at dkX5_batch 16 rfl) (by decide +kernel) rfl ?_
        refine q_icmp_lt (tgt := 48) (pc' := 38) (dk_at dkX5_batch 17 rfl) rfl rfl (by omega) (by omega) (fun c35 => ?_) (fun c35 => ?_)
        · obtain ⟨hD, hM, hU, hX⟩ := hR
          obtain ⟨BV0, JV0, tot0, fre0, hM⟩ := hM
          refine q_aload_n (pc' := 49) (dk_at dkX5_batch 23 rfl) rfl rfl ?_
          refine r_getf (pc' := 52) fl_RX5_34 (dk_at dkX5_batch 24 rfl) hB.obj rfl rfl ?_
          refine q_aload_n (pc' := 53) (dk_at dkX5_batch 25 rfl) rfl rfl ?_
          refine r_getf (pc' := 56) fl_RX5_10 (dk_at dkX5_batch 26 rfl) hB.obj rfl rfl ?_
          refine r_getf (pc' := 59) fl_RX5_63 (dk_at dkX5_batch 27 rfl) hN.obj rfl rfl ?_
          refine q_aload_n (pc' := 60) (dk_at dkX5_batch 28 rfl) rfl rfl ?_
          refine r_getf (pc' := 63) fl_RX5_10 (dk_at dkX5_batch 29 rfl) hB.obj rfl rfl ?_
          refine r_getf (pc' := 66) fl_RX5_99 (dk_at dkX5_batch 30 rfl) hN.obj rfl rfl ?_
          refine r_cVJ (pc' := 69) (As := [vR (b + 2), vR (b + 15)]) (S := []) cv_RX5_171 (dk_at dkX5_batch 31 rfl) hM.obj rfl (k_Timing_follow (d := 3) (by omega) hk1 hkp (by omega) (by omega) hQ hK hM) (by omega) (Nat.zero_le _) (Nat.zero_le _) rfl (Nat.le_of_ble_eq_true rfl) rfl (Nat.le_of_ble_eq_true rfl) rfl (fun xx1 hh2 hphh2 => ?_)
          obtain ⟨hx, BV, JV, tot, hM, hTI, htt, hGf⟩ := hphh2
          have hB := isBM.frm hB hGf (by omega)
          have hN := isState.frm hN hGf (by omega)
          have hQ := isShop.frm hQ hGf (by omega)
          have hK := isPlan.frm hK hGf (by omega)
          have hZ := SvI.frm hZ hGf (by omega)
          have hD := DrP.frm hD hGf (by omega)
          have hU := ShA.frm hU hGf (by omega)
          have hX := SxP.frm hX hGf (by omega)
          have hF := hF.tr hGf (by omega)
          refine q_pop2 (pc' := 70) (dk_at dkX5_batch 32 rfl) rfl ?_
          refine q_aload_n (pc' := 71) (dk_at dkX5_batch 33 rfl) rfl rfl ?_
          refine r_getf (pc' := 74) fl_RX5_34 (dk_at dkX5_batch 34 rfl) hB.obj rfl rfl ?_
          refine r_getf (pc' := 77) fl_RX5_175 (dk_at dkX5_batch 35 rfl) hM.obj rfl rfl ?_
          refine q_iload_n (pc' := 78) (dk_at dkX5_batch 36 rfl) rfl rfl ?_
          refine r_aald1 (pc' := 79) (dk_at dkX5_batch 37 rfl) hM.batchValues ((w).toNat) (by omega) (by omega) (by decide) rfl ?_
          refine q_iload_n (pc' := 80) (dk_at dkX5_batch 38 rfl) rfl rfl ?_
          refine r_iald (pc' := 81) (dk_at dkX5_batch 39 rfl) (hM.batchValues_at ((w).toNat) (by omega)) ((i0).toNat) (by omega) (by omega) (by decide) rfl ?_
          refine x_iret rfl (dk_at dkX5_batch 40 rfl) ?_
          refine ⟨_, rfl, by omega, by omega, ?_, ⟨hB, ⟨hN, hQ, hK⟩, hZ, hD, ⟨_, _, _, _, hM⟩, hU, hX⟩, hF⟩
          have hb := hTI.1 i0.toNat (by omega)
          rcases (show w = 0 ∨ w = 1 ∨ w = 2 ∨ w = 3 ∨ w = 4 ∨ w = 5 by omega) with rfl | rfl | rfl | rfl | rfl | rfl
          · exact hb.1
          · exact hb.2.1
          · exact hb.2.2.1
          · exact hb.2.2.2.1
          · exact hb.2.2.2.2.1
          · exact hb.2.2.2.2.2
        · refine q_throw (cls := "java/lang/IllegalArgumentException") (text := "what is out of range") th_IAE rfl rfl (by decide +kernel) (by omega) (Nat.le_of_ble_eq_true rfl) (dk_at dkX5_batch 18 rfl) (dk_at dkX5_batch 19 rfl) (dk_at dkX5_batch 20 rfl) (dk_at dkX5_batch 21 rfl) (dk_at dkX5_batch 22 rfl) ?_
          exact ⟨rfl, Or.inr ⟨rfl, by omega, by omega⟩⟩
    · refine q_throw (cls := "java/lang/IndexOutOfBoundsException") (text := "there is no such batch") th_IOB rfl rfl (by decide +kernel) (by omega) (Nat.le_of_ble_eq_true rfl) (dk_at dkX5_batch 8 rfl) (dk_at dkX5_batch 9 rfl) (dk_at dkX5_batch 10 rfl) (dk_at dkX5_batch 11 rfl) (dk_at dkX5_batch 12 rfl) ?_
      exact ⟨rfl, Or.inl ⟨rfl, by omega⟩⟩

set_option maxHeartbeats 4000000 in
set_option maxRecDepth 100000 in
theorem k_BM_planned {d n : Nat} {h : PH} {b : Nat} {S : Shp} {P : PlS} {kn bs : Int} {sv tl : Nat} {x : Nat → Snp} {tx : Nat → Int} {j w : Int} (hd : 20 ≤ d) (hI : BMI n h b ((S, P, kn, bs), sv, x, tx, tl)) (hO : BOk ((S, P, kn, bs), sv, x, tx, tl)) (hi1 : IR j) (hi2 : IR w) : CtrX mX5_planned d [vR b, vI j, vI w] n h (fun r h' => ∃ v, r = some (vI v) ∧ jOk S j ∧ (0 ≤ w ∧ w < 4) ∧ pvS S P w.toNat j.toNat v ∧ BMI n h' b ((S, P, kn, bs), sv, x, tx, tl) ∧ Fr h h' b (b + 149)) (fun E h' => h' = h ∧ ((E = "java/lang/IndexOutOfBoundsException" ∧ ¬ jOk S j) ∨ (E = "java/lang/IllegalArgumentException" ∧ jOk S j ∧ ¬ (0 ≤ w ∧ w < 4)))) := by
  obtain ⟨hB, hSt, hZ, hR⟩ := hI
  have hB : isBM n h b (sv : Int) tx (tl : Int) := hB
  obtain ⟨hN, hQ, hK⟩ := hSt
  have hN : isState n h (b + 1) kn bs := hN
  have hQ : isShp n h (b + 2) S := hQ
  have hK : isPlS n h (b + 15) P := hK
  have hZ : SvI n h b x := hZ
  obtain ⟨hk, hsv, hks, htl, htx⟩ := hO
  have hk : SnOk (S, P, kn, bs) := hk
  have hsv : sv ≤ 4 := hsv
  have htl : tl ≤ 60 := htl
  have htx : ∀ i, 0 ≤ tx i ∧ tx i ≤ 127 := htx
  have hk1 : Sok S := hk.1
  have hc8 := hk1.c
  have hkp : Pok S.cnt P.od P.en P.bc P.sz := hk.2.1
  have hp8 : P.sz ≤ 8 := hkp.1
  have hpb : P.bc ≤ P.sz := hkp.2.1
  have hkb : Bst S kn bs := hk.2.2
  have hkn := hkb.1
  have hF : Fr h h b (b + 149) := Fr.rf
  refine q_beginX (L := [some (vR b), some (vI j), some (vI w)]) rfl ?_
  refine q_aload_n (pc' := 1) (dk_at dkX5_planned 0 rfl) rfl rfl ?_
  refine q_iload_n (pc' := 2) (dk_at dkX5_planned 1 rfl) rfl rfl ?_
  refine r_cVI (pc' := 5) (As := [vI j]) (S := []) cv_RX5_86 (dk_at dkX5_planned 2 rfl) hB.obj rfl (k_BM_isJobY (d := 0) hc8 (by omega) hB hN hQ) (by omega) (Nat.zero_le _) (Nat.zero_le _) rfl (Nat.le_of_ble_eq_true rfl) rfl (Nat.le_of_ble_eq_true rfl) rfl (fun xx1 hh2 hphh2 => ?_)
  obtain ⟨qq3, y2⟩ := hphh2
  subst qq3
  have yr2 := y2.r
  refine q_if_ne (tgt := 18) (pc' := 8) (dk_at dkX5_planned 3 rfl) rfl rfl (by omega) (fun c5 => ?_) (fun c5 => ?_)
  · have yj : 0 ≤ j ∧ j < (S.cnt : Int) := y2.t (by omega)
    refine q_iload_n (pc' := 19) (dk_at dkX5_planned 9 rfl) rfl rfl ?_
    refine q_if_lt (tgt := 27) (pc' := 22) (dk_at dkX5_planned 10 rfl) rfl rfl (by omega) (fun c19 => ?_) (fun c19 => ?_)
    · refine q_throw (cls := "java/lang/IllegalArgumentException") (text := "what is out of range") th_IAE rfl rfl (by decide +kernel) (by omega) (Nat.le_of_ble_eq_true rfl) (dk_at dkX5_planned 14 rfl) (dk_at dkX5_planned 15 rfl) (dk_at dkX5_planned 16 rfl) (dk_at dkX5_planned 17 rfl) (dk_at dkX5_planned 18 rfl) ?_
      exact ⟨rfl, Or.inr ⟨rfl, yj, by omega⟩⟩
    · refine q_iload_n (pc' := 23) (dk_at dkX5_planned 11 rfl) rfl rfl ?_
      refine q_iconst (pc' := 24) (dk_at dkX5_planned 12 rfl) rfl ?_
      refine q_icmp_lt (tgt := 37) (pc' := 27) (dk_at dkX5_planned 13 rfl) rfl rfl (by omega) (by omega) (fun c24 => ?_) (fun c24 => ?_)
      · obtain ⟨hD, hM, hU, hX⟩ := hR
        obtain ⟨BV0, JV0, tot0, fre0, hM⟩ := hM
        refine q_aload_n (pc' := 38) (dk_at dkX5_planned 19 rfl) rfl rfl ?_
        refine r_getf (pc' := 41) fl_RX5_34 (dk_at dkX5_planned 20 rfl) hB.obj rfl rfl ?_
        refine q_aload_n (pc' := 42) (dk_at dkX5_planned 21 rfl) rfl rfl ?_
        refine r_getf (pc' := 45) fl_RX5_10 (dk_at dkX5_planned 22 rfl) hB.obj rfl rfl ?_
        refine r_getf (pc' := 48) fl_RX5_63 (dk_at dkX5_planned 23 rfl) hN.obj rfl rfl ?_
        refine q_aload_n (pc' := 49) (dk_at dkX5_planned 24 rfl) rfl rfl ?_
        refine r_getf (pc' := 52) fl_RX5_10 (dk_at dkX5_planned 25 rfl) hB.obj rfl rfl ?_
        refine r_getf (pc' := 55) fl_RX5_99 (dk_at dkX5_planned 26 rfl) hN.obj rfl rfl ?_
        refine r_cVJ (pc' := 58) (As := [vR (b + 2), vR (b + 15)]) (S := []) cv_RX5_171 (dk_at dkX5_planned 27 rfl) hM.obj rfl (k_Timing_follow (d := 3) (by omega) hk1 hkp (by omega) (by omega) hQ hK hM) (by omega) (Nat.zero_le _) (Nat.zero_le _) rfl (Nat.le_of_ble_eq_true rfl) rfl (Nat.le_of_ble_eq_true rfl) rfl (fun xx4 hh5 hphh5 => ?_)
        obtain ⟨hx, BV, JV, tot, hM, hTI, htt, hGf⟩ := hphh5
        have hB := isBM.frm hB hGf (by omega)
        have hN := isState.frm hN hGf (by omega)
        have hQ := isShop.frm hQ hGf (by omega)
        have hK := isPlan.frm hK hGf (by omega)
        have hZ := SvI.frm hZ hGf (by omega)
        have hD := DrP.frm hD hGf (by omega)
        have hU := ShA.frm hU hGf (by omega)
        have hX := SxP.frm hX hGf (by omega)
        have hF := hF.tr hGf (by omega)
        refine q_pop2 (pc' := 59) (dk_at dkX5_planned 28 rfl) rfl ?_
        refine q_aload_n (pc' := 60) (dk_at dkX5_planned 29 rfl) rfl rfl ?_
        refine r_getf (pc' := 63) fl_RX5_34 (dk_at dkX5_planned 30 rfl) hB.obj rfl rfl ?_
        refine r_getf (pc' := 66) fl_RX5_190 (dk_at dkX5_planned 31 rfl) hM.obj rfl rfl ?_
        refine q_iload_n (pc' := 67) (dk_at dkX5_planned 32 rfl) rfl rfl ?_
        refine r_aald1 (pc' := 68) (dk_at dkX5_planned 33 rfl) hM.jobValues ((w).toNat) (by omega) (by omega) (by decide) rfl ?_
        refine q_iload_n (pc' := 69) (dk_at dkX5_planned 34 rfl) rfl rfl ?_
        refine r_iald (pc' := 70) (dk_at dkX5_planned 35 rfl) (hM.jobValues_at ((w).toNat) (by omega)) ((j).toNat) (by omega) (by omega) (by decide) rfl ?_
        refine x_iret rfl (dk_at dkX5_planned 36 rfl) ?_
        refine ⟨_, rfl, yj, by omega, ?_, ⟨hB, ⟨hN, hQ, hK⟩, hZ, hD, ⟨_, _, _, _, hM⟩, hU, hX⟩, hF⟩
        by_cases z : ∃ k, k < P.sz ∧ jb P.od k = j.toNat
        · obtain ⟨k, k1, k2⟩ := z
          have hb := hTI.2.1 k (by rw [hkp.2.2.2.2.1]; exact k1)
          rw [k2] at hb
          refine Or.inl ⟨k, k1, k2, ?_⟩
          unfold pvK
          rw [k2]
          rcases (show w = 0 ∨ w = 1 ∨ w = 2 ∨ w = 3 by omega) with rfl | rfl | rfl | rfl
          · exact hb.1
          · exact hb.2.1
          · exact hb.2.2.1
          · exact hb.2.2.2
        · refine Or.inr ⟨fun k k1 k2 => z ⟨k, k1, k2⟩, ?_⟩
          exact hTI.2.2.1 j.toNat (fun k k1 k2 => z ⟨k, by rw [hkp.2.2.2.2.1] at k1; exact k1, k2⟩) w.toNat (by omega)
      · refine q_throw (cls := "java/lang/IllegalArgumentException") (text := "what is out of range") th_IAE rfl rfl (by decide +kernel) (by omega) (Nat.le_of_ble_eq_true rfl) (dk_at dkX5_planned 14 rfl) (dk_at dkX5_planned 15 rfl) (dk_at dkX5_planned 16 rfl) (dk_at dkX5_planned 17 rfl) (dk_at dkX5_planned 18 rfl) ?_
        exact ⟨rfl, Or.inr ⟨rfl, yj, by omega⟩⟩
  · refine q_throw (cls := "java/lang/IndexOutOfBoundsException") (text := "there is no such job") th_IOB rfl rfl (by decide +kernel) (by omega) (Nat.le_of_ble_eq_true rfl) (dk_at dkX5_planned 4 rfl) (dk_at dkX5_planned 5 rfl) (dk_at dkX5_planned 6 rfl) (dk_at dkX5_planned 7 rfl) (dk_at dkX5_planned 8 rfl) ?_
    exact ⟨rfl, Or.inl ⟨rfl, y2.f (by omega)⟩⟩

set_option maxHeartbeats 4000000 in
set_option maxRecDepth 100000 in
theorem k_BM_cost {d n : Nat} {h : PH} {b : Nat} {S : Shp} {P : PlS} {kn bs : Int} {sv tl : Nat} {x : Nat → Snp} {tx : Nat → Int}  (hd : 20 ≤ d) (hI : BMI n h b ((S, P, kn, bs), sv, x, tx, tl)) (hO : BOk ((S, P, kn, bs), sv, x, tx, tl))  : CtrJ mX5_cost d [vR b] n h (fun v h' => v = cvS S P ∧ BMI n h' b ((S, P, kn, bs), sv, x, tx, tl) ∧ Fr h h' b (b + 149)) := by
  obtain ⟨hB, hSt, hZ, hR⟩ := hI
  have hB : isBM n h b (sv : Int) tx (tl : Int) := hB
  obtain ⟨hN, hQ, hK⟩ := hSt
  have hN : isState n h (b + 1) kn bs := hN
  have hQ : isShp n h (b + 2) S := hQ
  have hK : isPlS n h (b + 15) P := hK
  have hZ : SvI n h b x := hZ
  obtain ⟨hk, hsv, hks, htl, htx⟩ := hO
  have hk : SnOk (S, P, kn, bs) := hk
  have hsv : sv ≤ 4 := hsv
  have htl : tl ≤ 60 := htl
  have htx : ∀ i, 0 ≤ tx i ∧ tx i ≤ 127 := htx
  have hk1 : Sok S := hk.1
  have hc8 := hk1.c
  have hkp : Pok S.cnt P.od P.en P.bc P.sz := hk.2.1
  have hp8 : P.sz ≤ 8 := hkp.1
  have hpb : P.bc ≤ P.sz := hkp.2.1
  have hkb : Bst S kn bs := hk.2.2
  have hkn := hkb.1
  have hF : Fr h h b (b + 149) := Fr.rf
  refine q_beginJ (L := [some (vR b)]) rfl ?_
  obtain ⟨hD, hM, hU, hX⟩ := hR
  obtain ⟨BV0, JV0, tot0, fre0, hM⟩ := hM
  refine q_aload_n (pc' := 1) (dk_at dkX5_cost 0 rfl) rfl rfl ?_
  refine r_getf (pc' := 4) fl_RX5_34 (dk_at dkX5_cost 1 rfl) hB.obj rfl rfl ?_
  refine q_aload_n (pc' := 5) (dk_at dkX5_cost 2 rfl) rfl rfl ?_
  refine r_getf (pc' := 8) fl_RX5_10 (dk_at dkX5_cost 3 rfl) hB.obj rfl rfl ?_
  refine r_getf (pc' := 11) fl_RX5_63 (dk_at dkX5_cost 4 rfl) hN.obj rfl rfl ?_
  refine q_aload_n (pc' := 12) (dk_at dkX5_cost 5 rfl) rfl rfl ?_
  refine r_getf (pc' := 15) fl_RX5_10 (dk_at dkX5_cost 6 rfl) hB.obj rfl rfl ?_
  refine r_getf (pc' := 18) fl_RX5_99 (dk_at dkX5_cost 7 rfl) hN.obj rfl rfl ?_
  refine r_cVJ (pc' := 21) (As := [vR (b + 2), vR (b + 15)]) (S := []) cv_RX5_171 (dk_at dkX5_cost 8 rfl) hM.obj rfl (k_Timing_follow (d := 3) (by omega) hk1 hkp (by omega) (by omega) hQ hK hM) (by omega) (Nat.zero_le _) (Nat.zero_le _) rfl (Nat.le_of_ble_eq_true rfl) rfl (Nat.le_of_ble_eq_true rfl) rfl (fun xx1 hh2 hphh2 => ?_)
  obtain ⟨hx, BV, JV, tot, hM, hTI, htt, hGf⟩ := hphh2
  have hB := isBM.frm hB hGf (by omega)
  have hN := isState.frm hN hGf (by omega)
  have hQ := isShop.frm hQ hGf (by omega)
  have hK := isPlan.frm hK hGf (by omega)
  have hZ := SvI.frm hZ hGf (by omega)
  have hD := DrP.frm hD hGf (by omega)
  have hU := ShA.frm hU hGf (by omega)
  have hX := SxP.frm hX hGf (by omega)
  have hF := hF.tr hGf (by omega)
  refine r_lret rfl (dk_at dkX5_cost 9 rfl) ?_
  exact ⟨hx, ⟨hB, ⟨hN, hQ, hK⟩, hZ, hD, ⟨_, _, _, _, hM⟩, hU, hX⟩, hF⟩

set_option maxHeartbeats 4000000 in
set_option maxRecDepth 100000 in
theorem k_BM_total {d n : Nat} {h : PH} {b : Nat} {S : Shp} {P : PlS} {kn bs : Int} {sv tl : Nat} {x : Nat → Snp} {tx : Nat → Int} {w : Int} (hd : 20 ≤ d) (hI : BMI n h b ((S, P, kn, bs), sv, x, tx, tl)) (hO : BOk ((S, P, kn, bs), sv, x, tx, tl)) (hi2 : IR w) : CtrX mX5_total d [vR b, vI w] n h (fun r h' => ∃ v, r = some (vI v) ∧ (0 ≤ w ∧ w < 3) ∧ v = tvS S P w.toNat ∧ BMI n h' b ((S, P, kn, bs), sv, x, tx, tl) ∧ Fr h h' b (b + 149)) (fun E h' => h' = h ∧ E = "java/lang/IllegalArgumentException" ∧ ¬ (0 ≤ w ∧ w < 3)) := by
  obtain ⟨hB, hSt, hZ, hR⟩ := hI
  have hB : isBM n h b (sv : Int) tx (tl : Int) := hB
  obtain ⟨hN, hQ, hK⟩ := hSt
  have hN : isState n h (b + 1) kn bs := hN
  have hQ : isShp n h (b + 2) S := hQ
  have hK : isPlS n h (b + 15) P := hK
  have hZ : SvI n h b x := hZ
  obtain ⟨hk, hsv, hks, htl, htx⟩ := hO
  have hk : SnOk (S, P, kn, bs) := hk
  have hsv : sv ≤ 4 := hsv
  have htl : tl ≤ 60 := htl
  have htx : ∀ i, 0 ≤ tx i ∧ tx i ≤ 127 := htx
  have hk1 : Sok S := hk.1
  have hc8 := hk1.c
  have hkp : Pok S.cnt P.od P.en P.bc P.sz := hk.2.1
  have hp8 : P.sz ≤ 8 := hkp.1
  have hpb : P.bc ≤ P.sz := hkp.2.1
  have hkb : Bst S kn bs := hk.2.2
  have hkn := hkb.1
  have hF : Fr h h b (b + 149) := Fr.rf
  refine q_beginX (L := [some (vR b), some (vI w)]) rfl ?_
  refine q_iload_n (pc' := 1) (dk_at dkX5_total 0 rfl) rfl rfl ?_
  refine q_if_lt (tgt := 9) (pc' := 4) (dk_at dkX5_total 1 rfl) rfl rfl (by omega) (fun c1 => ?_) (fun c1 => ?_)
  · refine q_throw (cls := "java/lang/IllegalArgumentException") (text := "what is out of range") th_IAE rfl rfl (by decide +kernel) (by omega) (Nat.le_of_ble_eq_true rfl) (dk_at dkX5_total 5 rfl) (dk_at dkX5_total 6 rfl) (dk_at dkX5_total 7 rfl) (dk_at dkX5_total 8 rfl) (dk_at dkX5_total 9 rfl) ?_
    exact ⟨rfl, rfl, by omega⟩
  · refine q_iload_n (pc' := 5) (dk_at dkX5_total 2 rfl) rfl rfl ?_
    refine q_iconst (pc' := 6) (dk_at dkX5_total 3 rfl) rfl ?_
    refine q_icmp_lt (tgt := 19) (pc' := 9) (dk_at dkX5_total 4 rfl) rfl rfl (by omega) (by omega) (fun c6 => ?_) (fun c6 => ?_)
    · obtain ⟨hD, hM, hU, hX⟩ := hR
      obtain ⟨BV0, JV0, tot0, fre0, hM⟩ := hM
      refine q_aload_n (pc' := 20) (dk_at dkX5_total 10 rfl) rfl rfl ?_
      refine r_getf (pc' := 23) fl_RX5_34 (dk_at dkX5_total 11 rfl) hB.obj rfl rfl ?_
      refine q_aload_n (pc' := 24) (dk_at dkX5_total 12 rfl) rfl rfl ?_
      refine r_getf (pc' := 27) fl_RX5_10 (dk_at dkX5_total 13 rfl) hB.obj rfl rfl ?_
      refine r_getf (pc' := 30) fl_RX5_63 (dk_at dkX5_total 14 rfl) hN.obj rfl rfl ?_
      refine q_aload_n (pc' := 31) (dk_at dkX5_total 15 rfl) rfl rfl ?_
      refine r_getf (pc' := 34) fl_RX5_10 (dk_at dkX5_total 16 rfl) hB.obj rfl rfl ?_
      refine r_getf (pc' := 37) fl_RX5_99 (dk_at dkX5_total 17 rfl) hN.obj rfl rfl ?_
      refine r_cVJ (pc' := 40) (As := [vR (b + 2), vR (b + 15)]) (S := []) cv_RX5_171 (dk_at dkX5_total 18 rfl) hM.obj rfl (k_Timing_follow (d := 3) (by omega) hk1 hkp (by omega) (by omega) hQ hK hM) (by omega) (Nat.zero_le _) (Nat.zero_le _) rfl (Nat.le_of_ble_eq_true rfl) rfl (Nat.le_of_ble_eq_true rfl) rfl (fun xx1 hh2 hphh2 => ?_)
      obtain ⟨hx, BV, JV, tot, hM, hTI, htt, hGf⟩ := hphh2
      have hB := isBM.frm hB hGf (by omega)
      have hN := isState.frm hN hGf (by omega)
      have hQ := isShop.frm hQ hGf (by omega)
      have hK := isPlan.frm hK hGf (by omega)
      have hZ := SvI.frm hZ hGf (by omega)
      have hD := DrP.frm hD hGf (by omega)
      have hU := ShA.frm hU hGf (by omega)
      have hX := SxP.frm hX hGf (by omega)
      have hF := hF.tr hGf (by omega)
      refine q_pop2 (pc' := 41) (dk_at dkX5_total 19 rfl) rfl ?_
      refine q_aload_n (pc' := 42) (dk_at dkX5_total 20 rfl) rfl rfl ?_
      refine r_getf (pc' := 45) fl_RX5_34 (dk_at dkX5_total 21 rfl) hB.obj rfl rfl ?_
      refine r_getf (pc' := 48) fl_RX5_193 (dk_at dkX5_total 22 rfl) hM.obj rfl rfl ?_
      refine q_iload_n (pc' := 49) (dk_at dkX5_total 23 rfl) rfl rfl ?_
      refine r_iald (pc' := 50) (dk_at dkX5_total 24 rfl) hM.totals ((w).toNat) (by omega) (by omega) (by decide) rfl ?_
      refine x_iret rfl (dk_at dkX5_total 25 rfl) ?_
      refine ⟨_, rfl, by omega, ?_, ⟨hB, ⟨hN, hQ, hK⟩, hZ, hD, ⟨_, _, _, _, hM⟩, hU, hX⟩, hF⟩
      rcases (show w = 0 ∨ w = 1 ∨ w = 2 by omega) with rfl | rfl | rfl
      · exact hTI.2.2.2.1
      · have := hTI.2.2.2.2
        rw [hkp.2.2.2.2.1] at this
        exact this
      · exact htt
    · refine q_throw (cls := "java/lang/IllegalArgumentException") (text := "what is out of range") th_IAE rfl rfl (by decide +kernel) (by omega) (Nat.le_of_ble_eq_true rfl) (dk_at dkX5_total 5 rfl) (dk_at dkX5_total 6 rfl) (dk_at dkX5_total 7 rfl) (dk_at dkX5_total 8 rfl) (dk_at dkX5_total 9 rfl) ?_
      exact ⟨rfl, rfl, by omega⟩

set_option maxHeartbeats 4000000 in
set_option maxRecDepth 100000 in
theorem k_BM_bestCost {d n : Nat} {h : PH} {b : Nat} {S : Shp} {P : PlS} {kn bs : Int} {sv tl : Nat} {x : Nat → Snp} {tx : Nat → Int}  (hd : 20 ≤ d) (hI : BMI n h b ((S, P, kn, bs), sv, x, tx, tl)) (hO : BOk ((S, P, kn, bs), sv, x, tx, tl))  : CtrJ mX5_bestCost d [vR b] n h (fun v h' => v = lcS S (-1) ∧ ∃ kn' bs', Bst S kn' bs' ∧ BMI n h' b ((S, P, kn', bs'), sv, x, tx, tl) ∧ Fr h h' b (b + 149)) := by
  obtain ⟨hB, hSt, hZ, hR⟩ := hI
  have hB : isBM n h b (sv : Int) tx (tl : Int) := hB
  obtain ⟨hN, hQ, hK⟩ := hSt
  have hN : isState n h (b + 1) kn bs := hN
  have hQ : isShp n h (b + 2) S := hQ
  have hK : isPlS n h (b + 15) P := hK
  have hZ : SvI n h b x := hZ
  obtain ⟨hk, hsv, hks, htl, htx⟩ := hO
  have hk : SnOk (S, P, kn, bs) := hk
  have hsv : sv ≤ 4 := hsv
  have htl : tl ≤ 60 := htl
  have htx : ∀ i, 0 ≤ tx i ∧ tx i ≤ 127 := htx
  have hk1 : Sok S := hk.1
  have hc8 := hk1.c
  have hkp : Pok S.cnt P.od P.en P.bc P.sz := hk.2.1
  have hp8 : P.sz ≤ 8 := hkp.1
  have hpb : P.bc ≤ P.sz := hkp.2.1
  have hkb : Bst S kn bs := hk.2.2
  have hkn := hkb.1
  have hF : Fr h h b (b + 149) := Fr.rf
  refine q_beginJ (L := [some (vR b)]) rfl ?_
  obtain ⟨hD, hM, hU, hX⟩ := hR
  refine q_aload_n (pc' := 1) (dk_at dkX5_bestCost 0 rfl) rfl rfl ?_
  refine r_cVJ (pc' := 4) (As := []) (S := []) cv_RX5_152 (dk_at dkX5_bestCost 1 rfl) hB.obj rfl (k_BM_presentBest (d := 14) (by omega) hk1 hkb hB hQ hN hD hM hX) (by omega) (Nat.zero_le _) (Nat.zero_le _) rfl (Nat.le_of_ble_eq_true rfl) rfl (Nat.le_of_ble_eq_true rfl) rfl (fun xx1 hh2 hphh2 => ?_)
  obtain ⟨hx, hB, hQ, ⟨kn1, bs1, hN, hkb1⟩, hD, hM, hX, hW⟩ := hphh2
  obtain ⟨hm1, hm2, hW1, hW2, hW3⟩ := hW.split
  have hK := isPlan.frm hK hW1 (by omega)
  have hZ := SvI.frm hZ hW1 (by omega)
  have hU := ShA.frm hU hW1 (by omega)
  have hF := hF.tr hW1 (by omega)
  have hK := isPlan.frm hK hW2 (by omega)
  have hZ := SvI.frm hZ hW2 (by omega)
  have hU := ShA.frm hU hW2 (by omega)
  have hF := hF.tr hW2 (by omega)
  have hK := isPlan.frm hK hW3 (by omega)
  have hZ := SvI.frm hZ hW3 (by omega)
  have hU := ShA.frm hU hW3 (by omega)
  have hF := hF.tr hW3 (by omega)
  have hkn1 := hkb1.1
  refine r_lret rfl (dk_at dkX5_bestCost 2 rfl) ?_
  exact ⟨hx, _, _, hkb1, ⟨hB, ⟨hN, hQ, hK⟩, hZ, hD, hM, hU, hX⟩, hF⟩

theorem Sok.drop {S : Shp} (h : Sok S) {j : Nat} (hj : j < S.cnt) : Sok (S.drop j) := by
  have e1 : (S.drop j).cnt = S.cnt - 1 := rfl
  refine ⟨by have := h.c; omega, fun w k => ?_, h.t, h.w, h.e, h.o, fun k hk => ?_⟩
  · show 0 ≤ dropR (S.V w) j S.cnt k ∧ dropR (S.V w) j S.cnt k ≤ 500 ∧ (w = 0 → dropR (S.V w) j S.cnt k ≤ 3) ∧ (w = 1 → dropR (S.V w) j S.cnt k ≤ 50) ∧ (w = 2 → dropR (S.V w) j S.cnt k ≤ 300) ∧ (w = 4 → dropR (S.V w) j S.cnt k ≤ 9)
    unfold dropR
    split
    · exact h.v w (k + 1)
    · exact h.v w k
  · show 1 ≤ dropR (S.V 1) j S.cnt k ∧ 1 ≤ dropR (S.V 4) j S.cnt k
    have hk' : k < S.cnt - 1 := hk
    unfold dropR
    by_cases z : j ≤ k ∧ k + 1 < S.cnt
    · rw [if_pos z, if_pos z]; exact h.p (k + 1) z.2
    · rw [if_neg z, if_neg z]; exact h.p k (by omega)
theorem Sok.free {S : Shp} (h : Sok S) : Sok S.free := by
  refine ⟨h.c, h.v, fun r t => ?_, h.w, h.e, h.o, h.p⟩
  show 0 ≤ zeroR (S.T r) r 4 t ∧ zeroR (S.T r) r 4 t ≤ 60
  unfold zeroR
  have := h.t r t
  split <;> omega
set_option maxHeartbeats 4000000 in
set_option maxRecDepth 100000 in
theorem k_BM_bestWithout {d n : Nat} {h : PH} {b : Nat} {S : Shp} {P : PlS} {kn bs : Int} {sv tl : Nat} {x : Nat → Snp} {tx : Nat → Int} {j : Int} (hd : 20 ≤ d) (hI : BMI n h b ((S, P, kn, bs), sv, x, tx, tl)) (hO : BOk ((S, P, kn, bs), sv, x, tx, tl)) (hi1 : IR j) : CtrX mX5_bestWithout d [vR b, vI j] n h (fun r h' => ∃ v, r = some (vJ v) ∧ jOk S j ∧ v = lcS (S.drop j.toNat) (-1) ∧ BMI n h' b ((S, P, kn, bs), sv, x, tx, tl) ∧ Fr h h' b (b + 149)) (fun E h' => h' = h ∧ E = "java/lang/IndexOutOfBoundsException" ∧ ¬ jOk S j) := by
  obtain ⟨hB, hSt, hZ, hR⟩ := hI
  have hB : isBM n h b (sv : Int) tx (tl : Int) := hB
  obtain ⟨hN, hQ, hK⟩ := hSt
  have hN : isState n h (b + 1) kn bs := hN
  have hQ : isShp n h (b + 2) S := hQ
  have hK : isPlS n h (b + 15) P := hK
  have hZ : SvI n h b x := hZ
  obtain ⟨hk, hsv, hks, htl, htx⟩ := hO
  have hk : SnOk (S, P, kn, bs) := hk
  have hsv : sv ≤ 4 := hsv
  have htl : tl ≤ 60 := htl
  have htx : ∀ i, 0 ≤ tx i ∧ tx i ≤ 127 := htx
  have hk1 : Sok S := hk.1
  have hc8 := hk1.c
  have hkp : Pok S.cnt P.od P.en P.bc P.sz := hk.2.1
  have hp8 : P.sz ≤ 8 := hkp.1
  have hpb : P.bc ≤ P.sz := hkp.2.1
  have hkb : Bst S kn bs := hk.2.2
  have hkn := hkb.1
  have hF : Fr h h b (b + 149) := Fr.rf
  refine q_beginX (L := [some (vR b), some (vI j)]) rfl ?_
  refine q_aload_n (pc' := 1) (dk_at dkX5_bestWithout 0 rfl) rfl rfl ?_
  refine q_iload_n (pc' := 2) (dk_at dkX5_bestWithout 1 rfl) rfl rfl ?_
  refine r_cVI (pc' := 5) (As := [vI j]) (S := []) cv_RX5_86 (dk_at dkX5_bestWithout 2 rfl) hB.obj rfl (k_BM_isJobY (d := 0) hc8 (by omega) hB hN hQ) (by omega) (Nat.zero_le _) (Nat.zero_le _) rfl (Nat.le_of_ble_eq_true rfl) rfl (Nat.le_of_ble_eq_true rfl) rfl (fun xx1 hh2 hphh2 => ?_)
  obtain ⟨qq3, y2⟩ := hphh2
  subst qq3
  have yr2 := y2.r
  refine q_if_ne (tgt := 18) (pc' := 8) (dk_at dkX5_bestWithout 3 rfl) rfl rfl (by omega) (fun c5 => ?_) (fun c5 => ?_)
  · obtain ⟨jn, rfl⟩ : ∃ z : Nat, j = (z : Int) := ⟨j.toNat, by have := y2.t (by omega); unfold jOk at this; omega⟩
    obtain ⟨hD, hM, hU, hX⟩ := hR
    obtain ⟨U, hU⟩ := hU
    have yj : (0 : Int) ≤ (jn : Int) ∧ (jn : Int) < (S.cnt : Int) := y2.t (by omega)
    refine q_aload_n (pc' := 19) (dk_at dkX5_bestWithout 9 rfl) rfl rfl ?_
    refine r_getf (pc' := 22) fl_RX5_41 (dk_at dkX5_bestWithout 10 rfl) hB.obj rfl rfl ?_
    refine q_aload_n (pc' := 23) (dk_at dkX5_bestWithout 11 rfl) rfl rfl ?_
    refine r_getf (pc' := 26) fl_RX5_10 (dk_at dkX5_bestWithout 12 rfl) hB.obj rfl rfl ?_
    refine r_getf (pc' := 29) fl_RX5_63 (dk_at dkX5_bestWithout 13 rfl) hN.obj rfl rfl ?_
    refine r_cVV (pc' := 32) (As := [vR (b + 2)]) (S := []) cv_RX5_196 (dk_at dkX5_bestWithout 14 rfl) hU.obj rfl (k_Shop_takeFrom (d := 1) (by omega) (by omega) hk1 hU hQ) (by omega) (Nat.zero_le _) (Nat.zero_le _) rfl (Nat.le_of_ble_eq_true rfl) rfl (Nat.le_of_ble_eq_true rfl) rfl (fun hh5 hphh5 => ?_)
    obtain ⟨hU, hGf⟩ := hphh5
    have hB := isBM.frm hB hGf (by omega)
    have hN := isState.frm hN hGf (by omega)
    have hQ := isShop.frm hQ hGf (by omega)
    have hK := isPlan.frm hK hGf (by omega)
    have hZ := SvI.frm hZ hGf (by omega)
    have hD := DrP.frm hD hGf (by omega)
    have hX := SxP.frm hX hGf (by omega)
    have hM := TmP.frm hM hGf (by omega)
    have hF := hF.tr hGf (by omega)
    refine q_aload_n (pc' := 33) (dk_at dkX5_bestWithout 15 rfl) rfl rfl ?_
    refine r_getf (pc' := 36) fl_RX5_41 (dk_at dkX5_bestWithout 16 rfl) hB.obj rfl rfl ?_
    refine q_iload_n (pc' := 37) (dk_at dkX5_bestWithout 17 rfl) rfl rfl ?_
    refine r_cVV (pc' := 40) (As := [vI (jn : Int)]) (S := []) cv_RX5_95 (dk_at dkX5_bestWithout 18 rfl) hU.obj rfl (k_Shop_dropJob (d := 0) (job := jn) hc8 (by omega) hU) (by omega) (Nat.zero_le _) (Nat.zero_le _) rfl (Nat.le_of_ble_eq_true rfl) rfl (Nat.le_of_ble_eq_true rfl) rfl (fun hh7 hphh7 => ?_)
    obtain ⟨hU, hGf⟩ := hphh7
    have hB := isBM.frm hB hGf (by omega)
    have hN := isState.frm hN hGf (by omega)
    have hQ := isShop.frm hQ hGf (by omega)
    have hK := isPlan.frm hK hGf (by omega)
    have hZ := SvI.frm hZ hGf (by omega)
    have hD := DrP.frm hD hGf (by omega)
    have hX := SxP.frm hX hGf (by omega)
    have hM := TmP.frm hM hGf (by omega)
    have hF := hF.tr hGf (by omega)
    refine q_aload_n (pc' := 41) (dk_at dkX5_bestWithout 19 rfl) rfl rfl ?_
    refine q_aload_n (pc' := 42) (dk_at dkX5_bestWithout 20 rfl) rfl rfl ?_
    refine r_getf (pc' := 45) fl_RX5_41 (dk_at dkX5_bestWithout 21 rfl) hB.obj rfl rfl ?_
    refine q_iconst (pc' := 46) (dk_at dkX5_bestWithout 22 rfl) rfl ?_
    refine r_cVJ (pc' := 49) (As := [vR (b + 105), vI (-1)]) (S := []) cv_RX5_199 (dk_at dkX5_bestWithout 23 rfl) hB.obj rfl (k_BM_leastCost (d := 13) (q := b + 105) (S := S.drop jn) (by omega) (hk1.drop (by omega)) (Or.inl rfl) (by omega) (by omega) hB hU hD hM hX) (by omega) (Nat.zero_le _) (Nat.zero_le _) rfl (Nat.le_of_ble_eq_true rfl) rfl (Nat.le_of_ble_eq_true rfl) rfl (fun xx8 hh9 hphh9 => ?_)
    obtain ⟨hx2, hB, hU, hD, hM, hX, hm, hG1, hG2⟩ := hphh9
    have hN := isState.frm hN hG1 (by omega)
    have hQ := isShop.frm hQ hG1 (by omega)
    have hK := isPlan.frm hK hG1 (by omega)
    have hZ := SvI.frm hZ hG1 (by omega)
    have hF := hF.tr hG1 (by omega)
    have hN := isState.frm hN hG2 (by omega)
    have hQ := isShop.frm hQ hG2 (by omega)
    have hK := isPlan.frm hK hG2 (by omega)
    have hZ := SvI.frm hZ hG2 (by omega)
    have hF := hF.tr hG2 (by omega)
    refine x_lret rfl (dk_at dkX5_bestWithout 24 rfl) ?_
    exact ⟨_, rfl, yj, hx2, ⟨hB, ⟨hN, hQ, hK⟩, hZ, hD, hM, ⟨_, hU⟩, hX⟩, hF⟩
  · refine q_throw (cls := "java/lang/IndexOutOfBoundsException") (text := "there is no such job") th_IOB rfl rfl (by decide +kernel) (by omega) (Nat.le_of_ble_eq_true rfl) (dk_at dkX5_bestWithout 4 rfl) (dk_at dkX5_bestWithout 5 rfl) (dk_at dkX5_bestWithout 6 rfl) (dk_at dkX5_bestWithout 7 rfl) (dk_at dkX5_bestWithout 8 rfl) ?_
    exact ⟨rfl, rfl, y2.f (by omega)⟩

set_option maxHeartbeats 4000000 in
set_option maxRecDepth 100000 in
theorem k_BM_bestWithFirst {d n : Nat} {h : PH} {b : Nat} {S : Shp} {P : PlS} {kn bs : Int} {sv tl : Nat} {x : Nat → Snp} {tx : Nat → Int} {j : Int} (hd : 20 ≤ d) (hI : BMI n h b ((S, P, kn, bs), sv, x, tx, tl)) (hO : BOk ((S, P, kn, bs), sv, x, tx, tl)) (hi1 : IR j) : CtrX mX5_bestWithFirst d [vR b, vI j] n h (fun r h' => ∃ v, r = some (vJ v) ∧ jOk S j ∧ v = lcS S j ∧ BMI n h' b ((S, P, kn, bs), sv, x, tx, tl) ∧ Fr h h' b (b + 149)) (fun E h' => h' = h ∧ E = "java/lang/IndexOutOfBoundsException" ∧ ¬ jOk S j) := by
  obtain ⟨hB, hSt, hZ, hR⟩ := hI
  have hB : isBM n h b (sv : Int) tx (tl : Int) := hB
  obtain ⟨hN, hQ, hK⟩ := hSt
  have hN : isState n h (b + 1) kn bs := hN
  have hQ : isShp n h (b + 2) S := hQ
  have hK : isPlS n h (b + 15) P := hK
  have hZ : SvI n h b x := hZ
  obtain ⟨hk, hsv, hks, htl, htx⟩ := hO
  have hk : SnOk (S, P, kn, bs) := hk
  have hsv : sv ≤ 4 := hsv
  have htl : tl ≤ 60 := htl
  have htx : ∀ i, 0 ≤ tx i ∧ tx i ≤ 127 := htx
  have hk1 : Sok S := hk.1
  have hc8 := hk1.c
  have hkp : Pok S.cnt P.od P.en P.bc P.sz := hk.2.1
  have hp8 : P.sz ≤ 8 := hkp.1
  have hpb : P.bc ≤ P.sz := hkp.2.1
  have hkb : Bst S kn bs := hk.2.2
  have hkn := hkb.1
  have hF : Fr h h b (b + 149) := Fr.rf
  refine q_beginX (L := [some (vR b), some (vI j)]) rfl ?_
  refine q_aload_n (pc' := 1) (dk_at dkX5_bestWithFirst 0 rfl) rfl rfl ?_
  refine q_iload_n (pc' := 2) (dk_at dkX5_bestWithFirst 1 rfl) rfl rfl ?_
  refine r_cVI (pc' := 5) (As := [vI j]) (S := []) cv_RX5_86 (dk_at dkX5_bestWithFirst 2 rfl) hB.obj rfl (k_BM_isJobY (d := 0) hc8 (by omega) hB hN hQ) (by omega) (Nat.zero_le _) (Nat.zero_le _) rfl (Nat.le_of_ble_eq_true rfl) rfl (Nat.le_of_ble_eq_true rfl) rfl (fun xx1 hh2 hphh2 => ?_)
  obtain ⟨qq3, y2⟩ := hphh2
  subst qq3
  have yr2 := y2.r
  refine q_if_ne (tgt := 18) (pc' := 8) (dk_at dkX5_bestWithFirst 3 rfl) rfl rfl (by omega) (fun c5 => ?_) (fun c5 => ?_)
  · obtain ⟨hD, hM, hU, hX⟩ := hR
    have yj : 0 ≤ j ∧ j < (S.cnt : Int) := y2.t (by omega)
    refine q_aload_n (pc' := 19) (dk_at dkX5_bestWithFirst 9 rfl) rfl rfl ?_
    refine q_aload_n (pc' := 20) (dk_at dkX5_bestWithFirst 10 rfl) rfl rfl ?_
    refine r_getf (pc' := 23) fl_RX5_10 (dk_at dkX5_bestWithFirst 11 rfl) hB.obj rfl rfl ?_
    refine r_getf (pc' := 26) fl_RX5_63 (dk_at dkX5_bestWithFirst 12 rfl) hN.obj rfl rfl ?_
    refine q_iload_n (pc' := 27) (dk_at dkX5_bestWithFirst 13 rfl) rfl rfl ?_
    refine r_cVJ (pc' := 30) (As := [vR (b + 2), vI j]) (S := []) cv_RX5_199 (dk_at dkX5_bestWithFirst 14 rfl) hB.obj rfl (k_BM_leastCost (d := 13) (q := b + 2) (S := S) (by omega) hk1 (Or.inr yj) (by omega) (by omega) hB hQ hD hM hX) (by omega) (Nat.zero_le _) (Nat.zero_le _) rfl (Nat.le_of_ble_eq_true rfl) rfl (Nat.le_of_ble_eq_true rfl) rfl (fun xx4 hh5 hphh5 => ?_)
    obtain ⟨hx2, hB, hQ, hD, hM, hX, hm, hG1, hG2⟩ := hphh5
    have hN := isState.frm hN hG1 (by omega)
    have hK := isPlan.frm hK hG1 (by omega)
    have hZ := SvI.frm hZ hG1 (by omega)
    have hU := ShA.frm hU hG1 (by omega)
    have hF := hF.tr hG1 (by omega)
    have hN := isState.frm hN hG2 (by omega)
    have hK := isPlan.frm hK hG2 (by omega)
    have hZ := SvI.frm hZ hG2 (by omega)
    have hU := ShA.frm hU hG2 (by omega)
    have hF := hF.tr hG2 (by omega)
    refine x_lret rfl (dk_at dkX5_bestWithFirst 15 rfl) ?_
    exact ⟨_, rfl, yj, hx2, ⟨hB, ⟨hN, hQ, hK⟩, hZ, hD, hM, hU, hX⟩, hF⟩
  · refine q_throw (cls := "java/lang/IndexOutOfBoundsException") (text := "there is no such job") th_IOB rfl rfl (by decide +kernel) (by omega) (Nat.le_of_ble_eq_true rfl) (dk_at dkX5_bestWithFirst 4 rfl) (dk_at dkX5_bestWithFirst 5 rfl) (dk_at dkX5_bestWithFirst 6 rfl) (dk_at dkX5_bestWithFirst 7 rfl) (dk_at dkX5_bestWithFirst 8 rfl) ?_
    exact ⟨rfl, rfl, y2.f (by omega)⟩

set_option maxHeartbeats 4000000 in
set_option maxRecDepth 100000 in
theorem k_BM_setupPrice {d n : Nat} {h : PH} {b : Nat} {S : Shp} {P : PlS} {kn bs : Int} {sv tl : Nat} {x : Nat → Snp} {tx : Nat → Int}  (hd : 20 ≤ d) (hI : BMI n h b ((S, P, kn, bs), sv, x, tx, tl)) (hO : BOk ((S, P, kn, bs), sv, x, tx, tl))  : CtrJ mX5_setupPrice d [vR b] n h (fun v h' => v = lcS S (-1) - lcS S.free (-1) ∧ ∃ kn' bs', Bst S kn' bs' ∧ BMI n h' b ((S, P, kn', bs'), sv, x, tx, tl) ∧ Fr h h' b (b + 149)) := by
  obtain ⟨hB, hSt, hZ, hR⟩ := hI
  have hB : isBM n h b (sv : Int) tx (tl : Int) := hB
  obtain ⟨hN, hQ, hK⟩ := hSt
  have hN : isState n h (b + 1) kn bs := hN
  have hQ : isShp n h (b + 2) S := hQ
  have hK : isPlS n h (b + 15) P := hK
  have hZ : SvI n h b x := hZ
  obtain ⟨hk, hsv, hks, htl, htx⟩ := hO
  have hk : SnOk (S, P, kn, bs) := hk
  have hsv : sv ≤ 4 := hsv
  have htl : tl ≤ 60 := htl
  have htx : ∀ i, 0 ≤ tx i ∧ tx i ≤ 127 := htx
  have hk1 : Sok S := hk.1
  have hc8 := hk1.c
  have hkp : Pok S.cnt P.od P.en P.bc P.sz := hk.2.1
  have hp8 : P.sz ≤ 8 := hkp.1
  have hpb : P.bc ≤ P.sz := hkp.2.1
  have hkb : Bst S kn bs := hk.2.2
  have hkn := hkb.1
  have hF : Fr h h b (b + 149) := Fr.rf
  refine q_beginJ (L := [some (vR b), none, none]) rfl ?_
  obtain ⟨hD, hM, hU, hX⟩ := hR
  obtain ⟨U, hU⟩ := hU
  refine q_aload_n (pc' := 1) (dk_at dkX5_setupPrice 0 rfl) rfl rfl ?_
  refine r_cVJ (pc' := 4) (As := []) (S := []) cv_RX5_152 (dk_at dkX5_setupPrice 1 rfl) hB.obj rfl (k_BM_presentBest (d := 14) (by omega) hk1 hkb hB hQ hN hD hM hX) (by omega) (Nat.zero_le _) (Nat.zero_le _) rfl (Nat.le_of_ble_eq_true rfl) rfl (Nat.le_of_ble_eq_true rfl) rfl (fun xx1 hh2 hphh2 => ?_)
  obtain ⟨hx, hB, hQ, ⟨kn1, bs1, hN, hkb1⟩, hD, hM, hX, hW⟩ := hphh2
  obtain ⟨hm1, hm2, hW1, hW2, hW3⟩ := hW.split
  have hK := isPlan.frm hK hW1 (by omega)
  have hZ := SvI.frm hZ hW1 (by omega)
  have hU := isShop.frm hU hW1 (by omega)
  have hF := hF.tr hW1 (by omega)
  have hK := isPlan.frm hK hW2 (by omega)
  have hZ := SvI.frm hZ hW2 (by omega)
  have hU := isShop.frm hU hW2 (by omega)
  have hF := hF.tr hW2 (by omega)
  have hK := isPlan.frm hK hW3 (by omega)
  have hZ := SvI.frm hZ hW3 (by omega)
  have hU := isShop.frm hU hW3 (by omega)
  have hF := hF.tr hW3 (by omega)
  have hkn1 := hkb1.1
  refine q_lstore_n (pc' := 5) (L' := [some (vR b), some (vJ xx1), none]) (dk_at dkX5_setupPrice 2 rfl) (by decide) rfl rfl ?_
  refine q_aload_n (pc' := 6) (dk_at dkX5_setupPrice 3 rfl) rfl rfl ?_
  refine r_getf (pc' := 9) fl_RX5_41 (dk_at dkX5_setupPrice 4 rfl) hB.obj rfl rfl ?_
  refine q_aload_n (pc' := 10) (dk_at dkX5_setupPrice 5 rfl) rfl rfl ?_
  refine r_getf (pc' := 13) fl_RX5_10 (dk_at dkX5_setupPrice 6 rfl) hB.obj rfl rfl ?_
  refine r_getf (pc' := 16) fl_RX5_63 (dk_at dkX5_setupPrice 7 rfl) hN.obj rfl rfl ?_
  refine r_cVV (pc' := 19) (As := [vR (b + 2)]) (S := []) cv_RX5_196 (dk_at dkX5_setupPrice 8 rfl) hU.obj rfl (k_Shop_takeFrom (d := 1) (by omega) (by omega) hk1 hU hQ) (by omega) (Nat.zero_le _) (Nat.zero_le _) rfl (Nat.le_of_ble_eq_true rfl) rfl (Nat.le_of_ble_eq_true rfl) rfl (fun hh4 hphh4 => ?_)
  obtain ⟨hU, hGf⟩ := hphh4
  have hB := isBM.frm hB hGf (by omega)
  have hN := isState.frm hN hGf (by omega)
  have hQ := isShop.frm hQ hGf (by omega)
  have hK := isPlan.frm hK hGf (by omega)
  have hZ := SvI.frm hZ hGf (by omega)
  have hD := DrP.frm hD hGf (by omega)
  have hX := SxP.frm hX hGf (by omega)
  have hM := TmP.frm hM hGf (by omega)
  have hF := hF.tr hGf (by omega)
  refine q_aload_n (pc' := 20) (dk_at dkX5_setupPrice 9 rfl) rfl rfl ?_
  refine r_getf (pc' := 23) fl_RX5_41 (dk_at dkX5_setupPrice 10 rfl) hB.obj rfl rfl ?_
  refine r_cVV (pc' := 26) (As := []) (S := []) cv_RX5_213 (dk_at dkX5_setupPrice 11 rfl) hU.obj rfl (k_Shop_dropSetups (d := 0) hU) (by omega) (Nat.zero_le _) (Nat.zero_le _) rfl (Nat.le_of_ble_eq_true rfl) rfl (Nat.le_of_ble_eq_true rfl) rfl (fun hh6 hphh6 => ?_)
  obtain ⟨hU, hGf⟩ := hphh6
  have hB := isBM.frm hB hGf (by omega)
  have hN := isState.frm hN hGf (by omega)
  have hQ := isShop.frm hQ hGf (by omega)
  have hK := isPlan.frm hK hGf (by omega)
  have hZ := SvI.frm hZ hGf (by omega)
  have hD := DrP.frm hD hGf (by omega)
  have hX := SxP.frm hX hGf (by omega)
  have hM := TmP.frm hM hGf (by omega)
  have hF := hF.tr hGf (by omega)
  refine q_lload_n (pc' := 27) (dk_at dkX5_setupPrice 12 rfl) rfl rfl ?_
  refine q_aload_n (pc' := 28) (dk_at dkX5_setupPrice 13 rfl) rfl rfl ?_
  refine q_aload_n (pc' := 29) (dk_at dkX5_setupPrice 14 rfl) rfl rfl ?_
  refine r_getf (pc' := 32) fl_RX5_41 (dk_at dkX5_setupPrice 15 rfl) hB.obj rfl rfl ?_
  refine q_iconst (pc' := 33) (dk_at dkX5_setupPrice 16 rfl) rfl ?_
  refine r_cVJ (pc' := 36) (As := [vR (b + 105), vI (-1)]) (S := [vJ xx1]) cv_RX5_199 (dk_at dkX5_setupPrice 17 rfl) hB.obj rfl (k_BM_leastCost (d := 13) (q := b + 105) (S := S.free) (by omega) hk1.free (Or.inl rfl) (by omega) (by omega) hB hU hD hM hX) (by omega) (Nat.zero_le _) (Nat.zero_le _) rfl (Nat.le_of_ble_eq_true rfl) rfl (Nat.le_of_ble_eq_true rfl) rfl (fun xx7 hh8 hphh8 => ?_)
  obtain ⟨hx2, hB, hU, hD, hM, hX, hm, hG1, hG2⟩ := hphh8
  have hN := isState.frm hN hG1 (by omega)
  have hQ := isShop.frm hQ hG1 (by omega)
  have hK := isPlan.frm hK hG1 (by omega)
  have hZ := SvI.frm hZ hG1 (by omega)
  have hF := hF.tr hG1 (by omega)
  have hN := isState.frm hN hG2 (by omega)
  have hQ := isShop.frm hQ hG2 (by omega)
  have hK := isPlan.frm hK hG2 (by omega)
  have hZ := SvI.frm hZ hG2 (by omega)
  have hF := hF.tr hG2 (by omega)
  refine q_lsub (pc' := 37) (dk_at dkX5_setupPrice 18 rfl) rfl ?_
  refine r_lret rfl (dk_at dkX5_setupPrice 19 rfl) ?_
  refine ⟨?_, _, _, hkb1, ⟨hB, ⟨hN, hQ, hK⟩, hZ, hD, hM, ⟨_, hU⟩, hX⟩, hF⟩
  rw [hx]
  have hx2 : _ = lcS S.free (-1) := hx2
  rw [hx2]
