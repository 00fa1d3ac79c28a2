/-! BatchMachine: the calls on jobs and settings -/
/-- a truth as a number -/
def YN (x : Int) (p : Prop) : Prop := (x = 1 ∧ p) ∨ (x = 0 ∧ ¬ p)
theorem YN.r {x : Int} {p : Prop} (h : YN x p) : x = 0 ∨ x = 1 := by rcases h with h | h <;> omega
theorem YN.t {x : Int} {p : Prop} (h : YN x p) (hx : ¬ x = 0) : p := by
  rcases h with h | h
  · exact h.2
  · exact absurd h.1 hx
theorem YN.f {x : Int} {p : Prop} (h : YN x p) (hx : x = 0) : ¬ p := by
  rcases h with h | h
  · omega
  · exact h.2
/-- a value of kind w that a job may have -/
def vOk (w : Int) (v : Int) : Prop := (0 ≤ w ∧ w < 5) ∧ rowLo w.toNat ≤ v ∧ v ≤ rowHi w.toNat
def jOk (S : Shp) (j : Int) : Prop := 0 ≤ j ∧ j < (S.cnt : Int)
theorem k_BM_isJobY {d n : Nat} {h : PH} {b : Nat} {S : Shp} {sv tl kn bs job : Int} {tx : Nat → Int} (hc8 : S.cnt ≤ 8) (hj : IR job) (hB : isBM n h b sv tx tl) (hN : isState n h (b + 1) kn bs) (hQ : isShp n h (b + 2) S) : CtrI mX5_isJob d [vR b, vI job] n h (fun x h' => h' = h ∧ YN x (jOk S job)) := by
  refine (k_BM_isJob hc8 hj hB hN hQ).mono (fun x h' z => ⟨z.1, ?_⟩)
  unfold YN jOk
  by_cases q : 0 ≤ job ∧ job < (S.cnt : Int)
  · rw [z.2, if_pos q]; exact Or.inl ⟨rfl, q⟩
  · rw [z.2, if_neg q]; exact Or.inr ⟨rfl, q⟩
theorem row_r (w : Nat) : (0 ≤ rowLo w ∧ rowLo w ≤ 1) ∧ (0 ≤ rowHi w ∧ rowHi w ≤ 500) := by
  unfold rowLo rowHi
  refine ⟨?_, ?_⟩
  · split <;> omega
  · split <;> omega
set_option maxHeartbeats 4000000 in
set_option maxRecDepth 100000 in
theorem k_BM_isValue {d n : Nat} {h : PH} {w v : Int} (hw : IR w) (hv : IR v) : CtrI mX5_isValue d [vI w, vI v] n h (fun x h' => h' = h ∧ YN x (vOk w v)) := by
  refine q_beginI (L := [some (vI w), some (vI v)]) rfl ?_
  refine q_iload_n (pc' := 1) (dk_at dkX5_isValue 0 rfl) rfl rfl ?_
  refine q_if_lt (tgt := 31) (pc' := 4) (dk_at dkX5_isValue 1 rfl) rfl rfl (by omega) (fun c1 => ?_) (fun c1 => ?_)
  · refine q_iconst (pc' := 32) (dk_at dkX5_isValue 17 rfl) rfl ?_
    refine r_zret rfl (by omega) (dk_at dkX5_isValue 18 rfl) ?_
    exact ⟨rfl, Or.inr ⟨rfl, fun z => by unfold vOk at z; omega⟩⟩
  · refine q_iload_n (pc' := 5) (dk_at dkX5_isValue 2 rfl) rfl rfl ?_
    refine q_iconst (pc' := 6) (dk_at dkX5_isValue 3 rfl) rfl ?_
    refine q_icmp_ge (tgt := 31) (pc' := 9) (dk_at dkX5_isValue 4 rfl) rfl rfl (by omega) (by omega) (fun c6 => ?_) (fun c6 => ?_)
    · refine q_iconst (pc' := 32) (dk_at dkX5_isValue 17 rfl) rfl ?_
      refine r_zret rfl (by omega) (dk_at dkX5_isValue 18 rfl) ?_
      exact ⟨rfl, Or.inr ⟨rfl, fun z => by unfold vOk at z; omega⟩⟩
    · refine q_iload_n (pc' := 10) (dk_at dkX5_isValue 5 rfl) rfl rfl ?_
      refine q_lo (pc' := 15) (x0 := 0) w.toNat (by omega) (by omega) gs_RX5_239 (dk_at dkX5_isValue 6 rfl) (dk_at dkX5_isValue 7 rfl) (dk_at dkX5_isValue 8 rfl) rfl rfl ?_
      have b10 := row_r w.toNat
      refine q_icmp_lt (tgt := 31) (pc' := 18) (dk_at dkX5_isValue 9 rfl) rfl rfl (by omega) (by omega) (fun c15 => ?_) (fun c15 => ?_)
      · refine q_iconst (pc' := 32) (dk_at dkX5_isValue 17 rfl) rfl ?_
        refine r_zret rfl (by omega) (dk_at dkX5_isValue 18 rfl) ?_
        exact ⟨rfl, Or.inr ⟨rfl, fun z => by unfold vOk at z; omega⟩⟩
      · refine q_iload_n (pc' := 19) (dk_at dkX5_isValue 10 rfl) rfl rfl ?_
        refine q_hi (pc' := 24) (x0 := 0) w.toNat (by omega) (by omega) gs_RX5_242 (dk_at dkX5_isValue 11 rfl) (dk_at dkX5_isValue 12 rfl) (dk_at dkX5_isValue 13 rfl) rfl rfl ?_
        have b19 := row_r w.toNat
        refine q_icmp_gt (tgt := 31) (pc' := 27) (dk_at dkX5_isValue 14 rfl) rfl rfl (by omega) (by omega) (fun c24 => ?_) (fun c24 => ?_)
        · refine q_iconst (pc' := 32) (dk_at dkX5_isValue 17 rfl) rfl ?_
          refine r_zret rfl (by omega) (dk_at dkX5_isValue 18 rfl) ?_
          exact ⟨rfl, Or.inr ⟨rfl, fun z => by unfold vOk at z; omega⟩⟩
        · refine q_iconst (pc' := 28) (dk_at dkX5_isValue 15 rfl) rfl ?_
          refine q_goto (tgt := 32) (dk_at dkX5_isValue 16 rfl) rfl ?_
          refine r_zret rfl (by omega) (dk_at dkX5_isValue 18 rfl) ?_
          exact ⟨rfl, Or.inl ⟨rfl, ⟨by omega, by omega⟩, by omega, by omega⟩⟩

def addV (V : Nat → Nat → Int) (c : Nat) (f t r u w : Int) : Nat → Nat → Int := fun k j => if j = c then (if k = 0 then f else if k = 1 then t else if k = 2 then r else if k = 3 then u else if k = 4 then w else V k j) else V k j
def Shp.add (S : Shp) (f t r u w : Int) : Shp := (S.cnt + 1, addV S.V S.cnt f t r u w, S.T, S.wh, S.er, S.ob)
def aOk (f t r u w : Int) : Prop := vOk 0 f ∧ vOk 1 t ∧ vOk 2 r ∧ vOk 3 u ∧ vOk 4 w
set_option maxHeartbeats 4000000 in
set_option maxRecDepth 100000 in
theorem k_BM_addJob {d n : Nat} {h : PH} {b : Nat} {S : Shp} {P : PlS} {kn bs : Int} {sv tl : Nat} {x : Nat → Snp} {tx : Nat → Int} {f t r0 u w : Int} (hd : 20 ≤ d) (hI : BMI n h b ((S, P, kn, bs), sv, x, tx, tl)) (hO : BOk ((S, P, kn, bs), sv, x, tx, tl)) (hi1 : IR f) (hi2 : IR t) (hi3 : IR r0) (hi4 : IR u) (hi5 : IR w) : CtrX mX5_addJob d [vR b, vI f, vI t, vI r0, vI u, vI w] n h (fun r h' => ∃ v, r = some (vI v) ∧ aOk f t r0 u w ∧ S.cnt < 8 ∧ v = (S.cnt : Int) ∧ BMI n h' b ((S.add f t r0 u w, P, 0, bs), pshN sv, (pshX sv x (S, P, kn, bs)), tx, tl) ∧ Fr h h' b (b + 149)) (fun E h' => h' = h ∧ ((E = "java/lang/IllegalArgumentException" ∧ ¬ aOk f t r0 u w) ∨ (E = "java/lang/IllegalStateException" ∧ aOk f t r0 u w ∧ S.cnt = 8))) := by
  obtain ⟨hB, hSt, hZ, hR⟩ := hI
  have hB : isBM n h b (sv : Int) tx (tl : Int) := hB
  obtain ⟨hN, hQ, hK⟩ := hSt
  have hN : isState n h (b + 1) kn bs := hN
  have hQ : isShp n h (b + 2) S := hQ
  have hK : isPlS n h (b + 15) P := hK
  have hZ : SvI n h b x := hZ
  obtain ⟨hk, hsv, hks, htl, htx⟩ := hO
  have hk : SnOk (S, P, kn, bs) := hk
  have hsv : sv ≤ 4 := hsv
  have htl : tl ≤ 60 := htl
  have htx : ∀ i, 0 ≤ tx i ∧ tx i ≤ 127 := htx
  have hk1 : Sok S := hk.1
  have hc8 := hk1.c
  have hkp : Pok S.cnt P.od P.en P.bc P.sz := hk.2.1
  have hp8 : P.sz ≤ 8 := hkp.1
  have hpb : P.bc ≤ P.sz := hkp.2.1
  have hkb : Bst S kn bs := hk.2.2
  have hkn := hkb.1
  have hF : Fr h h b (b + 149) := Fr.rf
  refine q_beginX (L := [some (vR b), some (vI f), some (vI t), some (vI r0), some (vI u), some (vI w), none]) rfl ?_
  refine q_iconst (pc' := 1) (dk_at dkX5_addJob 0 rfl) rfl ?_
  refine q_iload_n (pc' := 2) (dk_at dkX5_addJob 1 rfl) rfl rfl ?_
  refine r_cSI (pc' := 5) (As := [vI 0, vI f]) (S := []) cs_RX5_52 (dk_at dkX5_addJob 2 rfl) (k_BM_isValue (d := 0) (w := 0) (v := f) (by omega) (by omega)) (by omega) (Nat.zero_le _) (Nat.zero_le _) rfl (Nat.le_of_ble_eq_true rfl) rfl (Nat.le_of_ble_eq_true rfl) rfl (fun xx1 hh2 hphh2 => ?_)
  obtain ⟨qq3, y2⟩ := hphh2
  subst qq3
  have yr2 := y2.r
  refine q_if_eq (tgt := 42) (pc' := 8) (dk_at dkX5_addJob 3 rfl) rfl rfl (by omega) (fun c5 => ?_) (fun c5 => ?_)
  · refine q_throw (cls := "java/lang/IllegalArgumentException") (text := "a value of the job is out of range") th_IAE rfl rfl (by decide +kernel) (by omega) (Nat.le_of_ble_eq_true rfl) (dk_at dkX5_addJob 20 rfl) (dk_at dkX5_addJob 21 rfl) (dk_at dkX5_addJob 22 rfl) (dk_at dkX5_addJob 23 rfl) (dk_at dkX5_addJob 24 rfl) ?_
    exact ⟨rfl, Or.inl ⟨rfl, fun z => y2.f c5 z.1⟩⟩
  · refine q_iconst (pc' := 9) (dk_at dkX5_addJob 4 rfl) rfl ?_
    refine q_iload_n (pc' := 10) (dk_at dkX5_addJob 5 rfl) rfl rfl ?_
    refine r_cSI (pc' := 13) (As := [vI 1, vI t]) (S := []) cs_RX5_52 (dk_at dkX5_addJob 6 rfl) (k_BM_isValue (d := 0) (w := 1) (v := t) (by omega) (by omega)) (by omega) (Nat.zero_le _) (Nat.zero_le _) rfl (Nat.le_of_ble_eq_true rfl) rfl (Nat.le_of_ble_eq_true rfl) rfl (fun xx4 hh5 hphh5 => ?_)
    obtain ⟨qq6, y10⟩ := hphh5
    subst qq6
    have yr10 := y10.r
    refine q_if_eq (tgt := 42) (pc' := 16) (dk_at dkX5_addJob 7 rfl) rfl rfl (by omega) (fun c13 => ?_) (fun c13 => ?_)
    · refine q_throw (cls := "java/lang/IllegalArgumentException") (text := "a value of the job is out of range") th_IAE rfl rfl (by decide +kernel) (by omega) (Nat.le_of_ble_eq_true rfl) (dk_at dkX5_addJob 20 rfl) (dk_at dkX5_addJob 21 rfl) (dk_at dkX5_addJob 22 rfl) (dk_at dkX5_addJob 23 rfl) (dk_at dkX5_addJob 24 rfl) ?_
      exact ⟨rfl, Or.inl ⟨rfl, fun z => y10.f c13 z.2.1⟩⟩
    · refine q_iconst (pc' := 17) (dk_at dkX5_addJob 8 rfl) rfl ?_
      refine q_iload_n (pc' := 18) (dk_at dkX5_addJob 9 rfl) rfl rfl ?_
      refine r_cSI (pc' := 21) (As := [vI 2, vI r0]) (S := []) cs_RX5_52 (dk_at dkX5_addJob 10 rfl) (k_BM_isValue (d := 0) (w := 2) (v := r0) (by omega) (by omega)) (by omega) (Nat.zero_le _) (Nat.zero_le _) rfl (Nat.le_of_ble_eq_true rfl) rfl (Nat.le_of_ble_eq_true rfl) rfl (fun xx7 hh8 hphh8 => ?_)
      obtain ⟨qq9, y18⟩ := hphh8
      subst qq9
      have yr18 := y18.r
      refine q_if_eq (tgt := 42) (pc' := 24) (dk_at dkX5_addJob 11 rfl) rfl rfl (by omega) (fun c21 => ?_) (fun c21 => ?_)
      · refine q_throw (cls := "java/lang/IllegalArgumentException") (text := "a value of the job is out of range") th_IAE rfl rfl (by decide +kernel) (by omega) (Nat.le_of_ble_eq_true rfl) (dk_at dkX5_addJob 20 rfl) (dk_at dkX5_addJob 21 rfl) (dk_at dkX5_addJob 22 rfl) (dk_at dkX5_addJob 23 rfl) (dk_at dkX5_addJob 24 rfl) ?_
        exact ⟨rfl, Or.inl ⟨rfl, fun z => y18.f c21 z.2.2.1⟩⟩
      · refine q_iconst (pc' := 25) (dk_at dkX5_addJob 12 rfl) rfl ?_
        refine q_iload (pc' := 27) (dk_at dkX5_addJob 13 rfl) rfl rfl ?_
        refine r_cSI (pc' := 30) (As := [vI 3, vI u]) (S := []) cs_RX5_52 (dk_at dkX5_addJob 14 rfl) (k_BM_isValue (d := 0) (w := 3) (v := u) (by omega) (by omega)) (by omega) (Nat.zero_le _) (Nat.zero_le _) rfl (Nat.le_of_ble_eq_true rfl) rfl (Nat.le_of_ble_eq_true rfl) rfl (fun xx10 hh11 hphh11 => ?_)
        obtain ⟨qq12, y27⟩ := hphh11
        subst qq12
        have yr27 := y27.r
        refine q_if_eq (tgt := 42) (pc' := 33) (dk_at dkX5_addJob 15 rfl) rfl rfl (by omega) (fun c30 => ?_) (fun c30 => ?_)
        · refine q_throw (cls := "java/lang/IllegalArgumentException") (text := "a value of the job is out of range") th_IAE rfl rfl (by decide +kernel) (by omega) (Nat.le_of_ble_eq_true rfl) (dk_at dkX5_addJob 20 rfl) (dk_at dkX5_addJob 21 rfl) (dk_at dkX5_addJob 22 rfl) (dk_at dkX5_addJob 23 rfl) (dk_at dkX5_addJob 24 rfl) ?_
          exact ⟨rfl, Or.inl ⟨rfl, fun z => y27.f c30 z.2.2.2.1⟩⟩
        · refine q_iconst (pc' := 34) (dk_at dkX5_addJob 16 rfl) rfl ?_
          refine q_iload (pc' := 36) (dk_at dkX5_addJob 17 rfl) rfl rfl ?_
          refine r_cSI (pc' := 39) (As := [vI 4, vI w]) (S := []) cs_RX5_52 (dk_at dkX5_addJob 18 rfl) (k_BM_isValue (d := 0) (w := 4) (v := w) (by omega) (by omega)) (by omega) (Nat.zero_le _) (Nat.zero_le _) rfl (Nat.le_of_ble_eq_true rfl) rfl (Nat.le_of_ble_eq_true rfl) rfl (fun xx13 hh14 hphh14 => ?_)
          obtain ⟨qq15, y36⟩ := hphh14
          subst qq15
          have yr36 := y36.r
          refine q_if_ne (tgt := 52) (pc' := 42) (dk_at dkX5_addJob 19 rfl) rfl rfl (by omega) (fun c39 => ?_) (fun c39 => ?_)
          · refine q_aload_n (pc' := 53) (dk_at dkX5_addJob 25 rfl) rfl rfl ?_
            refine r_getf (pc' := 56) fl_RX5_10 (dk_at dkX5_addJob 26 rfl) hB.obj rfl rfl ?_
            refine r_getf (pc' := 59) fl_RX5_63 (dk_at dkX5_addJob 27 rfl) hN.obj rfl rfl ?_
            refine r_getf (pc' := 62) fl_RX5_66 (dk_at dkX5_addJob 28 rfl) hQ.obj rfl rfl ?_
            refine q_bipush (pc' := 64) (dk_at dkX5_addJob 29 rfl) (by decide +kernel) rfl ?_
            refine q_icmp_lt (tgt := 77) (pc' := 67) (dk_at dkX5_addJob 30 rfl) rfl rfl (by omega) (by omega) (fun c64 => ?_) (fun c64 => ?_)
            · refine q_aload_n (pc' := 78) (dk_at dkX5_addJob 36 rfl) rfl rfl ?_
              refine r_cVV (pc' := 81) (As := []) (S := []) cv_RX5_75 (dk_at dkX5_addJob 37 rfl) hB.obj rfl (k_BM_saveState (d := 4) (c := (S, P, kn, bs)) (by omega) hk hsv hB ⟨hN, hQ, hK⟩ hZ) (by omega) (Nat.zero_le _) (Nat.zero_le _) rfl (Nat.le_of_ble_eq_true rfl) rfl (Nat.le_of_ble_eq_true rfl) rfl (fun hh17 hphh17 => ?_)
              obtain ⟨hB, hSt, hZ, hGf⟩ := hphh17
              obtain ⟨hN, hQ, hK⟩ := hSt
              have hN : isState n hh17 (b + 1) kn bs := hN
              have hQ : isShp n hh17 (b + 2) S := hQ
              have hK : isPlS n hh17 (b + 15) P := hK
              have hR := BMR.frm hR hGf (by omega)
              have hF := hF.tr hGf (by omega)
              refine q_aload_n (pc' := 82) (dk_at dkX5_addJob 38 rfl) rfl rfl ?_
              refine r_getf (pc' := 85) fl_RX5_10 (dk_at dkX5_addJob 39 rfl) hB.obj rfl rfl ?_
              refine r_getf (pc' := 88) fl_RX5_63 (dk_at dkX5_addJob 40 rfl) hN.obj rfl rfl ?_
              refine r_getf (pc' := 91) fl_RX5_66 (dk_at dkX5_addJob 41 rfl) hQ.obj rfl rfl ?_
              refine q_istore (pc' := 93) (L' := [some (vR b), some (vI f), some (vI t), some (vI r0), some (vI u), some (vI w), some (vI (S.cnt : Int))]) (dk_at dkX5_addJob 42 rfl) (by decide) rfl rfl ?_
              refine q_aload_n (pc' := 94) (dk_at dkX5_addJob 43 rfl) rfl rfl ?_
              refine r_getf (pc' := 97) fl_RX5_10 (dk_at dkX5_addJob 44 rfl) hB.obj rfl rfl ?_
              refine r_getf (pc' := 100) fl_RX5_63 (dk_at dkX5_addJob 45 rfl) hN.obj rfl rfl ?_
              refine r_getf (pc' := 103) fl_RX5_78 (dk_at dkX5_addJob 46 rfl) hQ.obj rfl rfl ?_
              refine q_iconst (pc' := 104) (dk_at dkX5_addJob 47 rfl) rfl ?_
              refine r_aald1 (pc' := 105) (dk_at dkX5_addJob 48 rfl) hQ.values 0 (by omega) (by omega) (by decide) rfl ?_
              refine q_iload (pc' := 107) (dk_at dkX5_addJob 49 rfl) rfl rfl ?_
              refine q_iload_n (pc' := 108) (dk_at dkX5_addJob 50 rfl) rfl rfl ?_
              refine r_iast (pc' := 109) (dk_at dkX5_addJob 51 rfl) (hQ.values_at 0 (by omega)) S.cnt (by omega) (by omega) (by decide) rfl (fun hh18 ehh18 => ?_)
              have hB := hB.off ehh18 (by omega)
              have hN := hN.off ehh18 (by omega)
              have hQ := isShop.w_values (by omega) hQ ehh18
              have hK := hK.off ehh18 (by omega)
              have hZ := hZ.off ehh18 (by omega)
              have hR := hR.off ehh18 (by omega)
              have hF := hF.put ehh18 (by omega)
              refine q_aload_n (pc' := 110) (dk_at dkX5_addJob 52 rfl) rfl rfl ?_
              refine r_getf (pc' := 113) fl_RX5_10 (dk_at dkX5_addJob 53 rfl) hB.obj rfl rfl ?_
              refine r_getf (pc' := 116) fl_RX5_63 (dk_at dkX5_addJob 54 rfl) hN.obj rfl rfl ?_
              refine r_getf (pc' := 119) fl_RX5_78 (dk_at dkX5_addJob 55 rfl) hQ.obj rfl rfl ?_
              refine q_iconst (pc' := 120) (dk_at dkX5_addJob 56 rfl) rfl ?_
              refine r_aald1 (pc' := 121) (dk_at dkX5_addJob 57 rfl) hQ.values 1 (by omega) (by omega) (by decide) rfl ?_
              refine q_iload (pc' := 123) (dk_at dkX5_addJob 58 rfl) rfl rfl ?_
              refine q_iload_n (pc' := 124) (dk_at dkX5_addJob 59 rfl) rfl rfl ?_
              refine r_iast (pc' := 125) (dk_at dkX5_addJob 60 rfl) (hQ.values_at 1 (by omega)) S.cnt (by omega) (by omega) (by decide) rfl (fun hh19 ehh19 => ?_)
              have hB := hB.off ehh19 (by omega)
              have hN := hN.off ehh19 (by omega)
              have hQ := isShop.w_values (by omega) hQ ehh19
              have hK := hK.off ehh19 (by omega)
              have hZ := hZ.off ehh19 (by omega)
              have hR := hR.off ehh19 (by omega)
              have hF := hF.put ehh19 (by omega)
              refine q_aload_n (pc' := 126) (dk_at dkX5_addJob 61 rfl) rfl rfl ?_
              refine r_getf (pc' := 129) fl_RX5_10 (dk_at dkX5_addJob 62 rfl) hB.obj rfl rfl ?_
              refine r_getf (pc' := 132) fl_RX5_63 (dk_at dkX5_addJob 63 rfl) hN.obj rfl rfl ?_
              refine r_getf (pc' := 135) fl_RX5_78 (dk_at dkX5_addJob 64 rfl) hQ.obj rfl rfl ?_
              refine q_iconst (pc' := 136) (dk_at dkX5_addJob 65 rfl) rfl ?_
              refine r_aald1 (pc' := 137) (dk_at dkX5_addJob 66 rfl) hQ.values 2 (by omega) (by omega) (by decide) rfl ?_
              refine q_iload (pc' := 139) (dk_at dkX5_addJob 67 rfl) rfl rfl ?_
              refine q_iload_n (pc' := 140) (dk_at dkX5_addJob 68 rfl) rfl rfl ?_
              refine r_iast (pc' := 141) (dk_at dkX5_addJob 69 rfl) (hQ.values_at 2 (by omega)) S.cnt (by omega) (by omega) (by decide) rfl (fun hh20 ehh20 => ?_)
              have hB := hB.off ehh20 (by omega)
              have hN := hN.off ehh20 (by omega)
              have hQ := isShop.w_values (by omega) hQ ehh20
              have hK := hK.off ehh20 (by omega)
              have hZ := hZ.off ehh20 (by omega)
              have hR := hR.off ehh20 (by omega)
              have hF := hF.put ehh20 (by omega)
              refine q_aload_n (pc' := 142) (dk_at dkX5_addJob 70 rfl) rfl rfl ?_
              refine r_getf (pc' := 145) fl_RX5_10 (dk_at dkX5_addJob 71 rfl) hB.obj rfl rfl ?_
              refine r_getf (pc' := 148) fl_RX5_63 (dk_at dkX5_addJob 72 rfl) hN.obj rfl rfl ?_
              refine r_getf (pc' := 151) fl_RX5_78 (dk_at dkX5_addJob 73 rfl) hQ.obj rfl rfl ?_
              refine q_iconst (pc' := 152) (dk_at dkX5_addJob 74 rfl) rfl ?_
              refine r_aald1 (pc' := 153) (dk_at dkX5_addJob 75 rfl) hQ.values 3 (by omega) (by omega) (by decide) rfl ?_
              refine q_iload (pc' := 155) (dk_at dkX5_addJob 76 rfl) rfl rfl ?_
              refine q_iload (pc' := 157) (dk_at dkX5_addJob 77 rfl) rfl rfl ?_
              refine r_iast (pc' := 158) (dk_at dkX5_addJob 78 rfl) (hQ.values_at 3 (by omega)) S.cnt (by omega) (by omega) (by decide) rfl (fun hh21 ehh21 => ?_)
              have hB := hB.off ehh21 (by omega)
              have hN := hN.off ehh21 (by omega)
              have hQ := isShop.w_values (by omega) hQ ehh21
              have hK := hK.off ehh21 (by omega)
              have hZ := hZ.off ehh21 (by omega)
              have hR := hR.off ehh21 (by omega)
              have hF := hF.put ehh21 (by omega)
              refine q_aload_n (pc' := 159) (dk_at dkX5_addJob 79 rfl) rfl rfl ?_
              refine r_getf (pc' := 162) fl_RX5_10 (dk_at dkX5_addJob 80 rfl) hB.obj rfl rfl ?_
              refine r_getf (pc' := 165) fl_RX5_63 (dk_at dkX5_addJob 81 rfl) hN.obj rfl rfl ?_
              refine r_getf (pc' := 168) fl_RX5_78 (dk_at dkX5_addJob 82 rfl) hQ.obj rfl rfl ?_
              refine q_iconst (pc' := 169) (dk_at dkX5_addJob 83 rfl) rfl ?_
              refine r_aald1 (pc' := 170) (dk_at dkX5_addJob 84 rfl) hQ.values 4 (by omega) (by omega) (by decide) rfl ?_
              refine q_iload (pc' := 172) (dk_at dkX5_addJob 85 rfl) rfl rfl ?_
              refine q_iload (pc' := 174) (dk_at dkX5_addJob 86 rfl) rfl rfl ?_
              refine r_iast (pc' := 175) (dk_at dkX5_addJob 87 rfl) (hQ.values_at 4 (by omega)) S.cnt (by omega) (by omega) (by decide) rfl (fun hh22 ehh22 => ?_)
              have hB := hB.off ehh22 (by omega)
              have hN := hN.off ehh22 (by omega)
              have hQ := isShop.w_values (by omega) hQ ehh22
              have hK := hK.off ehh22 (by omega)
              have hZ := hZ.off ehh22 (by omega)
              have hR := hR.off ehh22 (by omega)
              have hF := hF.put ehh22 (by omega)
              refine q_aload_n (pc' := 176) (dk_at dkX5_addJob 88 rfl) rfl rfl ?_
              refine r_getf (pc' := 179) fl_RX5_10 (dk_at dkX5_addJob 89 rfl) hB.obj rfl rfl ?_
              refine r_getf (pc' := 182) fl_RX5_63 (dk_at dkX5_addJob 90 rfl) hN.obj rfl rfl ?_
              refine q_iload (pc' := 184) (dk_at dkX5_addJob 91 rfl) rfl rfl ?_
              refine q_iconst (pc' := 185) (dk_at dkX5_addJob 92 rfl) rfl ?_
              refine q_iadd (pc' := 186) (dk_at dkX5_addJob 93 rfl) rfl ?_
              refine r_putf (pc' := 189) fp_RX5_66 (dk_at dkX5_addJob 94 rfl) hQ.obj (Nat.le_of_ble_eq_true rfl) (PT_int _) rfl (fun hh23 ehh23 => ?_)
              have hB := hB.off ehh23 (by omega)
              have hN := hN.off ehh23 (by omega)
              have hQ := hQ.w_obj ehh23
              have hK := hK.off ehh23 (by omega)
              have hZ := hZ.off ehh23 (by omega)
              have hR := hR.off ehh23 (by omega)
              have hF := hF.put ehh23 (by omega)
              refine q_aload_n (pc' := 190) (dk_at dkX5_addJob 95 rfl) rfl rfl ?_
              refine r_getf (pc' := 193) fl_RX5_10 (dk_at dkX5_addJob 96 rfl) hB.obj rfl rfl ?_
              refine q_iconst (pc' := 194) (dk_at dkX5_addJob 97 rfl) rfl ?_
              refine r_putf (pc' := 197) fp_RX5_82 (dk_at dkX5_addJob 98 rfl) hN.obj (Nat.le_of_ble_eq_true rfl) (PT_bool (by omega)) rfl (fun hh24 ehh24 => ?_)
              have hB := hB.off ehh24 (by omega)
              have hN := hN.w_obj ehh24
              have hQ := hQ.off ehh24 (by omega)
              have hK := hK.off ehh24 (by omega)
              have hZ := hZ.off ehh24 (by omega)
              have hR := hR.off ehh24 (by omega)
              have hF := hF.put ehh24 (by omega)
              refine q_iload (pc' := 199) (dk_at dkX5_addJob 99 rfl) rfl rfl ?_
              refine x_iret rfl (dk_at dkX5_addJob 100 rfl) ?_
              refine ⟨_, rfl, ?_, ?_, rfl, ⟨hB, ⟨hN, ?_, hK⟩, hZ, hR⟩, hF⟩
              · exact ⟨y2.t c5, y10.t c13, y18.t c21, y27.t c30, y36.t (by omega)⟩
              · omega
              · have hQ9 : isShop n hh24 (b + 2) ((S.cnt : Int) + 1) (addV S.V S.cnt f t r0 u w) S.T S.wh S.er S.ob := isShop.cong hQ (fun i hi => by rcases (show i = 0 ∨ i = 1 ∨ i = 2 ∨ i = 3 ∨ i = 4 by omega) with rfl | rfl | rfl | rfl | rfl <;> funext j <;> simp [upf, upz, addV]) (fun i hi => rfl)
                exact hQ9
            · refine q_throw (cls := "java/lang/IllegalStateException") (text := "there are 8 jobs") th_ISE rfl rfl (by decide +kernel) (by omega) (Nat.le_of_ble_eq_true rfl) (dk_at dkX5_addJob 31 rfl) (dk_at dkX5_addJob 32 rfl) (dk_at dkX5_addJob 33 rfl) (dk_at dkX5_addJob 34 rfl) (dk_at dkX5_addJob 35 rfl) ?_
              exact ⟨rfl, Or.inr ⟨rfl, ⟨y2.t c5, y10.t c13, y18.t c21, y27.t c30, y36.t (by omega)⟩, by omega⟩⟩
          · refine q_throw (cls := "java/lang/IllegalArgumentException") (text := "a value of the job is out of range") th_IAE rfl rfl (by decide +kernel) (by omega) (Nat.le_of_ble_eq_true rfl) (dk_at dkX5_addJob 20 rfl) (dk_at dkX5_addJob 21 rfl) (dk_at dkX5_addJob 22 rfl) (dk_at dkX5_addJob 23 rfl) (dk_at dkX5_addJob 24 rfl) ?_
            exact ⟨rfl, Or.inl ⟨rfl, fun z => y36.f (by omega) z.2.2.2.2⟩⟩

def PlS.drop (P : PlS) (j : Int) : PlS := (fN P.od j (bgn P.en P.bc), bN P.od P.en j P.bc, dO P.od j (bgn P.en P.bc), bE P.od P.en j P.bc)
def PlS.none (P : PlS) : PlS := (0, 0, P.od, P.en)
theorem Pok.val {c : Nat} {o e : Nat → Int} {bc m : Nat} (h : Pok c o e bc m) : ∀ b, b < bc → ((bgn e b : Nat) : Int) ≤ e b ∧ e b ≤ 8 := fun b hb => by
  have h1 := h.2.2.2.1 b hb
  have h2 := h.1
  omega
set_option maxHeartbeats 4000000 in
set_option maxRecDepth 100000 in
theorem k_BM_removeJob {d n : Nat} {h : PH} {b : Nat} {S : Shp} {P : PlS} {kn bs : Int} {sv tl : Nat} {x : Nat → Snp} {tx : Nat → Int} {j : Int} (hd : 20 ≤ d) (hI : BMI n h b ((S, P, kn, bs), sv, x, tx, tl)) (hO : BOk ((S, P, kn, bs), sv, x, tx, tl)) (hi1 : IR j) : CtrX mX5_removeJob d [vR b, vI j] n h (fun r h' => ∃ v, r = some (vI v) ∧ jOk S j ∧ v = (S.cnt : Int) - 1 ∧ BMI n h' b ((S.drop j.toNat, P.drop j, 0, bs), pshN sv, (pshX sv x (S, P, kn, bs)), tx, tl) ∧ Fr h h' b (b + 149)) (fun E h' => h' = h ∧ E = "java/lang/IndexOutOfBoundsException" ∧ ¬ jOk S j) := by
  obtain ⟨hB, hSt, hZ, hR⟩ := hI
  have hB : isBM n h b (sv : Int) tx (tl : Int) := hB
  obtain ⟨hN, hQ, hK⟩ := hSt
  have hN : isState n h (b + 1) kn bs := hN
  have hQ : isShp n h (b + 2) S := hQ
  have hK : isPlS n h (b + 15) P := hK
  have hZ : SvI n h b x := hZ
  obtain ⟨hk, hsv, hks, htl, htx⟩ := hO
  have hk : SnOk (S, P, kn, bs) := hk
  have hsv : sv ≤ 4 := hsv
  have htl : tl ≤ 60 := htl
  have htx : ∀ i, 0 ≤ tx i ∧ tx i ≤ 127 := htx
  have hk1 : Sok S := hk.1
  have hc8 := hk1.c
  have hkp : Pok S.cnt P.od P.en P.bc P.sz := hk.2.1
  have hp8 : P.sz ≤ 8 := hkp.1
  have hpb : P.bc ≤ P.sz := hkp.2.1
  have hkb : Bst S kn bs := hk.2.2
  have hkn := hkb.1
  have hF : Fr h h b (b + 149) := Fr.rf
  refine q_beginX (L := [some (vR b), some (vI j)]) rfl ?_
  refine q_aload_n (pc' := 1) (dk_at dkX5_removeJob 0 rfl) rfl rfl ?_
  refine q_iload_n (pc' := 2) (dk_at dkX5_removeJob 1 rfl) rfl rfl ?_
  refine r_cVI (pc' := 5) (As := [vI j]) (S := []) cv_RX5_86 (dk_at dkX5_removeJob 2 rfl) hB.obj rfl (k_BM_isJobY (d := 0) hc8 (by omega) hB hN hQ) (by omega) (Nat.zero_le _) (Nat.zero_le _) rfl (Nat.le_of_ble_eq_true rfl) rfl (Nat.le_of_ble_eq_true rfl) rfl (fun xx1 hh2 hphh2 => ?_)
  obtain ⟨qq3, y2⟩ := hphh2
  subst qq3
  have yr2 := y2.r
  refine q_if_ne (tgt := 18) (pc' := 8) (dk_at dkX5_removeJob 3 rfl) rfl rfl (by omega) (fun c5 => ?_) (fun c5 => ?_)
  · obtain ⟨jn, rfl⟩ : ∃ z : Nat, j = (z : Int) := ⟨j.toNat, by have := y2.t (by omega); unfold jOk at this; omega⟩
    have yj : (0 : Int) ≤ (jn : Int) ∧ (jn : Int) < (S.cnt : Int) := y2.t (by omega)
    refine q_aload_n (pc' := 19) (dk_at dkX5_removeJob 9 rfl) rfl rfl ?_
    refine r_cVV (pc' := 22) (As := []) (S := []) cv_RX5_75 (dk_at dkX5_removeJob 10 rfl) hB.obj rfl (k_BM_saveState (d := 4) (c := (S, P, kn, bs)) (by omega) hk hsv hB ⟨hN, hQ, hK⟩ hZ) (by omega) (Nat.zero_le _) (Nat.zero_le _) rfl (Nat.le_of_ble_eq_true rfl) rfl (Nat.le_of_ble_eq_true rfl) rfl (fun hh5 hphh5 => ?_)
    obtain ⟨hB, hSt, hZ, hGf⟩ := hphh5
    obtain ⟨hN, hQ, hK⟩ := hSt
    have hN : isState n hh5 (b + 1) kn bs := hN
    have hQ : isShp n hh5 (b + 2) S := hQ
    have hK : isPlS n hh5 (b + 15) P := hK
    have hR := BMR.frm hR hGf (by omega)
    have hF := hF.tr hGf (by omega)
    refine q_aload_n (pc' := 23) (dk_at dkX5_removeJob 11 rfl) rfl rfl ?_
    refine r_getf (pc' := 26) fl_RX5_10 (dk_at dkX5_removeJob 12 rfl) hB.obj rfl rfl ?_
    refine r_getf (pc' := 29) fl_RX5_63 (dk_at dkX5_removeJob 13 rfl) hN.obj rfl rfl ?_
    refine q_iload_n (pc' := 30) (dk_at dkX5_removeJob 14 rfl) rfl rfl ?_
    refine r_cVV (pc' := 33) (As := [vI (jn : Int)]) (S := []) cv_RX5_95 (dk_at dkX5_removeJob 15 rfl) hQ.obj rfl (k_Shop_dropJob (d := 0) (job := jn) hc8 (by omega) hQ) (by omega) (Nat.zero_le _) (Nat.zero_le _) rfl (Nat.le_of_ble_eq_true rfl) rfl (Nat.le_of_ble_eq_true rfl) rfl (fun hh7 hphh7 => ?_)
    obtain ⟨hQ, hGf⟩ := hphh7
    have hB := isBM.frm hB hGf (by omega)
    have hN := isState.frm hN hGf (by omega)
    have hK := isPlan.frm hK hGf (by omega)
    have hZ := SvI.frm hZ hGf (by omega)
    have hR := BMR.frm hR hGf (by omega)
    have hF := hF.tr hGf (by omega)
    refine q_aload_n (pc' := 34) (dk_at dkX5_removeJob 16 rfl) rfl rfl ?_
    refine r_getf (pc' := 37) fl_RX5_10 (dk_at dkX5_removeJob 17 rfl) hB.obj rfl rfl ?_
    refine r_getf (pc' := 40) fl_RX5_99 (dk_at dkX5_removeJob 18 rfl) hN.obj rfl rfl ?_
    refine q_iload_n (pc' := 41) (dk_at dkX5_removeJob 19 rfl) rfl rfl ?_
    refine r_cVV (pc' := 44) (As := [vI (jn : Int)]) (S := []) cv_RX5_102 (dk_at dkX5_removeJob 20 rfl) hK.obj rfl (k_Plan_dropJob (d := 0) (job := (jn : Int)) hkp.2.2.1 (by have := hkp.1; have := hkp.2.1; omega) (by omega) hkp.val hK) (by omega) (Nat.zero_le _) (Nat.zero_le _) rfl (Nat.le_of_ble_eq_true rfl) rfl (Nat.le_of_ble_eq_true rfl) rfl (fun hh9 hphh9 => ?_)
    obtain ⟨hK, hGf⟩ := hphh9
    have hB := isBM.frm hB hGf (by omega)
    have hN := isState.frm hN hGf (by omega)
    have hQ := isShop.frm hQ hGf (by omega)
    have hZ := SvI.frm hZ hGf (by omega)
    have hR := BMR.frm hR hGf (by omega)
    have hF := hF.tr hGf (by omega)
    refine q_aload_n (pc' := 45) (dk_at dkX5_removeJob 21 rfl) rfl rfl ?_
    refine r_getf (pc' := 48) fl_RX5_10 (dk_at dkX5_removeJob 22 rfl) hB.obj rfl rfl ?_
    refine q_iconst (pc' := 49) (dk_at dkX5_removeJob 23 rfl) rfl ?_
    refine r_putf (pc' := 52) fp_RX5_82 (dk_at dkX5_removeJob 24 rfl) hN.obj (Nat.le_of_ble_eq_true rfl) (PT_bool (by omega)) rfl (fun hh10 ehh10 => ?_)
    have hB := hB.off ehh10 (by omega)
    have hN := hN.w_obj ehh10
    have hQ := hQ.off ehh10 (by omega)
    have hK := hK.off ehh10 (by omega)
    have hZ := hZ.off ehh10 (by omega)
    have hR := hR.off ehh10 (by omega)
    have hF := hF.put ehh10 (by omega)
    refine q_aload_n (pc' := 53) (dk_at dkX5_removeJob 25 rfl) rfl rfl ?_
    refine r_getf (pc' := 56) fl_RX5_10 (dk_at dkX5_removeJob 26 rfl) hB.obj rfl rfl ?_
    refine r_getf (pc' := 59) fl_RX5_63 (dk_at dkX5_removeJob 27 rfl) hN.obj rfl rfl ?_
    refine r_getf (pc' := 62) fl_RX5_66 (dk_at dkX5_removeJob 28 rfl) hQ.obj rfl rfl ?_
    refine x_iret rfl (dk_at dkX5_removeJob 29 rfl) ?_
    refine ⟨_, rfl, y2.t (by omega), ?_, ⟨hB, ⟨hN, hQ, hK⟩, hZ, hR⟩, hF⟩
    show ((S.cnt - 1 : Nat) : Int) = (S.cnt : Int) - 1
    omega
  · refine q_throw (cls := "java/lang/IndexOutOfBoundsException") (text := "there is no such job") th_IOB rfl rfl (by decide +kernel) (by omega) (Nat.le_of_ble_eq_true rfl) (dk_at dkX5_removeJob 4 rfl) (dk_at dkX5_removeJob 5 rfl) (dk_at dkX5_removeJob 6 rfl) (dk_at dkX5_removeJob 7 rfl) (dk_at dkX5_removeJob 8 rfl) ?_
    exact ⟨rfl, rfl, y2.f (by omega)⟩

def Shp.setV (S : Shp) (w j : Nat) (v : Int) : Shp := (S.cnt, upf S.V w (upz (S.V w) j v), S.T, S.wh, S.er, S.ob)
def Shp.setT (S : Shp) (r t : Nat) (v : Int) : Shp := (S.cnt, S.V, upf S.T r (upz (S.T r) t v), S.wh, S.er, S.ob)
set_option maxHeartbeats 4000000 in
set_option maxRecDepth 100000 in
theorem k_BM_setJob {d n : Nat} {h : PH} {b : Nat} {S : Shp} {P : PlS} {kn bs : Int} {sv tl : Nat} {x : Nat → Snp} {tx : Nat → Int} {j w v0 : Int} (hd : 20 ≤ d) (hI : BMI n h b ((S, P, kn, bs), sv, x, tx, tl)) (hO : BOk ((S, P, kn, bs), sv, x, tx, tl)) (hi1 : IR j) (hi2 : IR w) (hi3 : IR v0) : CtrX mX5_setJob d [vR b, vI j, vI w, vI v0] n h (fun r h' => ∃ v, r = some (vI v) ∧ jOk S j ∧ vOk w v0 ∧ v = S.V w.toNat j.toNat ∧ BMI n h' b ((S.setV w.toNat j.toNat v0, (if w = 0 ∧ S.V 0 j.toNat ≠ v0 then P.none else P), 0, bs), pshN sv, (pshX sv x (S, P, kn, bs)), tx, tl) ∧ Fr h h' b (b + 149)) (fun E h' => h' = h ∧ ((E = "java/lang/IndexOutOfBoundsException" ∧ ¬ jOk S j) ∨ (E = "java/lang/IllegalArgumentException" ∧ jOk S j ∧ ¬ vOk w v0))) := by
  obtain ⟨hB, hSt, hZ, hR⟩ := hI
  have hB : isBM n h b (sv : Int) tx (tl : Int) := hB
  obtain ⟨hN, hQ, hK⟩ := hSt
  have hN : isState n h (b + 1) kn bs := hN
  have hQ : isShp n h (b + 2) S := hQ
  have hK : isPlS n h (b + 15) P := hK
  have hZ : SvI n h b x := hZ
  obtain ⟨hk, hsv, hks, htl, htx⟩ := hO
  have hk : SnOk (S, P, kn, bs) := hk
  have hsv : sv ≤ 4 := hsv
  have htl : tl ≤ 60 := htl
  have htx : ∀ i, 0 ≤ tx i ∧ tx i ≤ 127 := htx
  have hk1 : Sok S := hk.1
  have hc8 := hk1.c
  have hkp : Pok S.cnt P.od P.en P.bc P.sz := hk.2.1
  have hp8 : P.sz ≤ 8 := hkp.1
  have hpb : P.bc ≤ P.sz := hkp.2.1
  have hkb : Bst S kn bs := hk.2.2
  have hkn := hkb.1
  have hF : Fr h h b (b + 149) := Fr.rf
  refine q_beginX (L := [some (vR b), some (vI j), some (vI w), some (vI v0), none]) rfl ?_
  refine q_aload_n (pc' := 1) (dk_at dkX5_setJob 0 rfl) rfl rfl ?_
  refine q_iload_n (pc' := 2) (dk_at dkX5_setJob 1 rfl) rfl rfl ?_
  refine r_cVI (pc' := 5) (As := [vI j]) (S := []) cv_RX5_86 (dk_at dkX5_setJob 2 rfl) hB.obj rfl (k_BM_isJobY (d := 0) hc8 (by omega) hB hN hQ) (by omega) (Nat.zero_le _) (Nat.zero_le _) rfl (Nat.le_of_ble_eq_true rfl) rfl (Nat.le_of_ble_eq_true rfl) rfl (fun xx1 hh2 hphh2 => ?_)
  obtain ⟨qq3, y2⟩ := hphh2
  subst qq3
  have yr2 := y2.r
  refine q_if_ne (tgt := 18) (pc' := 8) (dk_at dkX5_setJob 3 rfl) rfl rfl (by omega) (fun c5 => ?_) (fun c5 => ?_)
  · have yj : 0 ≤ j ∧ j < (S.cnt : Int) := y2.t (by omega)
    refine q_iload_n (pc' := 19) (dk_at dkX5_setJob 9 rfl) rfl rfl ?_
    refine q_iload_n (pc' := 20) (dk_at dkX5_setJob 10 rfl) rfl rfl ?_
    refine r_cSI (pc' := 23) (As := [vI w, vI v0]) (S := []) cs_RX5_52 (dk_at dkX5_setJob 11 rfl) (k_BM_isValue (d := 0) (w := w) (v := v0) (by omega) (by omega)) (by omega) (Nat.zero_le _) (Nat.zero_le _) rfl (Nat.le_of_ble_eq_true rfl) rfl (Nat.le_of_ble_eq_true rfl) rfl (fun xx4 hh5 hphh5 => ?_)
    obtain ⟨qq6, y20⟩ := hphh5
    subst qq6
    have yr20 := y20.r
    refine q_if_ne (tgt := 36) (pc' := 26) (dk_at dkX5_setJob 12 rfl) rfl rfl (by omega) (fun c23 => ?_) (fun c23 => ?_)
    · have yv := y20.t (by omega)
      have yw : 0 ≤ w ∧ w < 5 := yv.1
      have yb := hk1.v w.toNat j.toNat
      have yc := row_r w.toNat
      have yd : rowLo w.toNat ≤ v0 ∧ v0 ≤ rowHi w.toNat := yv.2
      refine q_aload_n (pc' := 37) (dk_at dkX5_setJob 18 rfl) rfl rfl ?_
      refine r_cVV (pc' := 40) (As := []) (S := []) cv_RX5_75 (dk_at dkX5_setJob 19 rfl) hB.obj rfl (k_BM_saveState (d := 4) (c := (S, P, kn, bs)) (by omega) hk hsv hB ⟨hN, hQ, hK⟩ hZ) (by omega) (Nat.zero_le _) (Nat.zero_le _) rfl (Nat.le_of_ble_eq_true rfl) rfl (Nat.le_of_ble_eq_true rfl) rfl (fun hh8 hphh8 => ?_)
      obtain ⟨hB, hSt, hZ, hGf⟩ := hphh8
      obtain ⟨hN, hQ, hK⟩ := hSt
      have hN : isState n hh8 (b + 1) kn bs := hN
      have hQ : isShp n hh8 (b + 2) S := hQ
      have hK : isPlS n hh8 (b + 15) P := hK
      have hR := BMR.frm hR hGf (by omega)
      have hF := hF.tr hGf (by omega)
      refine q_aload_n (pc' := 41) (dk_at dkX5_setJob 20 rfl) rfl rfl ?_
      refine r_getf (pc' := 44) fl_RX5_10 (dk_at dkX5_setJob 21 rfl) hB.obj rfl rfl ?_
      refine r_getf (pc' := 47) fl_RX5_63 (dk_at dkX5_setJob 22 rfl) hN.obj rfl rfl ?_
      refine r_getf (pc' := 50) fl_RX5_78 (dk_at dkX5_setJob 23 rfl) hQ.obj rfl rfl ?_
      refine q_iload_n (pc' := 51) (dk_at dkX5_setJob 24 rfl) rfl rfl ?_
      refine r_aald1 (pc' := 52) (dk_at dkX5_setJob 25 rfl) hQ.values ((w).toNat) (by omega) (by omega) (by decide) rfl ?_
      refine q_iload_n (pc' := 53) (dk_at dkX5_setJob 26 rfl) rfl rfl ?_
      refine r_iald (pc' := 54) (dk_at dkX5_setJob 27 rfl) (hQ.values_at ((w).toNat) (by omega)) ((j).toNat) (by omega) (by omega) (by decide) rfl ?_
      refine q_istore (pc' := 56) (L' := [some (vR b), some (vI j), some (vI w), some (vI v0), some (vI ((S.V ((w).toNat)) ((j).toNat)))]) (dk_at dkX5_setJob 28 rfl) (by decide) rfl rfl ?_
      refine q_aload_n (pc' := 57) (dk_at dkX5_setJob 29 rfl) rfl rfl ?_
      refine r_getf (pc' := 60) fl_RX5_10 (dk_at dkX5_setJob 30 rfl) hB.obj rfl rfl ?_
      refine r_getf (pc' := 63) fl_RX5_63 (dk_at dkX5_setJob 31 rfl) hN.obj rfl rfl ?_
      refine r_getf (pc' := 66) fl_RX5_78 (dk_at dkX5_setJob 32 rfl) hQ.obj rfl rfl ?_
      refine q_iload_n (pc' := 67) (dk_at dkX5_setJob 33 rfl) rfl rfl ?_
      refine r_aald1 (pc' := 68) (dk_at dkX5_setJob 34 rfl) hQ.values ((w).toNat) (by omega) (by omega) (by decide) rfl ?_
      refine q_iload_n (pc' := 69) (dk_at dkX5_setJob 35 rfl) rfl rfl ?_
      refine q_iload_n (pc' := 70) (dk_at dkX5_setJob 36 rfl) rfl rfl ?_
      refine r_iast (pc' := 71) (dk_at dkX5_setJob 37 rfl) (hQ.values_at ((w).toNat) (by omega)) ((j).toNat) (by omega) (by omega) (by decide) rfl (fun hh9 ehh9 => ?_)
      have hB := hB.off ehh9 (by omega)
      have hN := hN.off ehh9 (by omega)
      have hQ := isShop.w_values (by omega) hQ ehh9
      have hK := hK.off ehh9 (by omega)
      have hZ := hZ.off ehh9 (by omega)
      have hR := hR.off ehh9 (by omega)
      have hF := hF.put ehh9 (by omega)
      refine q_iload_n (pc' := 72) (dk_at dkX5_setJob 38 rfl) rfl rfl ?_
      refine q_if_ne (tgt := 91) (pc' := 75) (dk_at dkX5_setJob 39 rfl) rfl rfl (by omega) (fun c72 => ?_) (fun c72 => ?_)
      · refine q_aload_n (pc' := 92) (dk_at dkX5_setJob 47 rfl) rfl rfl ?_
        refine r_getf (pc' := 95) fl_RX5_10 (dk_at dkX5_setJob 48 rfl) hB.obj rfl rfl ?_
        refine q_iconst (pc' := 96) (dk_at dkX5_setJob 49 rfl) rfl ?_
        refine r_putf (pc' := 99) fp_RX5_82 (dk_at dkX5_setJob 50 rfl) hN.obj (Nat.le_of_ble_eq_true rfl) (PT_bool (by omega)) rfl (fun hh10 ehh10 => ?_)
        have hB := hB.off ehh10 (by omega)
        have hN := hN.w_obj ehh10
        have hQ := hQ.off ehh10 (by omega)
        have hK := hK.off ehh10 (by omega)
        have hZ := hZ.off ehh10 (by omega)
        have hR := hR.off ehh10 (by omega)
        have hF := hF.put ehh10 (by omega)
        refine q_iload (pc' := 101) (dk_at dkX5_setJob 51 rfl) rfl rfl ?_
        refine x_iret rfl (dk_at dkX5_setJob 52 rfl) ?_
        refine ⟨_, rfl, yj, yv, rfl, ⟨hB, ⟨hN, hQ, ?_⟩, hZ, hR⟩, hF⟩
        show isPlS n hh10 (b + 15) (if w = 0 ∧ S.V 0 j.toNat ≠ v0 then P.none else P)
        rw [if_neg (by intro z; first | omega | (apply z.2; have e0 : w = 0 := z.1; subst e0; exact c78; done))]
        exact hK
      · refine q_iload (pc' := 77) (dk_at dkX5_setJob 40 rfl) rfl rfl ?_
        refine q_iload_n (pc' := 78) (dk_at dkX5_setJob 41 rfl) rfl rfl ?_
        refine q_icmp_eq (tgt := 91) (pc' := 81) (dk_at dkX5_setJob 42 rfl) rfl rfl (by omega) (by omega) (fun c78 => ?_) (fun c78 => ?_)
        · refine q_aload_n (pc' := 92) (dk_at dkX5_setJob 47 rfl) rfl rfl ?_
          refine r_getf (pc' := 95) fl_RX5_10 (dk_at dkX5_setJob 48 rfl) hB.obj rfl rfl ?_
          refine q_iconst (pc' := 96) (dk_at dkX5_setJob 49 rfl) rfl ?_
          refine r_putf (pc' := 99) fp_RX5_82 (dk_at dkX5_setJob 50 rfl) hN.obj (Nat.le_of_ble_eq_true rfl) (PT_bool (by omega)) rfl (fun hh11 ehh11 => ?_)
          have hB := hB.off ehh11 (by omega)
          have hN := hN.w_obj ehh11
          have hQ := hQ.off ehh11 (by omega)
          have hK := hK.off ehh11 (by omega)
          have hZ := hZ.off ehh11 (by omega)
          have hR := hR.off ehh11 (by omega)
          have hF := hF.put ehh11 (by omega)
          refine q_iload (pc' := 101) (dk_at dkX5_setJob 51 rfl) rfl rfl ?_
          refine x_iret rfl (dk_at dkX5_setJob 52 rfl) ?_
          refine ⟨_, rfl, yj, yv, rfl, ⟨hB, ⟨hN, hQ, ?_⟩, hZ, hR⟩, hF⟩
          show isPlS n hh11 (b + 15) (if w = 0 ∧ S.V 0 j.toNat ≠ v0 then P.none else P)
          rw [if_neg (by intro z; first | omega | (apply z.2; have e0 : w = 0 := z.1; subst e0; exact c78; done))]
          exact hK
        · refine q_aload_n (pc' := 82) (dk_at dkX5_setJob 43 rfl) rfl rfl ?_
          refine r_getf (pc' := 85) fl_RX5_10 (dk_at dkX5_setJob 44 rfl) hB.obj rfl rfl ?_
          refine r_getf (pc' := 88) fl_RX5_99 (dk_at dkX5_setJob 45 rfl) hN.obj rfl rfl ?_
          refine r_cVV (pc' := 91) (As := []) (S := []) cv_RX5_105 (dk_at dkX5_setJob 46 rfl) hK.obj rfl (k_Plan_makeEmpty (d := 0) hK) (by omega) (Nat.zero_le _) (Nat.zero_le _) rfl (Nat.le_of_ble_eq_true rfl) rfl (Nat.le_of_ble_eq_true rfl) rfl (fun hh13 hphh13 => ?_)
          obtain ⟨hK, hGf⟩ := hphh13
          have hB := isBM.frm hB hGf (by omega)
          have hN := isState.frm hN hGf (by omega)
          have hQ := isShop.frm hQ hGf (by omega)
          have hZ := SvI.frm hZ hGf (by omega)
          have hR := BMR.frm hR hGf (by omega)
          have hF := hF.tr hGf (by omega)
          refine q_aload_n (pc' := 92) (dk_at dkX5_setJob 47 rfl) rfl rfl ?_
          refine r_getf (pc' := 95) fl_RX5_10 (dk_at dkX5_setJob 48 rfl) hB.obj rfl rfl ?_
          refine q_iconst (pc' := 96) (dk_at dkX5_setJob 49 rfl) rfl ?_
          refine r_putf (pc' := 99) fp_RX5_82 (dk_at dkX5_setJob 50 rfl) hN.obj (Nat.le_of_ble_eq_true rfl) (PT_bool (by omega)) rfl (fun hh14 ehh14 => ?_)
          have hB := hB.off ehh14 (by omega)
          have hN := hN.w_obj ehh14
          have hQ := hQ.off ehh14 (by omega)
          have hK := hK.off ehh14 (by omega)
          have hZ := hZ.off ehh14 (by omega)
          have hR := hR.off ehh14 (by omega)
          have hF := hF.put ehh14 (by omega)
          refine q_iload (pc' := 101) (dk_at dkX5_setJob 51 rfl) rfl rfl ?_
          refine x_iret rfl (dk_at dkX5_setJob 52 rfl) ?_
          refine ⟨_, rfl, yj, yv, rfl, ⟨hB, ⟨hN, hQ, ?_⟩, hZ, hR⟩, hF⟩
          show isPlS n hh14 (b + 15) (if w = 0 ∧ S.V 0 j.toNat ≠ v0 then P.none else P)
          rw [if_pos ⟨by omega, by intro z; apply c78; have e0 : w = 0 := (by omega); subst e0; exact z⟩]
          exact hK
    · refine q_throw (cls := "java/lang/IllegalArgumentException") (text := "what or value is out of range") th_IAE rfl rfl (by decide +kernel) (by omega) (Nat.le_of_ble_eq_true rfl) (dk_at dkX5_setJob 13 rfl) (dk_at dkX5_setJob 14 rfl) (dk_at dkX5_setJob 15 rfl) (dk_at dkX5_setJob 16 rfl) (dk_at dkX5_setJob 17 rfl) ?_
      exact ⟨rfl, Or.inr ⟨rfl, yj, y20.f (by omega)⟩⟩
  · refine q_throw (cls := "java/lang/IndexOutOfBoundsException") (text := "there is no such job") th_IOB rfl rfl (by decide +kernel) (by omega) (Nat.le_of_ble_eq_true rfl) (dk_at dkX5_setJob 4 rfl) (dk_at dkX5_setJob 5 rfl) (dk_at dkX5_setJob 6 rfl) (dk_at dkX5_setJob 7 rfl) (dk_at dkX5_setJob 8 rfl) ?_
    exact ⟨rfl, Or.inl ⟨rfl, y2.f (by omega)⟩⟩

set_option maxHeartbeats 4000000 in
set_option maxRecDepth 100000 in
theorem k_BM_job {d n : Nat} {h : PH} {b : Nat} {S : Shp} {P : PlS} {kn bs : Int} {sv tl : Nat} {x : Nat → Snp} {tx : Nat → Int} {j w : Int} (hd : 20 ≤ d) (hI : BMI n h b ((S, P, kn, bs), sv, x, tx, tl)) (hO : BOk ((S, P, kn, bs), sv, x, tx, tl)) (hi1 : IR j) (hi2 : IR w) : CtrX mX5_job d [vR b, vI j, vI w] n h (fun r h' => ∃ v, r = some (vI v) ∧ jOk S j ∧ (0 ≤ w ∧ w < 5) ∧ v = S.V w.toNat j.toNat ∧ h' = h) (fun E h' => h' = h ∧ ((E = "java/lang/IndexOutOfBoundsException" ∧ ¬ jOk S j) ∨ (E = "java/lang/IllegalArgumentException" ∧ jOk S j ∧ ¬ (0 ≤ w ∧ w < 5)))) := by
  obtain ⟨hB, hSt, hZ, hR⟩ := hI
  have hB : isBM n h b (sv : Int) tx (tl : Int) := hB
  obtain ⟨hN, hQ, hK⟩ := hSt
  have hN : isState n h (b + 1) kn bs := hN
  have hQ : isShp n h (b + 2) S := hQ
  have hK : isPlS n h (b + 15) P := hK
  have hZ : SvI n h b x := hZ
  obtain ⟨hk, hsv, hks, htl, htx⟩ := hO
  have hk : SnOk (S, P, kn, bs) := hk
  have hsv : sv ≤ 4 := hsv
  have htl : tl ≤ 60 := htl
  have htx : ∀ i, 0 ≤ tx i ∧ tx i ≤ 127 := htx
  have hk1 : Sok S := hk.1
  have hc8 := hk1.c
  have hkp : Pok S.cnt P.od P.en P.bc P.sz := hk.2.1
  have hp8 : P.sz ≤ 8 := hkp.1
  have hpb : P.bc ≤ P.sz := hkp.2.1
  have hkb : Bst S kn bs := hk.2.2
  have hkn := hkb.1
  have hF : Fr h h b (b + 149) := Fr.rf
  refine q_beginX (L := [some (vR b), some (vI j), some (vI w)]) rfl ?_
  refine q_aload_n (pc' := 1) (dk_at dkX5_job 0 rfl) rfl rfl ?_
  refine q_iload_n (pc' := 2) (dk_at dkX5_job 1 rfl) rfl rfl ?_
  refine r_cVI (pc' := 5) (As := [vI j]) (S := []) cv_RX5_86 (dk_at dkX5_job 2 rfl) hB.obj rfl (k_BM_isJobY (d := 0) hc8 (by omega) hB hN hQ) (by omega) (Nat.zero_le _) (Nat.zero_le _) rfl (Nat.le_of_ble_eq_true rfl) rfl (Nat.le_of_ble_eq_true rfl) rfl (fun xx1 hh2 hphh2 => ?_)
  obtain ⟨qq3, y2⟩ := hphh2
  subst qq3
  have yr2 := y2.r
  refine q_if_ne (tgt := 18) (pc' := 8) (dk_at dkX5_job 3 rfl) rfl rfl (by omega) (fun c5 => ?_) (fun c5 => ?_)
  · have yj : 0 ≤ j ∧ j < (S.cnt : Int) := y2.t (by omega)
    refine q_iload_n (pc' := 19) (dk_at dkX5_job 9 rfl) rfl rfl ?_
    refine q_if_lt (tgt := 27) (pc' := 22) (dk_at dkX5_job 10 rfl) rfl rfl (by omega) (fun c19 => ?_) (fun c19 => ?_)
    · refine q_throw (cls := "java/lang/IllegalArgumentException") (text := "what is out of range") th_IAE rfl rfl (by decide +kernel) (by omega) (Nat.le_of_ble_eq_true rfl) (dk_at dkX5_job 14 rfl) (dk_at dkX5_job 15 rfl) (dk_at dkX5_job 16 rfl) (dk_at dkX5_job 17 rfl) (dk_at dkX5_job 18 rfl) ?_
      exact ⟨rfl, Or.inr ⟨rfl, yj, by omega⟩⟩
    · refine q_iload_n (pc' := 23) (dk_at dkX5_job 11 rfl) rfl rfl ?_
      refine q_iconst (pc' := 24) (dk_at dkX5_job 12 rfl) rfl ?_
      refine q_icmp_lt (tgt := 37) (pc' := 27) (dk_at dkX5_job 13 rfl) rfl rfl (by omega) (by omega) (fun c24 => ?_) (fun c24 => ?_)
      · refine q_aload_n (pc' := 38) (dk_at dkX5_job 19 rfl) rfl rfl ?_
        refine r_getf (pc' := 41) fl_RX5_10 (dk_at dkX5_job 20 rfl) hB.obj rfl rfl ?_
        refine r_getf (pc' := 44) fl_RX5_63 (dk_at dkX5_job 21 rfl) hN.obj rfl rfl ?_
        refine r_getf (pc' := 47) fl_RX5_78 (dk_at dkX5_job 22 rfl) hQ.obj rfl rfl ?_
        refine q_iload_n (pc' := 48) (dk_at dkX5_job 23 rfl) rfl rfl ?_
        refine r_aald1 (pc' := 49) (dk_at dkX5_job 24 rfl) hQ.values ((w).toNat) (by omega) (by omega) (by decide) rfl ?_
        refine q_iload_n (pc' := 50) (dk_at dkX5_job 25 rfl) rfl rfl ?_
        refine r_iald (pc' := 51) (dk_at dkX5_job 26 rfl) (hQ.values_at ((w).toNat) (by omega)) ((j).toNat) (by omega) (by omega) (by decide) rfl ?_
        refine x_iret rfl (dk_at dkX5_job 27 rfl) ?_
        exact ⟨_, rfl, yj, by omega, rfl, rfl⟩
      · refine q_throw (cls := "java/lang/IllegalArgumentException") (text := "what is out of range") th_IAE rfl rfl (by decide +kernel) (by omega) (Nat.le_of_ble_eq_true rfl) (dk_at dkX5_job 14 rfl) (dk_at dkX5_job 15 rfl) (dk_at dkX5_job 16 rfl) (dk_at dkX5_job 17 rfl) (dk_at dkX5_job 18 rfl) ?_
        exact ⟨rfl, Or.inr ⟨rfl, yj, by omega⟩⟩
  · refine q_throw (cls := "java/lang/IndexOutOfBoundsException") (text := "there is no such job") th_IOB rfl rfl (by decide +kernel) (by omega) (Nat.le_of_ble_eq_true rfl) (dk_at dkX5_job 4 rfl) (dk_at dkX5_job 5 rfl) (dk_at dkX5_job 6 rfl) (dk_at dkX5_job 7 rfl) (dk_at dkX5_job 8 rfl) ?_
    exact ⟨rfl, Or.inl ⟨rfl, y2.f (by omega)⟩⟩

set_option maxHeartbeats 4000000 in
set_option maxRecDepth 100000 in
theorem k_BM_jobs {d n : Nat} {h : PH} {b : Nat} {S : Shp} {P : PlS} {kn bs : Int} {sv tl : Nat} {x : Nat → Snp} {tx : Nat → Int}  (hd : 20 ≤ d) (hI : BMI n h b ((S, P, kn, bs), sv, x, tx, tl)) (hO : BOk ((S, P, kn, bs), sv, x, tx, tl))  : CtrI mX5_jobs d [vR b] n h (fun v h' => v = (S.cnt : Int) ∧ h' = h) := by
  obtain ⟨hB, hSt, hZ, hR⟩ := hI
  have hB : isBM n h b (sv : Int) tx (tl : Int) := hB
  obtain ⟨hN, hQ, hK⟩ := hSt
  have hN : isState n h (b + 1) kn bs := hN
  have hQ : isShp n h (b + 2) S := hQ
  have hK : isPlS n h (b + 15) P := hK
  have hZ : SvI n h b x := hZ
  obtain ⟨hk, hsv, hks, htl, htx⟩ := hO
  have hk : SnOk (S, P, kn, bs) := hk
  have hsv : sv ≤ 4 := hsv
  have htl : tl ≤ 60 := htl
  have htx : ∀ i, 0 ≤ tx i ∧ tx i ≤ 127 := htx
  have hk1 : Sok S := hk.1
  have hc8 := hk1.c
  have hkp : Pok S.cnt P.od P.en P.bc P.sz := hk.2.1
  have hp8 : P.sz ≤ 8 := hkp.1
  have hpb : P.bc ≤ P.sz := hkp.2.1
  have hkb : Bst S kn bs := hk.2.2
  have hkn := hkb.1
  have hF : Fr h h b (b + 149) := Fr.rf
  refine q_beginI (L := [some (vR b)]) rfl ?_
  refine q_aload_n (pc' := 1) (dk_at dkX5_jobs 0 rfl) rfl rfl ?_
  refine r_getf (pc' := 4) fl_RX5_10 (dk_at dkX5_jobs 1 rfl) hB.obj rfl rfl ?_
  refine r_getf (pc' := 7) fl_RX5_63 (dk_at dkX5_jobs 2 rfl) hN.obj rfl rfl ?_
  refine r_getf (pc' := 10) fl_RX5_66 (dk_at dkX5_jobs 3 rfl) hQ.obj rfl rfl ?_
  refine r_iret rfl (dk_at dkX5_jobs 4 rfl) ?_
  exact ⟨rfl, rfl⟩

set_option maxHeartbeats 4000000 in
set_option maxRecDepth 100000 in
theorem k_BM_batches {d n : Nat} {h : PH} {b : Nat} {S : Shp} {P : PlS} {kn bs : Int} {sv tl : Nat} {x : Nat → Snp} {tx : Nat → Int}  (hd : 20 ≤ d) (hI : BMI n h b ((S, P, kn, bs), sv, x, tx, tl)) (hO : BOk ((S, P, kn, bs), sv, x, tx, tl))  : CtrI mX5_batches d [vR b] n h (fun v h' => v = (P.bc : Int) ∧ h' = h) := by
  obtain ⟨hB, hSt, hZ, hR⟩ := hI
  have hB : isBM n h b (sv : Int) tx (tl : Int) := hB
  obtain ⟨hN, hQ, hK⟩ := hSt
  have hN : isState n h (b + 1) kn bs := hN
  have hQ : isShp n h (b + 2) S := hQ
  have hK : isPlS n h (b + 15) P := hK
  have hZ : SvI n h b x := hZ
  obtain ⟨hk, hsv, hks, htl, htx⟩ := hO
  have hk : SnOk (S, P, kn, bs) := hk
  have hsv : sv ≤ 4 := hsv
  have htl : tl ≤ 60 := htl
  have htx : ∀ i, 0 ≤ tx i ∧ tx i ≤ 127 := htx
  have hk1 : Sok S := hk.1
  have hc8 := hk1.c
  have hkp : Pok S.cnt P.od P.en P.bc P.sz := hk.2.1
  have hp8 : P.sz ≤ 8 := hkp.1
  have hpb : P.bc ≤ P.sz := hkp.2.1
  have hkb : Bst S kn bs := hk.2.2
  have hkn := hkb.1
  have hF : Fr h h b (b + 149) := Fr.rf
  refine q_beginI (L := [some (vR b)]) rfl ?_
  refine q_aload_n (pc' := 1) (dk_at dkX5_batches 0 rfl) rfl rfl ?_
  refine r_getf (pc' := 4) fl_RX5_10 (dk_at dkX5_batches 1 rfl) hB.obj rfl rfl ?_
  refine r_getf (pc' := 7) fl_RX5_99 (dk_at dkX5_batches 2 rfl) hN.obj rfl rfl ?_
  refine r_getf (pc' := 10) fl_RX5_143 (dk_at dkX5_batches 3 rfl) hK.obj rfl rfl ?_
  refine r_iret rfl (dk_at dkX5_batches 4 rfl) ?_
  exact ⟨rfl, rfl⟩

set_option maxHeartbeats 4000000 in
set_option maxRecDepth 100000 in
theorem k_BM_setSetup {d n : Nat} {h : PH} {b : Nat} {S : Shp} {P : PlS} {kn bs : Int} {sv tl : Nat} {x : Nat → Snp} {tx : Nat → Int} {fr to v0 : Int} (hd : 20 ≤ d) (hI : BMI n h b ((S, P, kn, bs), sv, x, tx, tl)) (hO : BOk ((S, P, kn, bs), sv, x, tx, tl)) (hi1 : IR fr) (hi2 : IR to) (hi3 : IR v0) : CtrX mX5_setSetup d [vR b, vI fr, vI to, vI v0] n h (fun r h' => ∃ v, r = some (vI v) ∧ ((-1 ≤ fr ∧ fr < 4) ∧ 0 ≤ to ∧ to < 4) ∧ (0 ≤ v0 ∧ v0 ≤ 60) ∧ v = S.T (fr + 1).toNat to.toNat ∧ BMI n h' b ((S.setT (fr + 1).toNat to.toNat v0, P, 0, bs), pshN sv, (pshX sv x (S, P, kn, bs)), tx, tl) ∧ Fr h h' b (b + 149)) (fun E h' => h' = h ∧ ((E = "java/lang/IndexOutOfBoundsException" ∧ ¬ ((-1 ≤ fr ∧ fr < 4) ∧ 0 ≤ to ∧ to < 4)) ∨ (E = "java/lang/IllegalArgumentException" ∧ ((-1 ≤ fr ∧ fr < 4) ∧ 0 ≤ to ∧ to < 4) ∧ ¬ (0 ≤ v0 ∧ v0 ≤ 60)))) := by
  obtain ⟨hB, hSt, hZ, hR⟩ := hI
  have hB : isBM n h b (sv : Int) tx (tl : Int) := hB
  obtain ⟨hN, hQ, hK⟩ := hSt
  have hN : isState n h (b + 1) kn bs := hN
  have hQ : isShp n h (b + 2) S := hQ
  have hK : isPlS n h (b + 15) P := hK
  have hZ : SvI n h b x := hZ
  obtain ⟨hk, hsv, hks, htl, htx⟩ := hO
  have hk : SnOk (S, P, kn, bs) := hk
  have hsv : sv ≤ 4 := hsv
  have htl : tl ≤ 60 := htl
  have htx : ∀ i, 0 ≤ tx i ∧ tx i ≤ 127 := htx
  have hk1 : Sok S := hk.1
  have hc8 := hk1.c
  have hkp : Pok S.cnt P.od P.en P.bc P.sz := hk.2.1
  have hp8 : P.sz ≤ 8 := hkp.1
  have hpb : P.bc ≤ P.sz := hkp.2.1
  have hkb : Bst S kn bs := hk.2.2
  have hkn := hkb.1
  have hF : Fr h h b (b + 149) := Fr.rf
  refine q_beginX (L := [some (vR b), some (vI fr), some (vI to), some (vI v0), none]) rfl ?_
  refine q_iload_n (pc' := 1) (dk_at dkX5_setSetup 0 rfl) rfl rfl ?_
  refine q_iconst (pc' := 2) (dk_at dkX5_setSetup 1 rfl) rfl ?_
  refine q_icmp_lt (tgt := 19) (pc' := 5) (dk_at dkX5_setSetup 2 rfl) rfl rfl (by omega) (by omega) (fun c2 => ?_) (fun c2 => ?_)
  · refine q_throw (cls := "java/lang/IndexOutOfBoundsException") (text := "there is no such family") th_IOB rfl rfl (by decide +kernel) (by omega) (Nat.le_of_ble_eq_true rfl) (dk_at dkX5_setSetup 11 rfl) (dk_at dkX5_setSetup 12 rfl) (dk_at dkX5_setSetup 13 rfl) (dk_at dkX5_setSetup 14 rfl) (dk_at dkX5_setSetup 15 rfl) ?_
    exact ⟨rfl, Or.inl ⟨rfl, by omega⟩⟩
  · refine q_iload_n (pc' := 6) (dk_at dkX5_setSetup 3 rfl) rfl rfl ?_
    refine q_iconst (pc' := 7) (dk_at dkX5_setSetup 4 rfl) rfl ?_
    refine q_icmp_ge (tgt := 19) (pc' := 10) (dk_at dkX5_setSetup 5 rfl) rfl rfl (by omega) (by omega) (fun c7 => ?_) (fun c7 => ?_)
    · refine q_throw (cls := "java/lang/IndexOutOfBoundsException") (text := "there is no such family") th_IOB rfl rfl (by decide +kernel) (by omega) (Nat.le_of_ble_eq_true rfl) (dk_at dkX5_setSetup 11 rfl) (dk_at dkX5_setSetup 12 rfl) (dk_at dkX5_setSetup 13 rfl) (dk_at dkX5_setSetup 14 rfl) (dk_at dkX5_setSetup 15 rfl) ?_
      exact ⟨rfl, Or.inl ⟨rfl, by omega⟩⟩
    · refine q_iload_n (pc' := 11) (dk_at dkX5_setSetup 6 rfl) rfl rfl ?_
      refine q_if_lt (tgt := 19) (pc' := 14) (dk_at dkX5_setSetup 7 rfl) rfl rfl (by omega) (fun c11 => ?_) (fun c11 => ?_)
      · refine q_throw (cls := "java/lang/IndexOutOfBoundsException") (text := "there is no such family") th_IOB rfl rfl (by decide +kernel) (by omega) (Nat.le_of_ble_eq_true rfl) (dk_at dkX5_setSetup 11 rfl) (dk_at dkX5_setSetup 12 rfl) (dk_at dkX5_setSetup 13 rfl) (dk_at dkX5_setSetup 14 rfl) (dk_at dkX5_setSetup 15 rfl) ?_
        exact ⟨rfl, Or.inl ⟨rfl, by omega⟩⟩
      · refine q_iload_n (pc' := 15) (dk_at dkX5_setSetup 8 rfl) rfl rfl ?_
        refine q_iconst (pc' := 16) (dk_at dkX5_setSetup 9 rfl) rfl ?_
        refine q_icmp_lt (tgt := 29) (pc' := 19) (dk_at dkX5_setSetup 10 rfl) rfl rfl (by omega) (by omega) (fun c16 => ?_) (fun c16 => ?_)
        · refine q_iload_n (pc' := 30) (dk_at dkX5_setSetup 16 rfl) rfl rfl ?_
          refine q_if_lt (tgt := 39) (pc' := 33) (dk_at dkX5_setSetup 17 rfl) rfl rfl (by omega) (fun c30 => ?_) (fun c30 => ?_)
          · refine q_throw (cls := "java/lang/IllegalArgumentException") (text := "time is out of range") th_IAE rfl rfl (by decide +kernel) (by omega) (Nat.le_of_ble_eq_true rfl) (dk_at dkX5_setSetup 21 rfl) (dk_at dkX5_setSetup 22 rfl) (dk_at dkX5_setSetup 23 rfl) (dk_at dkX5_setSetup 24 rfl) (dk_at dkX5_setSetup 25 rfl) ?_
            exact ⟨rfl, Or.inr ⟨rfl, by omega, by omega⟩⟩
          · refine q_iload_n (pc' := 34) (dk_at dkX5_setSetup 18 rfl) rfl rfl ?_
            refine q_bipush (pc' := 36) (dk_at dkX5_setSetup 19 rfl) (by decide +kernel) rfl ?_
            refine q_icmp_le (tgt := 49) (pc' := 39) (dk_at dkX5_setSetup 20 rfl) rfl rfl (by omega) (by omega) (fun c36 => ?_) (fun c36 => ?_)
            · refine q_aload_n (pc' := 50) (dk_at dkX5_setSetup 26 rfl) rfl rfl ?_
              refine r_cVV (pc' := 53) (As := []) (S := []) cv_RX5_75 (dk_at dkX5_setSetup 27 rfl) hB.obj rfl (k_BM_saveState (d := 4) (c := (S, P, kn, bs)) (by omega) hk hsv hB ⟨hN, hQ, hK⟩ hZ) (by omega) (Nat.zero_le _) (Nat.zero_le _) rfl (Nat.le_of_ble_eq_true rfl) rfl (Nat.le_of_ble_eq_true rfl) rfl (fun hh2 hphh2 => ?_)
              obtain ⟨hB, hSt, hZ, hGf⟩ := hphh2
              obtain ⟨hN, hQ, hK⟩ := hSt
              have hN : isState n hh2 (b + 1) kn bs := hN
              have hQ : isShp n hh2 (b + 2) S := hQ
              have hK : isPlS n hh2 (b + 15) P := hK
              have hR := BMR.frm hR hGf (by omega)
              have hF := hF.tr hGf (by omega)
              refine q_aload_n (pc' := 54) (dk_at dkX5_setSetup 28 rfl) rfl rfl ?_
              refine r_getf (pc' := 57) fl_RX5_10 (dk_at dkX5_setSetup 29 rfl) hB.obj rfl rfl ?_
              refine r_getf (pc' := 60) fl_RX5_63 (dk_at dkX5_setSetup 30 rfl) hN.obj rfl rfl ?_
              refine r_getf (pc' := 63) fl_RX5_114 (dk_at dkX5_setSetup 31 rfl) hQ.obj rfl rfl ?_
              refine q_iload_n (pc' := 64) (dk_at dkX5_setSetup 32 rfl) rfl rfl ?_
              refine q_iconst (pc' := 65) (dk_at dkX5_setSetup 33 rfl) rfl ?_
              refine q_iadd (pc' := 66) (dk_at dkX5_setSetup 34 rfl) rfl ?_
              refine r_aald1 (pc' := 67) (dk_at dkX5_setSetup 35 rfl) hQ.setups (((fr + 1)).toNat) (by omega) (by omega) (by decide) rfl ?_
              refine q_iload_n (pc' := 68) (dk_at dkX5_setSetup 36 rfl) rfl rfl ?_
              refine r_iald (pc' := 69) (dk_at dkX5_setSetup 37 rfl) (hQ.setups_at (((fr + 1)).toNat) (by omega)) ((to).toNat) (by omega) (by omega) (by decide) rfl ?_
              refine q_istore (pc' := 71) (L' := [some (vR b), some (vI fr), some (vI to), some (vI v0), some (vI ((S.T (((fr + 1)).toNat)) ((to).toNat)))]) (dk_at dkX5_setSetup 38 rfl) (by decide) rfl rfl ?_
              refine q_aload_n (pc' := 72) (dk_at dkX5_setSetup 39 rfl) rfl rfl ?_
              refine r_getf (pc' := 75) fl_RX5_10 (dk_at dkX5_setSetup 40 rfl) hB.obj rfl rfl ?_
              refine r_getf (pc' := 78) fl_RX5_63 (dk_at dkX5_setSetup 41 rfl) hN.obj rfl rfl ?_
              refine r_getf (pc' := 81) fl_RX5_114 (dk_at dkX5_setSetup 42 rfl) hQ.obj rfl rfl ?_
              refine q_iload_n (pc' := 82) (dk_at dkX5_setSetup 43 rfl) rfl rfl ?_
              refine q_iconst (pc' := 83) (dk_at dkX5_setSetup 44 rfl) rfl ?_
              refine q_iadd (pc' := 84) (dk_at dkX5_setSetup 45 rfl) rfl ?_
              refine r_aald1 (pc' := 85) (dk_at dkX5_setSetup 46 rfl) hQ.setups (((fr + 1)).toNat) (by omega) (by omega) (by decide) rfl ?_
              refine q_iload_n (pc' := 86) (dk_at dkX5_setSetup 47 rfl) rfl rfl ?_
              refine q_iload_n (pc' := 87) (dk_at dkX5_setSetup 48 rfl) rfl rfl ?_
              refine r_iast (pc' := 88) (dk_at dkX5_setSetup 49 rfl) (hQ.setups_at (((fr + 1)).toNat) (by omega)) ((to).toNat) (by omega) (by omega) (by decide) rfl (fun hh3 ehh3 => ?_)
              have hB := hB.off ehh3 (by omega)
              have hN := hN.off ehh3 (by omega)
              have hQ := isShop.w_setups (by omega) hQ ehh3
              have hK := hK.off ehh3 (by omega)
              have hZ := hZ.off ehh3 (by omega)
              have hR := hR.off ehh3 (by omega)
              have hF := hF.put ehh3 (by omega)
              refine q_aload_n (pc' := 89) (dk_at dkX5_setSetup 50 rfl) rfl rfl ?_
              refine r_getf (pc' := 92) fl_RX5_10 (dk_at dkX5_setSetup 51 rfl) hB.obj rfl rfl ?_
              refine q_iconst (pc' := 93) (dk_at dkX5_setSetup 52 rfl) rfl ?_
              refine r_putf (pc' := 96) fp_RX5_82 (dk_at dkX5_setSetup 53 rfl) hN.obj (Nat.le_of_ble_eq_true rfl) (PT_bool (by omega)) rfl (fun hh4 ehh4 => ?_)
              have hB := hB.off ehh4 (by omega)
              have hN := hN.w_obj ehh4
              have hQ := hQ.off ehh4 (by omega)
              have hK := hK.off ehh4 (by omega)
              have hZ := hZ.off ehh4 (by omega)
              have hR := hR.off ehh4 (by omega)
              have hF := hF.put ehh4 (by omega)
              refine q_iload (pc' := 98) (dk_at dkX5_setSetup 54 rfl) rfl rfl ?_
              refine x_iret rfl (dk_at dkX5_setSetup 55 rfl) ?_
              exact ⟨_, rfl, by omega, by omega, rfl, ⟨hB, ⟨hN, hQ, hK⟩, hZ, hR⟩, hF⟩
            · refine q_throw (cls := "java/lang/IllegalArgumentException") (text := "time is out of range") th_IAE rfl rfl (by decide +kernel) (by omega) (Nat.le_of_ble_eq_true rfl) (dk_at dkX5_setSetup 21 rfl) (dk_at dkX5_setSetup 22 rfl) (dk_at dkX5_setSetup 23 rfl) (dk_at dkX5_setSetup 24 rfl) (dk_at dkX5_setSetup 25 rfl) ?_
              exact ⟨rfl, Or.inr ⟨rfl, by omega, by omega⟩⟩
        · refine q_throw (cls := "java/lang/IndexOutOfBoundsException") (text := "there is no such family") th_IOB rfl rfl (by decide +kernel) (by omega) (Nat.le_of_ble_eq_true rfl) (dk_at dkX5_setSetup 11 rfl) (dk_at dkX5_setSetup 12 rfl) (dk_at dkX5_setSetup 13 rfl) (dk_at dkX5_setSetup 14 rfl) (dk_at dkX5_setSetup 15 rfl) ?_
          exact ⟨rfl, Or.inl ⟨rfl, by omega⟩⟩

def Shp.setM (S : Shp) (wh er : Int) : Shp := (S.cnt, S.V, S.T, wh, er, S.ob)
def Shp.setO (S : Shp) (ob : Int) : Shp := (S.cnt, S.V, S.T, S.wh, S.er, ob)
set_option maxHeartbeats 4000000 in
set_option maxRecDepth 100000 in
theorem k_BM_setMode {d n : Nat} {h : PH} {b : Nat} {S : Shp} {P : PlS} {kn bs : Int} {sv tl : Nat} {x : Nat → Snp} {tx : Nat → Int} {wh er : Int} (hd : 20 ≤ d) (hI : BMI n h b ((S, P, kn, bs), sv, x, tx, tl)) (hO : BOk ((S, P, kn, bs), sv, x, tx, tl)) (hi1 : wh = 0 ∨ wh = 1) (hi2 : er = 0 ∨ er = 1) : CtrI mX5_setMode d [vR b, vI wh, vI er] n h (fun v h' => v = 2 * S.wh + S.er ∧ BMI n h' b ((S.setM wh er, P, 0, bs), pshN sv, (pshX sv x (S, P, kn, bs)), tx, tl) ∧ Fr h h' b (b + 149)) := by
  obtain ⟨hB, hSt, hZ, hR⟩ := hI
  have hB : isBM n h b (sv : Int) tx (tl : Int) := hB
  obtain ⟨hN, hQ, hK⟩ := hSt
  have hN : isState n h (b + 1) kn bs := hN
  have hQ : isShp n h (b + 2) S := hQ
  have hK : isPlS n h (b + 15) P := hK
  have hZ : SvI n h b x := hZ
  obtain ⟨hk, hsv, hks, htl, htx⟩ := hO
  have hk : SnOk (S, P, kn, bs) := hk
  have hsv : sv ≤ 4 := hsv
  have htl : tl ≤ 60 := htl
  have htx : ∀ i, 0 ≤ tx i ∧ tx i ≤ 127 := htx
  have hk1 : Sok S := hk.1
  have hc8 := hk1.c
  have hkp : Pok S.cnt P.od P.en P.bc P.sz := hk.2.1
  have hp8 : P.sz ≤ 8 := hkp.1
  have hpb : P.bc ≤ P.sz := hkp.2.1
  have hkb : Bst S kn bs := hk.2.2
  have hkn := hkb.1
  have hF : Fr h h b (b + 149) := Fr.rf
  have hwh := hk1.w
  have her := hk1.e
  refine q_beginI (L := [some (vR b), some (vI wh), some (vI er), none]) rfl ?_
  refine q_aload_n (pc' := 1) (dk_at dkX5_setMode 0 rfl) rfl rfl ?_
  refine r_cVV (pc' := 4) (As := []) (S := []) cv_RX5_75 (dk_at dkX5_setMode 1 rfl) hB.obj rfl (k_BM_saveState (d := 4) (c := (S, P, kn, bs)) (by omega) hk hsv hB ⟨hN, hQ, hK⟩ hZ) (by omega) (Nat.zero_le _) (Nat.zero_le _) rfl (Nat.le_of_ble_eq_true rfl) rfl (Nat.le_of_ble_eq_true rfl) rfl (fun hh2 hphh2 => ?_)
  obtain ⟨hB, hSt, hZ, hGf⟩ := hphh2
  obtain ⟨hN, hQ, hK⟩ := hSt
  have hN : isState n hh2 (b + 1) kn bs := hN
  have hQ : isShp n hh2 (b + 2) S := hQ
  have hK : isPlS n hh2 (b + 15) P := hK
  have hR := BMR.frm hR hGf (by omega)
  have hF := hF.tr hGf (by omega)
  refine q_aload_n (pc' := 5) (dk_at dkX5_setMode 2 rfl) rfl rfl ?_
  refine r_getf (pc' := 8) fl_RX5_10 (dk_at dkX5_setMode 3 rfl) hB.obj rfl rfl ?_
  refine r_getf (pc' := 11) fl_RX5_63 (dk_at dkX5_setMode 4 rfl) hN.obj rfl rfl ?_
  refine r_getf (pc' := 14) fl_RX5_117 (dk_at dkX5_setMode 5 rfl) hQ.obj rfl rfl ?_
  refine q_if_eq (tgt := 21) (pc' := 17) (dk_at dkX5_setMode 6 rfl) rfl rfl (by omega) (fun c14 => ?_) (fun c14 => ?_)
  · refine q_iconst (pc' := 22) (dk_at dkX5_setMode 9 rfl) rfl ?_
    refine q_aload_n (pc' := 23) (dk_at dkX5_setMode 10 rfl) rfl rfl ?_
    refine r_getf (pc' := 26) fl_RX5_10 (dk_at dkX5_setMode 11 rfl) hB.obj rfl rfl ?_
    refine r_getf (pc' := 29) fl_RX5_63 (dk_at dkX5_setMode 12 rfl) hN.obj rfl rfl ?_
    refine r_getf (pc' := 32) fl_RX5_120 (dk_at dkX5_setMode 13 rfl) hQ.obj rfl rfl ?_
    refine q_if_eq (tgt := 39) (pc' := 35) (dk_at dkX5_setMode 14 rfl) rfl rfl (by omega) (fun c32 => ?_) (fun c32 => ?_)
    · refine q_iconst (pc' := 40) (dk_at dkX5_setMode 17 rfl) rfl ?_
      refine q_iadd (pc' := 41) (dk_at dkX5_setMode 18 rfl) rfl ?_
      refine q_istore_n (pc' := 42) (L' := [some (vR b), some (vI wh), some (vI er), some (vI (0 + 0))]) (dk_at dkX5_setMode 19 rfl) (by decide) rfl rfl ?_
      refine q_aload_n (pc' := 43) (dk_at dkX5_setMode 20 rfl) rfl rfl ?_
      refine r_getf (pc' := 46) fl_RX5_10 (dk_at dkX5_setMode 21 rfl) hB.obj rfl rfl ?_
      refine r_getf (pc' := 49) fl_RX5_63 (dk_at dkX5_setMode 22 rfl) hN.obj rfl rfl ?_
      refine q_iload_n (pc' := 50) (dk_at dkX5_setMode 23 rfl) rfl rfl ?_
      refine r_putf (pc' := 53) fp_RX5_117 (dk_at dkX5_setMode 24 rfl) hQ.obj (Nat.le_of_ble_eq_true rfl) (PT_bool (by omega)) rfl (fun hh3 ehh3 => ?_)
      have hB := hB.off ehh3 (by omega)
      have hN := hN.off ehh3 (by omega)
      have hQ := hQ.w_obj ehh3
      have hK := hK.off ehh3 (by omega)
      have hZ := hZ.off ehh3 (by omega)
      have hR := hR.off ehh3 (by omega)
      have hF := hF.put ehh3 (by omega)
      refine q_aload_n (pc' := 54) (dk_at dkX5_setMode 25 rfl) rfl rfl ?_
      refine r_getf (pc' := 57) fl_RX5_10 (dk_at dkX5_setMode 26 rfl) hB.obj rfl rfl ?_
      refine r_getf (pc' := 60) fl_RX5_63 (dk_at dkX5_setMode 27 rfl) hN.obj rfl rfl ?_
      refine q_iload_n (pc' := 61) (dk_at dkX5_setMode 28 rfl) rfl rfl ?_
      refine r_putf (pc' := 64) fp_RX5_120 (dk_at dkX5_setMode 29 rfl) hQ.obj (Nat.le_of_ble_eq_true rfl) (PT_bool (by omega)) rfl (fun hh4 ehh4 => ?_)
      have hB := hB.off ehh4 (by omega)
      have hN := hN.off ehh4 (by omega)
      have hQ := hQ.w_obj ehh4
      have hK := hK.off ehh4 (by omega)
      have hZ := hZ.off ehh4 (by omega)
      have hR := hR.off ehh4 (by omega)
      have hF := hF.put ehh4 (by omega)
      refine q_aload_n (pc' := 65) (dk_at dkX5_setMode 30 rfl) rfl rfl ?_
      refine r_getf (pc' := 68) fl_RX5_10 (dk_at dkX5_setMode 31 rfl) hB.obj rfl rfl ?_
      refine q_iconst (pc' := 69) (dk_at dkX5_setMode 32 rfl) rfl ?_
      refine r_putf (pc' := 72) fp_RX5_82 (dk_at dkX5_setMode 33 rfl) hN.obj (Nat.le_of_ble_eq_true rfl) (PT_bool (by omega)) rfl (fun hh5 ehh5 => ?_)
      have hB := hB.off ehh5 (by omega)
      have hN := hN.w_obj ehh5
      have hQ := hQ.off ehh5 (by omega)
      have hK := hK.off ehh5 (by omega)
      have hZ := hZ.off ehh5 (by omega)
      have hR := hR.off ehh5 (by omega)
      have hF := hF.put ehh5 (by omega)
      refine q_iload_n (pc' := 73) (dk_at dkX5_setMode 34 rfl) rfl rfl ?_
      refine r_iret rfl (dk_at dkX5_setMode 35 rfl) ?_
      exact ⟨by omega, ⟨hB, ⟨hN, hQ, hK⟩, hZ, hR⟩, hF⟩
    · refine q_iconst (pc' := 36) (dk_at dkX5_setMode 15 rfl) rfl ?_
      refine q_goto (tgt := 40) (dk_at dkX5_setMode 16 rfl) rfl ?_
      refine q_iadd (pc' := 41) (dk_at dkX5_setMode 18 rfl) rfl ?_
      refine q_istore_n (pc' := 42) (L' := [some (vR b), some (vI wh), some (vI er), some (vI (0 + 1))]) (dk_at dkX5_setMode 19 rfl) (by decide) rfl rfl ?_
      refine q_aload_n (pc' := 43) (dk_at dkX5_setMode 20 rfl) rfl rfl ?_
      refine r_getf (pc' := 46) fl_RX5_10 (dk_at dkX5_setMode 21 rfl) hB.obj rfl rfl ?_
      refine r_getf (pc' := 49) fl_RX5_63 (dk_at dkX5_setMode 22 rfl) hN.obj rfl rfl ?_
      refine q_iload_n (pc' := 50) (dk_at dkX5_setMode 23 rfl) rfl rfl ?_
      refine r_putf (pc' := 53) fp_RX5_117 (dk_at dkX5_setMode 24 rfl) hQ.obj (Nat.le_of_ble_eq_true rfl) (PT_bool (by omega)) rfl (fun hh6 ehh6 => ?_)
      have hB := hB.off ehh6 (by omega)
      have hN := hN.off ehh6 (by omega)
      have hQ := hQ.w_obj ehh6
      have hK := hK.off ehh6 (by omega)
      have hZ := hZ.off ehh6 (by omega)
      have hR := hR.off ehh6 (by omega)
      have hF := hF.put ehh6 (by omega)
      refine q_aload_n (pc' := 54) (dk_at dkX5_setMode 25 rfl) rfl rfl ?_
      refine r_getf (pc' := 57) fl_RX5_10 (dk_at dkX5_setMode 26 rfl) hB.obj rfl rfl ?_
      refine r_getf (pc' := 60) fl_RX5_63 (dk_at dkX5_setMode 27 rfl) hN.obj rfl rfl ?_
      refine q_iload_n (pc' := 61) (dk_at dkX5_setMode 28 rfl) rfl rfl ?_
      refine r_putf (pc' := 64) fp_RX5_120 (dk_at dkX5_setMode 29 rfl) hQ.obj (Nat.le_of_ble_eq_true rfl) (PT_bool (by omega)) rfl (fun hh7 ehh7 => ?_)
      have hB := hB.off ehh7 (by omega)
      have hN := hN.off ehh7 (by omega)
      have hQ := hQ.w_obj ehh7
      have hK := hK.off ehh7 (by omega)
      have hZ := hZ.off ehh7 (by omega)
      have hR := hR.off ehh7 (by omega)
      have hF := hF.put ehh7 (by omega)
      refine q_aload_n (pc' := 65) (dk_at dkX5_setMode 30 rfl) rfl rfl ?_
      refine r_getf (pc' := 68) fl_RX5_10 (dk_at dkX5_setMode 31 rfl) hB.obj rfl rfl ?_
      refine q_iconst (pc' := 69) (dk_at dkX5_setMode 32 rfl) rfl ?_
      refine r_putf (pc' := 72) fp_RX5_82 (dk_at dkX5_setMode 33 rfl) hN.obj (Nat.le_of_ble_eq_true rfl) (PT_bool (by omega)) rfl (fun hh8 ehh8 => ?_)
      have hB := hB.off ehh8 (by omega)
      have hN := hN.w_obj ehh8
      have hQ := hQ.off ehh8 (by omega)
      have hK := hK.off ehh8 (by omega)
      have hZ := hZ.off ehh8 (by omega)
      have hR := hR.off ehh8 (by omega)
      have hF := hF.put ehh8 (by omega)
      refine q_iload_n (pc' := 73) (dk_at dkX5_setMode 34 rfl) rfl rfl ?_
      refine r_iret rfl (dk_at dkX5_setMode 35 rfl) ?_
      exact ⟨by omega, ⟨hB, ⟨hN, hQ, hK⟩, hZ, hR⟩, hF⟩
  · refine q_iconst (pc' := 18) (dk_at dkX5_setMode 7 rfl) rfl ?_
    refine q_goto (tgt := 22) (dk_at dkX5_setMode 8 rfl) rfl ?_
    refine q_aload_n (pc' := 23) (dk_at dkX5_setMode 10 rfl) rfl rfl ?_
    refine r_getf (pc' := 26) fl_RX5_10 (dk_at dkX5_setMode 11 rfl) hB.obj rfl rfl ?_
    refine r_getf (pc' := 29) fl_RX5_63 (dk_at dkX5_setMode 12 rfl) hN.obj rfl rfl ?_
    refine r_getf (pc' := 32) fl_RX5_120 (dk_at dkX5_setMode 13 rfl) hQ.obj rfl rfl ?_
    refine q_if_eq (tgt := 39) (pc' := 35) (dk_at dkX5_setMode 14 rfl) rfl rfl (by omega) (fun c32 => ?_) (fun c32 => ?_)
    · refine q_iconst (pc' := 40) (dk_at dkX5_setMode 17 rfl) rfl ?_
      refine q_iadd (pc' := 41) (dk_at dkX5_setMode 18 rfl) rfl ?_
      refine q_istore_n (pc' := 42) (L' := [some (vR b), some (vI wh), some (vI er), some (vI (2 + 0))]) (dk_at dkX5_setMode 19 rfl) (by decide) rfl rfl ?_
      refine q_aload_n (pc' := 43) (dk_at dkX5_setMode 20 rfl) rfl rfl ?_
      refine r_getf (pc' := 46) fl_RX5_10 (dk_at dkX5_setMode 21 rfl) hB.obj rfl rfl ?_
      refine r_getf (pc' := 49) fl_RX5_63 (dk_at dkX5_setMode 22 rfl) hN.obj rfl rfl ?_
      refine q_iload_n (pc' := 50) (dk_at dkX5_setMode 23 rfl) rfl rfl ?_
      refine r_putf (pc' := 53) fp_RX5_117 (dk_at dkX5_setMode 24 rfl) hQ.obj (Nat.le_of_ble_eq_true rfl) (PT_bool (by omega)) rfl (fun hh9 ehh9 => ?_)
      have hB := hB.off ehh9 (by omega)
      have hN := hN.off ehh9 (by omega)
      have hQ := hQ.w_obj ehh9
      have hK := hK.off ehh9 (by omega)
      have hZ := hZ.off ehh9 (by omega)
      have hR := hR.off ehh9 (by omega)
      have hF := hF.put ehh9 (by omega)
      refine q_aload_n (pc' := 54) (dk_at dkX5_setMode 25 rfl) rfl rfl ?_
      refine r_getf (pc' := 57) fl_RX5_10 (dk_at dkX5_setMode 26 rfl) hB.obj rfl rfl ?_
      refine r_getf (pc' := 60) fl_RX5_63 (dk_at dkX5_setMode 27 rfl) hN.obj rfl rfl ?_
      refine q_iload_n (pc' := 61) (dk_at dkX5_setMode 28 rfl) rfl rfl ?_
      refine r_putf (pc' := 64) fp_RX5_120 (dk_at dkX5_setMode 29 rfl) hQ.obj (Nat.le_of_ble_eq_true rfl) (PT_bool (by omega)) rfl (fun hh10 ehh10 => ?_)
      have hB := hB.off ehh10 (by omega)
      have hN := hN.off ehh10 (by omega)
      have hQ := hQ.w_obj ehh10
      have hK := hK.off ehh10 (by omega)
      have hZ := hZ.off ehh10 (by omega)
      have hR := hR.off ehh10 (by omega)
      have hF := hF.put ehh10 (by omega)
      refine q_aload_n (pc' := 65) (dk_at dkX5_setMode 30 rfl) rfl rfl ?_
      refine r_getf (pc' := 68) fl_RX5_10 (dk_at dkX5_setMode 31 rfl) hB.obj rfl rfl ?_
      refine q_iconst (pc' := 69) (dk_at dkX5_setMode 32 rfl) rfl ?_
      refine r_putf (pc' := 72) fp_RX5_82 (dk_at dkX5_setMode 33 rfl) hN.obj (Nat.le_of_ble_eq_true rfl) (PT_bool (by omega)) rfl (fun hh11 ehh11 => ?_)
      have hB := hB.off ehh11 (by omega)
      have hN := hN.w_obj ehh11
      have hQ := hQ.off ehh11 (by omega)
      have hK := hK.off ehh11 (by omega)
      have hZ := hZ.off ehh11 (by omega)
      have hR := hR.off ehh11 (by omega)
      have hF := hF.put ehh11 (by omega)
      refine q_iload_n (pc' := 73) (dk_at dkX5_setMode 34 rfl) rfl rfl ?_
      refine r_iret rfl (dk_at dkX5_setMode 35 rfl) ?_
      exact ⟨by omega, ⟨hB, ⟨hN, hQ, hK⟩, hZ, hR⟩, hF⟩
    · refine q_iconst (pc' := 36) (dk_at dkX5_setMode 15 rfl) rfl ?_
      refine q_goto (tgt := 40) (dk_at dkX5_setMode 16 rfl) rfl ?_
      refine q_iadd (pc' := 41) (dk_at dkX5_setMode 18 rfl) rfl ?_
      refine q_istore_n (pc' := 42) (L' := [some (vR b), some (vI wh), some (vI er), some (vI (2 + 1))]) (dk_at dkX5_setMode 19 rfl) (by decide) rfl rfl ?_
      refine q_aload_n (pc' := 43) (dk_at dkX5_setMode 20 rfl) rfl rfl ?_
      refine r_getf (pc' := 46) fl_RX5_10 (dk_at dkX5_setMode 21 rfl) hB.obj rfl rfl ?_
      refine r_getf (pc' := 49) fl_RX5_63 (dk_at dkX5_setMode 22 rfl) hN.obj rfl rfl ?_
      refine q_iload_n (pc' := 50) (dk_at dkX5_setMode 23 rfl) rfl rfl ?_
      refine r_putf (pc' := 53) fp_RX5_117 (dk_at dkX5_setMode 24 rfl) hQ.obj (Nat.le_of_ble_eq_true rfl) (PT_bool (by omega)) rfl (fun hh12 ehh12 => ?_)
      have hB := hB.off ehh12 (by omega)
      have hN := hN.off ehh12 (by omega)
      have hQ := hQ.w_obj ehh12
      have hK := hK.off ehh12 (by omega)
      have hZ := hZ.off ehh12 (by omega)
      have hR := hR.off ehh12 (by omega)
      have hF := hF.put ehh12 (by omega)
      refine q_aload_n (pc' := 54) (dk_at dkX5_setMode 25 rfl) rfl rfl ?_
      refine r_getf (pc' := 57) fl_RX5_10 (dk_at dkX5_setMode 26 rfl) hB.obj rfl rfl ?_
      refine r_getf (pc' := 60) fl_RX5_63 (dk_at dkX5_setMode 27 rfl) hN.obj rfl rfl ?_
      refine q_iload_n (pc' := 61) (dk_at dkX5_setMode 28 rfl) rfl rfl ?_
      refine r_putf (pc' := 64) fp_RX5_120 (dk_at dkX5_setMode 29 rfl) hQ.obj (Nat.le_of_ble_eq_true rfl) (PT_bool (by omega)) rfl (fun hh13 ehh13 => ?_)
      have hB := hB.off ehh13 (by omega)
      have hN := hN.off ehh13 (by omega)
      have hQ := hQ.w_obj ehh13
      have hK := hK.off ehh13 (by omega)
      have hZ := hZ.off ehh13 (by omega)
      have hR := hR.off ehh13 (by omega)
      have hF := hF.put ehh13 (by omega)
      refine q_aload_n (pc' := 65) (dk_at dkX5_setMode 30 rfl) rfl rfl ?_
      refine r_getf (pc' := 68) fl_RX5_10 (dk_at dkX5_setMode 31 rfl) hB.obj rfl rfl ?_
      refine q_iconst (pc' := 69) (dk_at dkX5_setMode 32 rfl) rfl ?_
      refine r_putf (pc' := 72) fp_RX5_82 (dk_at dkX5_setMode 33 rfl) hN.obj (Nat.le_of_ble_eq_true rfl) (PT_bool (by omega)) rfl (fun hh14 ehh14 => ?_)
      have hB := hB.off ehh14 (by omega)
      have hN := hN.w_obj ehh14
      have hQ := hQ.off ehh14 (by omega)
      have hK := hK.off ehh14 (by omega)
      have hZ := hZ.off ehh14 (by omega)
      have hR := hR.off ehh14 (by omega)
      have hF := hF.put ehh14 (by omega)
      refine q_iload_n (pc' := 73) (dk_at dkX5_setMode 34 rfl) rfl rfl ?_
      refine r_iret rfl (dk_at dkX5_setMode 35 rfl) ?_
      exact ⟨by omega, ⟨hB, ⟨hN, hQ, hK⟩, hZ, hR⟩, hF⟩

set_option maxHeartbeats 4000000 in
set_option maxRecDepth 100000 in
theorem k_BM_setObjective {d n : Nat} {h : PH} {b : Nat} {S : Shp} {P : PlS} {kn bs : Int} {sv tl : Nat} {x : Nat → Snp} {tx : Nat → Int} {ob : Int} (hd : 20 ≤ d) (hI : BMI n h b ((S, P, kn, bs), sv, x, tx, tl)) (hO : BOk ((S, P, kn, bs), sv, x, tx, tl)) (hi1 : IR ob) : CtrX mX5_setObjective d [vR b, vI ob] n h (fun r h' => ∃ v, r = some (vI v) ∧ (0 ≤ ob ∧ ob ≤ 5) ∧ v = S.ob ∧ BMI n h' b ((S.setO ob, P, 0, bs), pshN sv, (pshX sv x (S, P, kn, bs)), tx, tl) ∧ Fr h h' b (b + 149)) (fun E h' => h' = h ∧ E = "java/lang/IllegalArgumentException" ∧ ¬ (0 ≤ ob ∧ ob ≤ 5)) := by
  obtain ⟨hB, hSt, hZ, hR⟩ := hI
  have hB : isBM n h b (sv : Int) tx (tl : Int) := hB
  obtain ⟨hN, hQ, hK⟩ := hSt
  have hN : isState n h (b + 1) kn bs := hN
  have hQ : isShp n h (b + 2) S := hQ
  have hK : isPlS n h (b + 15) P := hK
  have hZ : SvI n h b x := hZ
  obtain ⟨hk, hsv, hks, htl, htx⟩ := hO
  have hk : SnOk (S, P, kn, bs) := hk
  have hsv : sv ≤ 4 := hsv
  have htl : tl ≤ 60 := htl
  have htx : ∀ i, 0 ≤ tx i ∧ tx i ≤ 127 := htx
  have hk1 : Sok S := hk.1
  have hc8 := hk1.c
  have hkp : Pok S.cnt P.od P.en P.bc P.sz := hk.2.1
  have hp8 : P.sz ≤ 8 := hkp.1
  have hpb : P.bc ≤ P.sz := hkp.2.1
  have hkb : Bst S kn bs := hk.2.2
  have hkn := hkb.1
  have hF : Fr h h b (b + 149) := Fr.rf
  refine q_beginX (L := [some (vR b), some (vI ob), none]) rfl ?_
  refine q_iload_n (pc' := 1) (dk_at dkX5_setObjective 0 rfl) rfl rfl ?_
  refine q_if_lt (tgt := 10) (pc' := 4) (dk_at dkX5_setObjective 1 rfl) rfl rfl (by omega) (fun c1 => ?_) (fun c1 => ?_)
  · refine q_throw (cls := "java/lang/IllegalArgumentException") (text := "objective is out of range") th_IAE rfl rfl (by decide +kernel) (by omega) (Nat.le_of_ble_eq_true rfl) (dk_at dkX5_setObjective 5 rfl) (dk_at dkX5_setObjective 6 rfl) (dk_at dkX5_setObjective 7 rfl) (dk_at dkX5_setObjective 8 rfl) (dk_at dkX5_setObjective 9 rfl) ?_
    exact ⟨rfl, rfl, by omega⟩
  · refine q_iload_n (pc' := 5) (dk_at dkX5_setObjective 2 rfl) rfl rfl ?_
    refine q_bipush (pc' := 7) (dk_at dkX5_setObjective 3 rfl) (by decide +kernel) rfl ?_
    refine q_icmp_lt (tgt := 20) (pc' := 10) (dk_at dkX5_setObjective 4 rfl) rfl rfl (by omega) (by omega) (fun c7 => ?_) (fun c7 => ?_)
    · refine q_aload_n (pc' := 21) (dk_at dkX5_setObjective 10 rfl) rfl rfl ?_
      refine r_cVV (pc' := 24) (As := []) (S := []) cv_RX5_75 (dk_at dkX5_setObjective 11 rfl) hB.obj rfl (k_BM_saveState (d := 4) (c := (S, P, kn, bs)) (by omega) hk hsv hB ⟨hN, hQ, hK⟩ hZ) (by omega) (Nat.zero_le _) (Nat.zero_le _) rfl (Nat.le_of_ble_eq_true rfl) rfl (Nat.le_of_ble_eq_true rfl) rfl (fun hh2 hphh2 => ?_)
      obtain ⟨hB, hSt, hZ, hGf⟩ := hphh2
      obtain ⟨hN, hQ, hK⟩ := hSt
      have hN : isState n hh2 (b + 1) kn bs := hN
      have hQ : isShp n hh2 (b + 2) S := hQ
      have hK : isPlS n hh2 (b + 15) P := hK
      have hR := BMR.frm hR hGf (by omega)
      have hF := hF.tr hGf (by omega)
      refine q_aload_n (pc' := 25) (dk_at dkX5_setObjective 12 rfl) rfl rfl ?_
      refine r_getf (pc' := 28) fl_RX5_10 (dk_at dkX5_setObjective 13 rfl) hB.obj rfl rfl ?_
      refine r_getf (pc' := 31) fl_RX5_63 (dk_at dkX5_setObjective 14 rfl) hN.obj rfl rfl ?_
      refine r_getf (pc' := 34) fl_RX5_125 (dk_at dkX5_setObjective 15 rfl) hQ.obj rfl rfl ?_
      refine q_istore_n (pc' := 35) (L' := [some (vR b), some (vI ob), some (vI S.ob)]) (dk_at dkX5_setObjective 16 rfl) (by decide) rfl rfl ?_
      refine q_aload_n (pc' := 36) (dk_at dkX5_setObjective 17 rfl) rfl rfl ?_
      refine r_getf (pc' := 39) fl_RX5_10 (dk_at dkX5_setObjective 18 rfl) hB.obj rfl rfl ?_
      refine r_getf (pc' := 42) fl_RX5_63 (dk_at dkX5_setObjective 19 rfl) hN.obj rfl rfl ?_
      refine q_iload_n (pc' := 43) (dk_at dkX5_setObjective 20 rfl) rfl rfl ?_
      refine r_putf (pc' := 46) fp_RX5_125 (dk_at dkX5_setObjective 21 rfl) hQ.obj (Nat.le_of_ble_eq_true rfl) (PT_int _) rfl (fun hh3 ehh3 => ?_)
      have hB := hB.off ehh3 (by omega)
      have hN := hN.off ehh3 (by omega)
      have hQ := hQ.w_obj ehh3
      have hK := hK.off ehh3 (by omega)
      have hZ := hZ.off ehh3 (by omega)
      have hR := hR.off ehh3 (by omega)
      have hF := hF.put ehh3 (by omega)
      refine q_aload_n (pc' := 47) (dk_at dkX5_setObjective 22 rfl) rfl rfl ?_
      refine r_getf (pc' := 50) fl_RX5_10 (dk_at dkX5_setObjective 23 rfl) hB.obj rfl rfl ?_
      refine q_iconst (pc' := 51) (dk_at dkX5_setObjective 24 rfl) rfl ?_
      refine r_putf (pc' := 54) fp_RX5_82 (dk_at dkX5_setObjective 25 rfl) hN.obj (Nat.le_of_ble_eq_true rfl) (PT_bool (by omega)) rfl (fun hh4 ehh4 => ?_)
      have hB := hB.off ehh4 (by omega)
      have hN := hN.w_obj ehh4
      have hQ := hQ.off ehh4 (by omega)
      have hK := hK.off ehh4 (by omega)
      have hZ := hZ.off ehh4 (by omega)
      have hR := hR.off ehh4 (by omega)
      have hF := hF.put ehh4 (by omega)
      refine q_iload_n (pc' := 55) (dk_at dkX5_setObjective 26 rfl) rfl rfl ?_
      refine x_iret rfl (dk_at dkX5_setObjective 27 rfl) ?_
      exact ⟨_, rfl, by omega, rfl, ⟨hB, ⟨hN, hQ, hK⟩, hZ, hR⟩, hF⟩
    · refine q_throw (cls := "java/lang/IllegalArgumentException") (text := "objective is out of range") th_IAE rfl rfl (by decide +kernel) (by omega) (Nat.le_of_ble_eq_true rfl) (dk_at dkX5_setObjective 5 rfl) (dk_at dkX5_setObjective 6 rfl) (dk_at dkX5_setObjective 7 rfl) (dk_at dkX5_setObjective 8 rfl) (dk_at dkX5_setObjective 9 rfl) ?_
      exact ⟨rfl, rfl, by omega⟩

set_option maxHeartbeats 4000000 in
set_option maxRecDepth 100000 in
theorem k_BM_append {d n : Nat} {h : PH} {b : Nat} {S : Shp} {P : PlS} {kn bs : Int} {sv tl : Nat} {x : Nat → Snp} {tx : Nat → Int} {v0 : Int} (hd : 20 ≤ d) (hI : BMI n h b ((S, P, kn, bs), sv, x, tx, tl)) (hO : BOk ((S, P, kn, bs), sv, x, tx, tl)) (hi1 : IR v0) : CtrX mX5_append d [vR b, vI v0] n h (fun r h' => ∃ v, r = some (vI v) ∧ (0 ≤ v0 ∧ v0 ≤ 127) ∧ tl < 60 ∧ v = (tl : Int) + 1 ∧ BMI n h' b ((S, P, kn, bs), sv, x, upz tx tl v0, tl + 1) ∧ Fr h h' b (b + 149)) (fun E h' => h' = h ∧ ((E = "java/lang/IllegalArgumentException" ∧ ¬ (0 ≤ v0 ∧ v0 ≤ 127)) ∨ (E = "java/lang/IllegalStateException" ∧ (0 ≤ v0 ∧ v0 ≤ 127) ∧ tl = 60))) := by
  obtain ⟨hB, hSt, hZ, hR⟩ := hI
  have hB : isBM n h b (sv : Int) tx (tl : Int) := hB
  obtain ⟨hN, hQ, hK⟩ := hSt
  have hN : isState n h (b + 1) kn bs := hN
  have hQ : isShp n h (b + 2) S := hQ
  have hK : isPlS n h (b + 15) P := hK
  have hZ : SvI n h b x := hZ
  obtain ⟨hk, hsv, hks, htl, htx⟩ := hO
  have hk : SnOk (S, P, kn, bs) := hk
  have hsv : sv ≤ 4 := hsv
  have htl : tl ≤ 60 := htl
  have htx : ∀ i, 0 ≤ tx i ∧ tx i ≤ 127 := htx
  have hk1 : Sok S := hk.1
  have hc8 := hk1.c
  have hkp : Pok S.cnt P.od P.en P.bc P.sz := hk.2.1
  have hp8 : P.sz ≤ 8 := hkp.1
  have hpb : P.bc ≤ P.sz := hkp.2.1
  have hkb : Bst S kn bs := hk.2.2
  have hkn := hkb.1
  have hF : Fr h h b (b + 149) := Fr.rf
  refine q_beginX (L := [some (vR b), some (vI v0)]) rfl ?_
  refine q_iload_n (pc' := 1) (dk_at dkX5_append 0 rfl) rfl rfl ?_
  refine q_if_lt (tgt := 10) (pc' := 4) (dk_at dkX5_append 1 rfl) rfl rfl (by omega) (fun c1 => ?_) (fun c1 => ?_)
  · refine q_throw (cls := "java/lang/IllegalArgumentException") (text := "value is out of range") th_IAE rfl rfl (by decide +kernel) (by omega) (Nat.le_of_ble_eq_true rfl) (dk_at dkX5_append 5 rfl) (dk_at dkX5_append 6 rfl) (dk_at dkX5_append 7 rfl) (dk_at dkX5_append 8 rfl) (dk_at dkX5_append 9 rfl) ?_
    exact ⟨rfl, Or.inl ⟨rfl, by omega⟩⟩
  · refine q_iload_n (pc' := 5) (dk_at dkX5_append 2 rfl) rfl rfl ?_
    refine q_bipush (pc' := 7) (dk_at dkX5_append 3 rfl) (by decide +kernel) rfl ?_
    refine q_icmp_le (tgt := 20) (pc' := 10) (dk_at dkX5_append 4 rfl) rfl rfl (by omega) (by omega) (fun c7 => ?_) (fun c7 => ?_)
    · refine q_aload_n (pc' := 21) (dk_at dkX5_append 10 rfl) rfl rfl ?_
      refine r_getf (pc' := 24) fl_RX5_130 (dk_at dkX5_append 11 rfl) hB.obj rfl rfl ?_
      refine q_bipush (pc' := 26) (dk_at dkX5_append 12 rfl) (by decide +kernel) rfl ?_
      refine q_icmp_lt (tgt := 39) (pc' := 29) (dk_at dkX5_append 13 rfl) rfl rfl (by omega) (by omega) (fun c26 => ?_) (fun c26 => ?_)
      · refine q_aload_n (pc' := 40) (dk_at dkX5_append 19 rfl) rfl rfl ?_
        refine r_getf (pc' := 43) fl_RX5_20 (dk_at dkX5_append 20 rfl) hB.obj rfl rfl ?_
        refine q_aload_n (pc' := 44) (dk_at dkX5_append 21 rfl) rfl rfl ?_
        refine r_getf (pc' := 47) fl_RX5_130 (dk_at dkX5_append 22 rfl) hB.obj rfl rfl ?_
        refine q_iload_n (pc' := 48) (dk_at dkX5_append 23 rfl) rfl rfl ?_
        refine r_iast (pc' := 49) (dk_at dkX5_append 24 rfl) hB.text tl (by omega) (by omega) (by decide) rfl (fun hh1 ehh1 => ?_)
        have hB := hB.w_text ehh1
        have hN := hN.off ehh1 (by omega)
        have hQ := hQ.off ehh1 (by omega)
        have hK := hK.off ehh1 (by omega)
        have hZ := hZ.off ehh1 (by omega)
        have hR := hR.off ehh1 (by omega)
        have hF := hF.put ehh1 (by omega)
        refine q_aload_n (pc' := 50) (dk_at dkX5_append 25 rfl) rfl rfl ?_
        refine q_aload_n (pc' := 51) (dk_at dkX5_append 26 rfl) rfl rfl ?_
        refine r_getf (pc' := 54) fl_RX5_130 (dk_at dkX5_append 27 rfl) hB.obj rfl rfl ?_
        refine q_iconst (pc' := 55) (dk_at dkX5_append 28 rfl) rfl ?_
        refine q_iadd (pc' := 56) (dk_at dkX5_append 29 rfl) rfl ?_
        refine r_putf (pc' := 59) fp_RX5_130 (dk_at dkX5_append 30 rfl) hB.obj (Nat.le_of_ble_eq_true rfl) (PT_int _) rfl (fun hh2 ehh2 => ?_)
        have hB := hB.w_obj ehh2
        have hN := hN.off ehh2 (by omega)
        have hQ := hQ.off ehh2 (by omega)
        have hK := hK.off ehh2 (by omega)
        have hZ := hZ.off ehh2 (by omega)
        have hR := hR.off ehh2 (by omega)
        have hF := hF.put ehh2 (by omega)
        refine q_aload_n (pc' := 60) (dk_at dkX5_append 31 rfl) rfl rfl ?_
        refine r_getf (pc' := 63) fl_RX5_130 (dk_at dkX5_append 32 rfl) hB.obj rfl rfl ?_
        refine x_iret rfl (dk_at dkX5_append 33 rfl) ?_
        exact ⟨_, rfl, by omega, by omega, rfl, ⟨hB, ⟨hN, hQ, hK⟩, hZ, hR⟩, hF⟩
      · refine q_throw (cls := "java/lang/IllegalStateException") (text := "the text has 60 bytes") th_ISE rfl rfl (by decide +kernel) (by omega) (Nat.le_of_ble_eq_true rfl) (dk_at dkX5_append 14 rfl) (dk_at dkX5_append 15 rfl) (dk_at dkX5_append 16 rfl) (dk_at dkX5_append 17 rfl) (dk_at dkX5_append 18 rfl) ?_
        exact ⟨rfl, Or.inr ⟨rfl, by omega, by omega⟩⟩
    · refine q_throw (cls := "java/lang/IllegalArgumentException") (text := "value is out of range") th_IAE rfl rfl (by decide +kernel) (by omega) (Nat.le_of_ble_eq_true rfl) (dk_at dkX5_append 5 rfl) (dk_at dkX5_append 6 rfl) (dk_at dkX5_append 7 rfl) (dk_at dkX5_append 8 rfl) (dk_at dkX5_append 9 rfl) ?_
      exact ⟨rfl, Or.inl ⟨rfl, by omega⟩⟩

set_option maxHeartbeats 4000000 in
set_option maxRecDepth 100000 in
theorem k_BM_clearText2 {d n : Nat} {h : PH} {b : Nat} {S : Shp} {P : PlS} {kn bs : Int} {sv tl : Nat} {x : Nat → Snp} {tx : Nat → Int}  (hd : 20 ≤ d) (hI : BMI n h b ((S, P, kn, bs), sv, x, tx, tl)) (hO : BOk ((S, P, kn, bs), sv, x, tx, tl))  : CtrI mX5_clearText d [vR b] n h (fun v h' => v = (tl : Int) ∧ BMI n h' b ((S, P, kn, bs), sv, x, tx, 0) ∧ Fr h h' b (b + 149)) := by
  obtain ⟨hB, hSt, hZ, hR⟩ := hI
  have hB : isBM n h b (sv : Int) tx (tl : Int) := hB
  obtain ⟨hN, hQ, hK⟩ := hSt
  have hN : isState n h (b + 1) kn bs := hN
  have hQ : isShp n h (b + 2) S := hQ
  have hK : isPlS n h (b + 15) P := hK
  have hZ : SvI n h b x := hZ
  obtain ⟨hk, hsv, hks, htl, htx⟩ := hO
  have hk : SnOk (S, P, kn, bs) := hk
  have hsv : sv ≤ 4 := hsv
  have htl : tl ≤ 60 := htl
  have htx : ∀ i, 0 ≤ tx i ∧ tx i ≤ 127 := htx
  have hk1 : Sok S := hk.1
  have hc8 := hk1.c
  have hkp : Pok S.cnt P.od P.en P.bc P.sz := hk.2.1
  have hp8 : P.sz ≤ 8 := hkp.1
  have hpb : P.bc ≤ P.sz := hkp.2.1
  have hkb : Bst S kn bs := hk.2.2
  have hkn := hkb.1
  have hF : Fr h h b (b + 149) := Fr.rf
  refine q_beginI (L := [some (vR b), none]) rfl ?_
  refine q_aload_n (pc' := 1) (dk_at dkX5_clearText 0 rfl) rfl rfl ?_
  refine r_getf (pc' := 4) fl_RX5_130 (dk_at dkX5_clearText 1 rfl) hB.obj rfl rfl ?_
  refine q_istore_n (pc' := 5) (L' := [some (vR b), some (vI (tl : Int))]) (dk_at dkX5_clearText 2 rfl) (by decide) rfl rfl ?_
  refine q_aload_n (pc' := 6) (dk_at dkX5_clearText 3 rfl) rfl rfl ?_
  refine q_iconst (pc' := 7) (dk_at dkX5_clearText 4 rfl) rfl ?_
  refine r_putf (pc' := 10) fp_RX5_130 (dk_at dkX5_clearText 5 rfl) hB.obj (Nat.le_of_ble_eq_true rfl) (PT_int _) rfl (fun hh1 ehh1 => ?_)
  have hB := hB.w_obj ehh1
  have hN := hN.off ehh1 (by omega)
  have hQ := hQ.off ehh1 (by omega)
  have hK := hK.off ehh1 (by omega)
  have hZ := hZ.off ehh1 (by omega)
  have hR := hR.off ehh1 (by omega)
  have hF := hF.put ehh1 (by omega)
  refine q_iload_n (pc' := 11) (dk_at dkX5_clearText 6 rfl) rfl rfl ?_
  refine r_iret rfl (dk_at dkX5_clearText 7 rfl) ?_
  exact ⟨rfl, ⟨hB, ⟨hN, hQ, hK⟩, hZ, hR⟩, hF⟩

set_option maxHeartbeats 4000000 in
set_option maxRecDepth 100000 in
theorem k_BM_jobAt {d n : Nat} {h : PH} {b : Nat} {S : Shp} {P : PlS} {kn bs : Int} {sv tl : Nat} {x : Nat → Snp} {tx : Nat → Int} {i0 k0 : Int} (hd : 20 ≤ d) (hI : BMI n h b ((S, P, kn, bs), sv, x, tx, tl)) (hO : BOk ((S, P, kn, bs), sv, x, tx, tl)) (hi1 : IR i0) (hi2 : IR k0) : CtrX mX5_jobAt d [vR b, vI i0, vI k0] n h (fun r h' => ∃ v, r = some (vI v) ∧ (0 ≤ i0 ∧ i0 < (P.bc : Int)) ∧ (0 ≤ k0 ∧ k0 < P.en i0.toNat - ((bgn P.en i0.toNat : Nat) : Int)) ∧ v = P.od (bgn P.en i0.toNat + k0.toNat) ∧ h' = h) (fun E h' => h' = h ∧ E = "java/lang/IndexOutOfBoundsException" ∧ ¬ ((0 ≤ i0 ∧ i0 < (P.bc : Int)) ∧ (0 ≤ k0 ∧ k0 < P.en i0.toNat - ((bgn P.en i0.toNat : Nat) : Int)))) := by
  obtain ⟨hB, hSt, hZ, hR⟩ := hI
  have hB : isBM n h b (sv : Int) tx (tl : Int) := hB
  obtain ⟨hN, hQ, hK⟩ := hSt
  have hN : isState n h (b + 1) kn bs := hN
  have hQ : isShp n h (b + 2) S := hQ
  have hK : isPlS n h (b + 15) P := hK
  have hZ : SvI n h b x := hZ
  obtain ⟨hk, hsv, hks, htl, htx⟩ := hO
  have hk : SnOk (S, P, kn, bs) := hk
  have hsv : sv ≤ 4 := hsv
  have htl : tl ≤ 60 := htl
  have htx : ∀ i, 0 ≤ tx i ∧ tx i ≤ 127 := htx
  have hk1 : Sok S := hk.1
  have hc8 := hk1.c
  have hkp : Pok S.cnt P.od P.en P.bc P.sz := hk.2.1
  have hp8 : P.sz ≤ 8 := hkp.1
  have hpb : P.bc ≤ P.sz := hkp.2.1
  have hkb : Bst S kn bs := hk.2.2
  have hkn := hkb.1
  have hF : Fr h h b (b + 149) := Fr.rf
  refine q_beginX (L := [some (vR b), some (vI i0), some (vI k0)]) rfl ?_
  refine q_iload_n (pc' := 1) (dk_at dkX5_jobAt 0 rfl) rfl rfl ?_
  refine q_if_lt (tgt := 37) (pc' := 4) (dk_at dkX5_jobAt 1 rfl) rfl rfl (by omega) (fun c1 => ?_) (fun c1 => ?_)
  · refine q_throw (cls := "java/lang/IndexOutOfBoundsException") (text := "there is no such batch or place") th_IOB rfl rfl (by decide +kernel) (by omega) (Nat.le_of_ble_eq_true rfl) (dk_at dkX5_jobAt 17 rfl) (dk_at dkX5_jobAt 18 rfl) (dk_at dkX5_jobAt 19 rfl) (dk_at dkX5_jobAt 20 rfl) (dk_at dkX5_jobAt 21 rfl) ?_
    exact ⟨rfl, rfl, by omega⟩
  · refine q_iload_n (pc' := 5) (dk_at dkX5_jobAt 2 rfl) rfl rfl ?_
    refine q_aload_n (pc' := 6) (dk_at dkX5_jobAt 3 rfl) rfl rfl ?_
    refine r_getf (pc' := 9) fl_RX5_10 (dk_at dkX5_jobAt 4 rfl) hB.obj rfl rfl ?_
    refine r_getf (pc' := 12) fl_RX5_99 (dk_at dkX5_jobAt 5 rfl) hN.obj rfl rfl ?_
    refine r_getf (pc' := 15) fl_RX5_143 (dk_at dkX5_jobAt 6 rfl) hK.obj rfl rfl ?_
    refine q_icmp_ge (tgt := 37) (pc' := 18) (dk_at dkX5_jobAt 7 rfl) rfl rfl (by omega) (by omega) (fun c15 => ?_) (fun c15 => ?_)
    · refine q_throw (cls := "java/lang/IndexOutOfBoundsException") (text := "there is no such batch or place") th_IOB rfl rfl (by decide +kernel) (by omega) (Nat.le_of_ble_eq_true rfl) (dk_at dkX5_jobAt 17 rfl) (dk_at dkX5_jobAt 18 rfl) (dk_at dkX5_jobAt 19 rfl) (dk_at dkX5_jobAt 20 rfl) (dk_at dkX5_jobAt 21 rfl) ?_
      exact ⟨rfl, rfl, by omega⟩
    · obtain ⟨bi, rfl⟩ : ∃ z : Nat, i0 = (z : Int) := ⟨i0.toNat, by omega⟩
      have hbi := hkp.bgi (b := bi) (by omega)
      have hbv := hkp.val bi (by omega)
      have hb8 := hkp.1
      have hb9 := hkp.2.1
      refine q_iload_n (pc' := 19) (dk_at dkX5_jobAt 8 rfl) rfl rfl ?_
      refine q_if_lt (tgt := 37) (pc' := 22) (dk_at dkX5_jobAt 9 rfl) rfl rfl (by omega) (fun c19 => ?_) (fun c19 => ?_)
      · refine q_throw (cls := "java/lang/IndexOutOfBoundsException") (text := "there is no such batch or place") th_IOB rfl rfl (by decide +kernel) (by omega) (Nat.le_of_ble_eq_true rfl) (dk_at dkX5_jobAt 17 rfl) (dk_at dkX5_jobAt 18 rfl) (dk_at dkX5_jobAt 19 rfl) (dk_at dkX5_jobAt 20 rfl) (dk_at dkX5_jobAt 21 rfl) ?_
        exact ⟨rfl, rfl, by intro z; simp only [Int.toNat_natCast] at z; omega⟩
      · refine q_iload_n (pc' := 23) (dk_at dkX5_jobAt 10 rfl) rfl rfl ?_
        refine q_aload_n (pc' := 24) (dk_at dkX5_jobAt 11 rfl) rfl rfl ?_
        refine r_getf (pc' := 27) fl_RX5_10 (dk_at dkX5_jobAt 12 rfl) hB.obj rfl rfl ?_
        refine r_getf (pc' := 30) fl_RX5_99 (dk_at dkX5_jobAt 13 rfl) hN.obj rfl rfl ?_
        refine q_iload_n (pc' := 31) (dk_at dkX5_jobAt 14 rfl) rfl rfl ?_
        refine r_cVI (pc' := 34) (As := [vI (bi : Int)]) (S := [vI k0]) cv_RX5_178 (dk_at dkX5_jobAt 15 rfl) hK.obj rfl (k_Plan_lengthOf (d := 1) (i := bi) (by omega) hK (by omega)) (by omega) (Nat.zero_le _) (Nat.zero_le _) rfl (Nat.le_of_ble_eq_true rfl) rfl (Nat.le_of_ble_eq_true rfl) rfl (fun xx1 hh2 hphh2 => ?_)
        obtain ⟨qq3, hxxx1⟩ := hphh2
        subst qq3
        rw [hbi] at hxxx1
        refine q_icmp_lt (tgt := 47) (pc' := 37) (dk_at dkX5_jobAt 16 rfl) rfl rfl (by omega) (by omega) (fun c34 => ?_) (fun c34 => ?_)
        · refine q_aload_n (pc' := 48) (dk_at dkX5_jobAt 22 rfl) rfl rfl ?_
          refine r_getf (pc' := 51) fl_RX5_10 (dk_at dkX5_jobAt 23 rfl) hB.obj rfl rfl ?_
          refine r_getf (pc' := 54) fl_RX5_99 (dk_at dkX5_jobAt 24 rfl) hN.obj rfl rfl ?_
          refine r_getf (pc' := 57) fl_RX5_184 (dk_at dkX5_jobAt 25 rfl) hK.obj rfl rfl ?_
          refine q_aload_n (pc' := 58) (dk_at dkX5_jobAt 26 rfl) rfl rfl ?_
          refine r_getf (pc' := 61) fl_RX5_10 (dk_at dkX5_jobAt 27 rfl) hB.obj rfl rfl ?_
          refine r_getf (pc' := 64) fl_RX5_99 (dk_at dkX5_jobAt 28 rfl) hN.obj rfl rfl ?_
          refine q_iload_n (pc' := 65) (dk_at dkX5_jobAt 29 rfl) rfl rfl ?_
          refine r_cVI (pc' := 68) (As := [vI (bi : Int)]) (S := [vR ((b + 15) + 1)]) cv_RX5_187 (dk_at dkX5_jobAt 30 rfl) hK.obj rfl (k_Plan_beginOf (d := 1) (i := bi) hK (by omega)) (by omega) (Nat.zero_le _) (Nat.zero_le _) rfl (Nat.le_of_ble_eq_true rfl) rfl (Nat.le_of_ble_eq_true rfl) rfl (fun xx4 hh5 hphh5 => ?_)
          obtain ⟨qq6, hxxx4⟩ := hphh5
          subst qq6
          rw [hbi] at hxxx4
          refine q_iload_n (pc' := 69) (dk_at dkX5_jobAt 31 rfl) rfl rfl ?_
          refine q_iadd (pc' := 70) (dk_at dkX5_jobAt 32 rfl) rfl ?_
          refine r_iald (pc' := 71) (dk_at dkX5_jobAt 33 rfl) hK.order (((xx4 + k0)).toNat) (by omega) (by omega) (by decide) rfl ?_
          refine x_iret rfl (dk_at dkX5_jobAt 34 rfl) ?_
          refine ⟨_, rfl, by omega, ?_, ?_, rfl⟩
          · simp only [Int.toNat_natCast]
            omega
          · congr 1
            show _ = bgn P.en bi + _
            omega
        · refine q_throw (cls := "java/lang/IndexOutOfBoundsException") (text := "there is no such batch or place") th_IOB rfl rfl (by decide +kernel) (by omega) (Nat.le_of_ble_eq_true rfl) (dk_at dkX5_jobAt 17 rfl) (dk_at dkX5_jobAt 18 rfl) (dk_at dkX5_jobAt 19 rfl) (dk_at dkX5_jobAt 20 rfl) (dk_at dkX5_jobAt 21 rfl) ?_
          exact ⟨rfl, rfl, by intro z; simp only [Int.toNat_natCast] at z; omega⟩
