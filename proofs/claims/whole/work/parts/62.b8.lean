/-! BatchMachine: the calls on jobs and settings -/
/-- a truth as a number -/
def YN (x : Int) (p : Prop) : Prop := (x = 1 ∧ p) ∨ (x = 0 ∧ ¬ p)
theorem YN.r {x : Int} {p : Prop} (h : YN x p) : x = 0 ∨ x = 1 := by rcases h with h | h <;> omega
theorem YN.t {x : Int} {p : Prop} (h : YN x p) (hx : ¬ x = 0) : p := by
  rcases h with h | h
  · exact h.2
  · exact absurd h.1 hx
theorem YN.f {x : Int} {p : Prop} (h : YN x p) (hx : x = 0) : ¬ p := by
  rcases h with h | h
  · omega
  · exact h.2
/-- a value of kind w that a job may have -/
def vOk (w : Int) (v : Int) : Prop := (0 ≤ w ∧ w < 5) ∧ rowLo w.toNat ≤ v ∧ v ≤ rowHi w.toNat
def jOk (S : Shp) (j : Int) : Prop := 0 ≤ j ∧ j < (S.cnt : Int)
theorem k_BM_isJobY {d n : Nat} {h : PH} {b : Nat} {S : Shp} {sv tl kn bs job : Int} {tx : Nat → Int} (hc8 : S.cnt ≤ 8) (hj : IR job) (hB : isBM n h b sv tx tl) (hN : isState n h (b + 1) kn bs) (hQ : isShp n h (b + 2) S) : CtrI mX5_isJob d [vR b, vI job] n h (fun x h' => h' = h ∧ YN x (jOk S job)) := by
  refine (k_BM_isJob hc8 hj hB hN hQ).mono (fun x h' z => ⟨z.1, ?_⟩)
  unfold YN jOk
  by_cases q : 0 ≤ job ∧ job < (S.cnt : Int)
  · rw [z.2, if_pos q]; exact Or.inl ⟨rfl, q⟩
  · rw [z.2, if_neg q]; exact Or.inr ⟨rfl, q⟩
theorem row_r (w : Nat) : (0 ≤ rowLo w ∧ rowLo w ≤ 1) ∧ (0 ≤ rowHi w ∧ rowHi w ≤ 500) := by
  unfold rowLo rowHi
  refine ⟨?_, ?_⟩
  · split <;> omega
  · split <;> omega
set_option maxHeartbeats 4000000 in
set_option maxRecDepth 100000 in
theorem k_BM_isValue {d n : Nat} {h : PH} {w v : Int} (hw : IR w) (hv : IR v) : CtrI mX5_isValue d [vI w, vI v] n h (fun x h' => h' = h ∧ YN x (vOk w v)) := by
  refine q_beginI (L := [some (vI w), some (vI v)]) rfl ?_
  refine q_iload_n (pc' := 1) (dk_at dkX5_isValue 0 rfl) rfl rfl ?_
  refine q_if_lt (tgt := 31) (pc' := 4) (dk_at dkX5_isValue 1 rfl) rfl rfl (by omega) (fun c1 => ?_) (fun c1 => ?_)
  · refine q_iconst (pc' := 32) (dk_at dkX5_isValue 17 rfl) rfl ?_
    refine r_zret rfl (by omega) (dk_at dkX5_isValue 18 rfl) ?_
    exact ⟨rfl, Or.inr ⟨rfl, fun z => by unfold vOk at z; omega⟩⟩
  · refine q_iload_n (pc' := 5) (dk_at dkX5_isValue 2 rfl) rfl rfl ?_
    refine q_iconst (pc' := 6) (dk_at dkX5_isValue 3 rfl) rfl ?_
    refine q_icmp_ge (tgt := 31) (pc' := 9) (dk_at dkX5_isValue 4 rfl) rfl rfl (by omega) (by omega) (fun c6 => ?_) (fun c6 => ?_)
    · refine q_iconst (pc' := 32) (dk_at dkX5_isValue 17 rfl) rfl ?_
      refine r_zret rfl (by omega) (dk_at dkX5_isValue 18 rfl) ?_
      exact ⟨rfl, Or.inr ⟨rfl, fun z => by unfold vOk at z; omega⟩⟩
    · refine q_iload_n (pc' := 10) (dk_at dkX5_isValue 5 rfl) rfl rfl ?_
      refine q_lo (pc' := 15) (x0 := 0) w.toNat (by omega) (by omega) gs_RX5_239 (dk_at dkX5_isValue 6 rfl) (dk_at dkX5_isValue 7 rfl) (dk_at dkX5_isValue 8 rfl) rfl rfl ?_
      have b10 := row_r w.toNat
      refine q_icmp_lt (tgt := 31) (pc' := 18) (dk_at dkX5_isValue 9 rfl) rfl rfl (by omega) (by omega) (fun c15 => ?_) (fun c15 => ?_)
      · refine q_iconst (pc' := 32) (dk_at dkX5_isValue 17 rfl) rfl ?_
        refine r_zret rfl (by omega) (dk_at dkX5_isValue 18 rfl) ?_
        exact ⟨rfl, Or.inr ⟨rfl, fun z => by unfold vOk at z; omega⟩⟩
      · refine q_iload_n (pc' := 19) (dk_at dkX5_isValue 10 rfl) rfl rfl ?_
        refine q_hi (pc' := 24) (x0 := 0) w.toNat (by omega) (by omega) gs_RX5_242 (dk_at dkX5_isValue 11 rfl) (dk_at dkX5_isValue 12 rfl) (dk_at dkX5_isValue 13 rfl) rfl rfl ?_
        have b19 := row_r w.toNat
        refine q_icmp_gt (tgt := 31) (pc' := 27) (dk_at dkX5_isValue 14 rfl) rfl rfl (by omega) (by omega) (fun c24 => ?_) (fun c24 => ?_)
        · refine q_iconst (pc' := 32) (dk_at dkX5_isValue 17 rfl) rfl ?_
          refine r_zret rfl (by omega) (dk_at dkX5_isValue 18 rfl) ?_
          exact ⟨rfl, Or.inr ⟨rfl, fun z => by unfold vOk at z; omega⟩⟩
        · refine q_iconst (pc' := 28) (dk_at dkX5_isValue 15 rfl) rfl ?_
          refine q_goto (tgt := 32) (dk_at dkX5_isValue 16 rfl) rfl ?_
          refine r_zret rfl (by omega) (dk_at dkX5_isValue 18 rfl) ?_
          exact ⟨rfl, Or.inl ⟨rfl, ⟨by omega, by omega⟩, by omega, by omega⟩⟩

def addV (V : Nat → Nat → Int) (c : Nat) (f t r u w : Int) : Nat → Nat → Int := fun k j => if j = c then (if k = 0 then f else if k = 1 then t else if k = 2 then r else if k = 3 then u else if k = 4 then w else V k j) else V k j
def Shp.add (S : Shp) (f t r u w : Int) : Shp := (S.cnt + 1, addV S.V S.cnt f t r u w, S.T, S.wh, S.er, S.ob)
theorem isShop.cong {n : Nat} {h : PH} {b : Nat} {c : Int} {V V' T T' : Nat → Nat → Int} {wh er ob : Int} (H : isShop n h b c V T wh er ob) (hV : ∀ i, i < 5 → V i = V' i) (hT : ∀ i, i < 5 → T i = T' i) : isShop n h b c V' T' wh er ob :=
  ⟨H.1, H.2.1, fun i hi => by rw [← hV i hi]; exact H.2.2.1 i hi, H.2.2.2.1, fun i hi => by rw [← hT i hi]; exact H.2.2.2.2 i hi⟩
def aOk (f t r u w : Int) : Prop := vOk 0 f ∧ vOk 1 t ∧ vOk 2 r ∧ vOk 3 u ∧ vOk 4 w
set_option maxHeartbeats 4000000 in
set_option maxRecDepth 100000 in
theorem k_BM_addJob {d n : Nat} {h : PH} {b : Nat} {S : Shp} {P : PlS} {kn bs : Int} {sv tl : Nat} {x : Nat → Snp} {tx : Nat → Int} {f t r0 u w : Int} (hd : 20 ≤ d) (hI : BMI n h b ((S, P, kn, bs), sv, x, tx, tl)) (hO : BOk ((S, P, kn, bs), sv, x, tx, tl)) (hi1 : IR f) (hi2 : IR t) (hi3 : IR r0) (hi4 : IR u) (hi5 : IR w) : CtrX mX5_addJob d [vR b, vI f, vI t, vI r0, vI u, vI w] n h (fun r h' => ∃ v, r = some (vI v) ∧ aOk f t r0 u w ∧ S.cnt < 8 ∧ v = (S.cnt : Int) ∧ BMI n h' b ((S.add f t r0 u w, P, 0, bs), pshN sv, (pshX sv x (S, P, kn, bs)), tx, tl) ∧ Fr h h' b (b + 149)) (fun E h' => h' = h ∧ ((E = "java/lang/IllegalArgumentException" ∧ ¬ aOk f t r0 u w) ∨ (E = "java/lang/IllegalStateException" ∧ aOk f t r0 u w ∧ S.cnt = 8))) := by
  obtain ⟨hB, hSt, hZ, hR⟩ := hI
  have hB : isBM n h b (sv : Int) tx (tl : Int) := hB
  obtain ⟨hN, hQ, hK⟩ := hSt
  have hN : isState n h (b + 1) kn bs := hN
  have hQ : isShp n h (b + 2) S := hQ
  have hK : isPlS n h (b + 15) P := hK
  have hZ : SvI n h b x := hZ
  obtain ⟨hk, hsv, hks, htl, htx⟩ := hO
  have hk : SnOk (S, P, kn, bs) := hk
  have hsv : sv ≤ 4 := hsv
  have htl : tl ≤ 60 := htl
  have htx : ∀ i, 0 ≤ tx i ∧ tx i ≤ 127 := htx
  have hk1 : Sok S := hk.1
  have hc8 := hk1.c
  have hkp : Pok S.cnt P.od P.en P.bc P.sz := hk.2.1
  have hkb : Bst S kn bs := hk.2.2
  have hkn := hkb.1
  have hF : Fr h h b (b + 149) := Fr.rf
  refine q_beginX (L := [some (vR b), some (vI f), some (vI t), some (vI r0), some (vI u), some (vI w), none]) rfl ?_
  refine q_iconst (pc' := 1) (dk_at dkX5_addJob 0 rfl) rfl ?_
  refine q_iload_n (pc' := 2) (dk_at dkX5_addJob 1 rfl) rfl rfl ?_
  refine r_cSI (pc' := 5) (As := [vI 0, vI f]) (S := []) cs_RX5_52 (dk_at dkX5_addJob 2 rfl) (k_BM_isValue (d := 0) (w := 0) (v := f) (by omega) (by omega)) (by omega) (Nat.zero_le _) (Nat.zero_le _) rfl (Nat.le_of_ble_eq_true rfl) rfl (Nat.le_of_ble_eq_true rfl) rfl (fun xx1 hh2 hphh2 => ?_)
  obtain ⟨qq3, y2⟩ := hphh2
  subst qq3
  have yr2 := y2.r
  refine q_if_eq (tgt := 42) (pc' := 8) (dk_at dkX5_addJob 3 rfl) rfl rfl (by omega) (fun c5 => ?_) (fun c5 => ?_)
  · refine q_throw (cls := "java/lang/IllegalArgumentException") (text := "a value of the job is out of range") th_IAE rfl rfl (by decide +kernel) (by omega) (Nat.le_of_ble_eq_true rfl) (dk_at dkX5_addJob 20 rfl) (dk_at dkX5_addJob 21 rfl) (dk_at dkX5_addJob 22 rfl) (dk_at dkX5_addJob 23 rfl) (dk_at dkX5_addJob 24 rfl) ?_
    exact ⟨rfl, Or.inl ⟨rfl, fun z => y2.f c5 z.1⟩⟩
  · refine q_iconst (pc' := 9) (dk_at dkX5_addJob 4 rfl) rfl ?_
    refine q_iload_n (pc' := 10) (dk_at dkX5_addJob 5 rfl) rfl rfl ?_
    refine r_cSI (pc' := 13) (As := [vI 1, vI t]) (S := []) cs_RX5_52 (dk_at dkX5_addJob 6 rfl) (k_BM_isValue (d := 0) (w := 1) (v := t) (by omega) (by omega)) (by omega) (Nat.zero_le _) (Nat.zero_le _) rfl (Nat.le_of_ble_eq_true rfl) rfl (Nat.le_of_ble_eq_true rfl) rfl (fun xx4 hh5 hphh5 => ?_)
    obtain ⟨qq6, y10⟩ := hphh5
    subst qq6
    have yr10 := y10.r
    refine q_if_eq (tgt := 42) (pc' := 16) (dk_at dkX5_addJob 7 rfl) rfl rfl (by omega) (fun c13 => ?_) (fun c13 => ?_)
    · refine q_throw (cls := "java/lang/IllegalArgumentException") (text := "a value of the job is out of range") th_IAE rfl rfl (by decide +kernel) (by omega) (Nat.le_of_ble_eq_true rfl) (dk_at dkX5_addJob 20 rfl) (dk_at dkX5_addJob 21 rfl) (dk_at dkX5_addJob 22 rfl) (dk_at dkX5_addJob 23 rfl) (dk_at dkX5_addJob 24 rfl) ?_
      exact ⟨rfl, Or.inl ⟨rfl, fun z => y10.f c13 z.2.1⟩⟩
    · refine q_iconst (pc' := 17) (dk_at dkX5_addJob 8 rfl) rfl ?_
      refine q_iload_n (pc' := 18) (dk_at dkX5_addJob 9 rfl) rfl rfl ?_
      refine r_cSI (pc' := 21) (As := [vI 2, vI r0]) (S := []) cs_RX5_52 (dk_at dkX5_addJob 10 rfl) (k_BM_isValue (d := 0) (w := 2) (v := r0) (by omega) (by omega)) (by omega) (Nat.zero_le _) (Nat.zero_le _) rfl (Nat.le_of_ble_eq_true rfl) rfl (Nat.le_of_ble_eq_true rfl) rfl (fun xx7 hh8 hphh8 => ?_)
      obtain ⟨qq9, y18⟩ := hphh8
      subst qq9
      have yr18 := y18.r
      refine q_if_eq (tgt := 42) (pc' := 24) (dk_at dkX5_addJob 11 rfl) rfl rfl (by omega) (fun c21 => ?_) (fun c21 => ?_)
      · refine q_throw (cls := "java/lang/IllegalArgumentException") (text := "a value of the job is out of range") th_IAE rfl rfl (by decide +kernel) (by omega) (Nat.le_of_ble_eq_true rfl) (dk_at dkX5_addJob 20 rfl) (dk_at dkX5_addJob 21 rfl) (dk_at dkX5_addJob 22 rfl) (dk_at dkX5_addJob 23 rfl) (dk_at dkX5_addJob 24 rfl) ?_
        exact ⟨rfl, Or.inl ⟨rfl, fun z => y18.f c21 z.2.2.1⟩⟩
      · refine q_iconst (pc' := 25) (dk_at dkX5_addJob 12 rfl) rfl ?_
        refine q_iload (pc' := 27) (dk_at dkX5_addJob 13 rfl) rfl rfl ?_
        refine r_cSI (pc' := 30) (As := [vI 3, vI u]) (S := []) cs_RX5_52 (dk_at dkX5_addJob 14 rfl) (k_BM_isValue (d := 0) (w := 3) (v := u) (by omega) (by omega)) (by omega) (Nat.zero_le _) (Nat.zero_le _) rfl (Nat.le_of_ble_eq_true rfl) rfl (Nat.le_of_ble_eq_true rfl) rfl (fun xx10 hh11 hphh11 => ?_)
        obtain ⟨qq12, y27⟩ := hphh11
        subst qq12
        have yr27 := y27.r
        refine q_if_eq (tgt := 42) (pc' := 33) (dk_at dkX5_addJob 15 rfl) rfl rfl (by omega) (fun c30 => ?_) (fun c30 => ?_)
        · refine q_throw (cls := "java/lang/IllegalArgumentException") (text := "a value of the job is out of range") th_IAE rfl rfl (by decide +kernel) (by omega) (Nat.le_of_ble_eq_true rfl) (dk_at dkX5_addJob 20 rfl) (dk_at dkX5_addJob 21 rfl) (dk_at dkX5_addJob 22 rfl) (dk_at dkX5_addJob 23 rfl) (dk_at dkX5_addJob 24 rfl) ?_
          exact ⟨rfl, Or.inl ⟨rfl, fun z => y27.f c30 z.2.2.2.1⟩⟩
        · refine q_iconst (pc' := 34) (dk_at dkX5_addJob 16 rfl) rfl ?_
          refine q_iload (pc' := 36) (dk_at dkX5_addJob 17 rfl) rfl rfl ?_
          refine r_cSI (pc' := 39) (As := [vI 4, vI w]) (S := []) cs_RX5_52 (dk_at dkX5_addJob 18 rfl) (k_BM_isValue (d := 0) (w := 4) (v := w) (by omega) (by omega)) (by omega) (Nat.zero_le _) (Nat.zero_le _) rfl (Nat.le_of_ble_eq_true rfl) rfl (Nat.le_of_ble_eq_true rfl) rfl (fun xx13 hh14 hphh14 => ?_)
          obtain ⟨qq15, y36⟩ := hphh14
          subst qq15
          have yr36 := y36.r
          refine q_if_ne (tgt := 52) (pc' := 42) (dk_at dkX5_addJob 19 rfl) rfl rfl (by omega) (fun c39 => ?_) (fun c39 => ?_)
          · refine q_aload_n (pc' := 53) (dk_at dkX5_addJob 25 rfl) rfl rfl ?_
            refine r_getf (pc' := 56) fl_RX5_10 (dk_at dkX5_addJob 26 rfl) hB.obj rfl rfl ?_
            refine r_getf (pc' := 59) fl_RX5_63 (dk_at dkX5_addJob 27 rfl) hN.obj rfl rfl ?_
            refine r_getf (pc' := 62) fl_RX5_66 (dk_at dkX5_addJob 28 rfl) hQ.obj rfl rfl ?_
            refine q_bipush (pc' := 64) (dk_at dkX5_addJob 29 rfl) (by decide +kernel) rfl ?_
            refine q_icmp_lt (tgt := 77) (pc' := 67) (dk_at dkX5_addJob 30 rfl) rfl rfl (by omega) (by omega) (fun c64 => ?_) (fun c64 => ?_)
            · refine q_aload_n (pc' := 78) (dk_at dkX5_addJob 36 rfl) rfl rfl ?_
              refine r_cVV (pc' := 81) (As := []) (S := []) cv_RX5_75 (dk_at dkX5_addJob 37 rfl) hB.obj rfl (k_BM_saveState (d := 4) (c := (S, P, kn, bs)) (by omega) hk hsv hB ⟨hN, hQ, hK⟩ hZ) (by omega) (Nat.zero_le _) (Nat.zero_le _) rfl (Nat.le_of_ble_eq_true rfl) rfl (Nat.le_of_ble_eq_true rfl) rfl (fun hh17 hphh17 => ?_)
              obtain ⟨hB, hSt, hZ, hGf⟩ := hphh17
              obtain ⟨hN, hQ, hK⟩ := hSt
              have hN : isState n hh17 (b + 1) kn bs := hN
              have hQ : isShp n hh17 (b + 2) S := hQ
              have hK : isPlS n hh17 (b + 15) P := hK
              have hR := BMR.frm hR hGf (by omega)
              have hF := hF.tr hGf (by omega)
              refine q_aload_n (pc' := 82) (dk_at dkX5_addJob 38 rfl) rfl rfl ?_
              refine r_getf (pc' := 85) fl_RX5_10 (dk_at dkX5_addJob 39 rfl) hB.obj rfl rfl ?_
              refine r_getf (pc' := 88) fl_RX5_63 (dk_at dkX5_addJob 40 rfl) hN.obj rfl rfl ?_
              refine r_getf (pc' := 91) fl_RX5_66 (dk_at dkX5_addJob 41 rfl) hQ.obj rfl rfl ?_
              refine q_istore (pc' := 93) (L' := [some (vR b), some (vI f), some (vI t), some (vI r0), some (vI u), some (vI w), some (vI (S.cnt : Int))]) (dk_at dkX5_addJob 42 rfl) (by decide) rfl rfl ?_
              refine q_aload_n (pc' := 94) (dk_at dkX5_addJob 43 rfl) rfl rfl ?_
              refine r_getf (pc' := 97) fl_RX5_10 (dk_at dkX5_addJob 44 rfl) hB.obj rfl rfl ?_
              refine r_getf (pc' := 100) fl_RX5_63 (dk_at dkX5_addJob 45 rfl) hN.obj rfl rfl ?_
              refine r_getf (pc' := 103) fl_RX5_78 (dk_at dkX5_addJob 46 rfl) hQ.obj rfl rfl ?_
              refine q_iconst (pc' := 104) (dk_at dkX5_addJob 47 rfl) rfl ?_
              refine r_aald1 (pc' := 105) (dk_at dkX5_addJob 48 rfl) hQ.values 0 (by omega) (by omega) (by decide) rfl ?_
              refine q_iload (pc' := 107) (dk_at dkX5_addJob 49 rfl) rfl rfl ?_
              refine q_iload_n (pc' := 108) (dk_at dkX5_addJob 50 rfl) rfl rfl ?_
              refine r_iast (pc' := 109) (dk_at dkX5_addJob 51 rfl) (hQ.values_at 0 (by omega)) S.cnt (by omega) (by omega) (by decide) rfl (fun hh18 ehh18 => ?_)
              have hB := hB.off ehh18 (by omega)
              have hN := hN.off ehh18 (by omega)
              have hQ := isShop.w_values (by omega) hQ ehh18
              have hK := hK.off ehh18 (by omega)
              have hZ := hZ.off ehh18 (by omega)
              have hR := hR.off ehh18 (by omega)
              have hF := hF.put ehh18 (by omega)
              refine q_aload_n (pc' := 110) (dk_at dkX5_addJob 52 rfl) rfl rfl ?_
              refine r_getf (pc' := 113) fl_RX5_10 (dk_at dkX5_addJob 53 rfl) hB.obj rfl rfl ?_
              refine r_getf (pc' := 116) fl_RX5_63 (dk_at dkX5_addJob 54 rfl) hN.obj rfl rfl ?_
              refine r_getf (pc' := 119) fl_RX5_78 (dk_at dkX5_addJob 55 rfl) hQ.obj rfl rfl ?_
              refine q_iconst (pc' := 120) (dk_at dkX5_addJob 56 rfl) rfl ?_
              refine r_aald1 (pc' := 121) (dk_at dkX5_addJob 57 rfl) hQ.values 1 (by omega) (by omega) (by decide) rfl ?_
              refine q_iload (pc' := 123) (dk_at dkX5_addJob 58 rfl) rfl rfl ?_
              refine q_iload_n (pc' := 124) (dk_at dkX5_addJob 59 rfl) rfl rfl ?_
              refine r_iast (pc' := 125) (dk_at dkX5_addJob 60 rfl) (hQ.values_at 1 (by omega)) S.cnt (by omega) (by omega) (by decide) rfl (fun hh19 ehh19 => ?_)
              have hB := hB.off ehh19 (by omega)
              have hN := hN.off ehh19 (by omega)
              have hQ := isShop.w_values (by omega) hQ ehh19
              have hK := hK.off ehh19 (by omega)
              have hZ := hZ.off ehh19 (by omega)
              have hR := hR.off ehh19 (by omega)
              have hF := hF.put ehh19 (by omega)
              refine q_aload_n (pc' := 126) (dk_at dkX5_addJob 61 rfl) rfl rfl ?_
              refine r_getf (pc' := 129) fl_RX5_10 (dk_at dkX5_addJob 62 rfl) hB.obj rfl rfl ?_
              refine r_getf (pc' := 132) fl_RX5_63 (dk_at dkX5_addJob 63 rfl) hN.obj rfl rfl ?_
              refine r_getf (pc' := 135) fl_RX5_78 (dk_at dkX5_addJob 64 rfl) hQ.obj rfl rfl ?_
              refine q_iconst (pc' := 136) (dk_at dkX5_addJob 65 rfl) rfl ?_
              refine r_aald1 (pc' := 137) (dk_at dkX5_addJob 66 rfl) hQ.values 2 (by omega) (by omega) (by decide) rfl ?_
              refine q_iload (pc' := 139) (dk_at dkX5_addJob 67 rfl) rfl rfl ?_
              refine q_iload_n (pc' := 140) (dk_at dkX5_addJob 68 rfl) rfl rfl ?_
              refine r_iast (pc' := 141) (dk_at dkX5_addJob 69 rfl) (hQ.values_at 2 (by omega)) S.cnt (by omega) (by omega) (by decide) rfl (fun hh20 ehh20 => ?_)
              have hB := hB.off ehh20 (by omega)
              have hN := hN.off ehh20 (by omega)
              have hQ := isShop.w_values (by omega) hQ ehh20
              have hK := hK.off ehh20 (by omega)
              have hZ := hZ.off ehh20 (by omega)
              have hR := hR.off ehh20 (by omega)
              have hF := hF.put ehh20 (by omega)
              refine q_aload_n (pc' := 142) (dk_at dkX5_addJob 70 rfl) rfl rfl ?_
              refine r_getf (pc' := 145) fl_RX5_10 (dk_at dkX5_addJob 71 rfl) hB.obj rfl rfl ?_
              refine r_getf (pc' := 148) fl_RX5_63 (dk_at dkX5_addJob 72 rfl) hN.obj rfl rfl ?_
              refine r_getf (pc' := 151) fl_RX5_78 (dk_at dkX5_addJob 73 rfl) hQ.obj rfl rfl ?_
              refine q_iconst (pc' := 152) (dk_at dkX5_addJob 74 rfl) rfl ?_
              refine r_aald1 (pc' := 153) (dk_at dkX5_addJob 75 rfl) hQ.values 3 (by omega) (by omega) (by decide) rfl ?_
              refine q_iload (pc' := 155) (dk_at dkX5_addJob 76 rfl) rfl rfl ?_
              refine q_iload (pc' := 157) (dk_at dkX5_addJob 77 rfl) rfl rfl ?_
              refine r_iast (pc' := 158) (dk_at dkX5_addJob 78 rfl) (hQ.values_at 3 (by omega)) S.cnt (by omega) (by omega) (by decide) rfl (fun hh21 ehh21 => ?_)
              have hB := hB.off ehh21 (by omega)
              have hN := hN.off ehh21 (by omega)
              have hQ := isShop.w_values (by omega) hQ ehh21
              have hK := hK.off ehh21 (by omega)
              have hZ := hZ.off ehh21 (by omega)
              have hR := hR.off ehh21 (by omega)
              have hF := hF.put ehh21 (by omega)
              refine q_aload_n (pc' := 159) (dk_at dkX5_addJob 79 rfl) rfl rfl ?_
              refine r_getf (pc' := 162) fl_RX5_10 (dk_at dkX5_addJob 80 rfl) hB.obj rfl rfl ?_
              refine r_getf (pc' := 165) fl_RX5_63 (dk_at dkX5_addJob 81 rfl) hN.obj rfl rfl ?_
              refine r_getf (pc' := 168) fl_RX5_78 (dk_at dkX5_addJob 82 rfl) hQ.obj rfl rfl ?_
              refine q_iconst (pc' := 169) (dk_at dkX5_addJob 83 rfl) rfl ?_
              refine r_aald1 (pc' := 170) (dk_at dkX5_addJob 84 rfl) hQ.values 4 (by omega) (by omega) (by decide) rfl ?_
              refine q_iload (pc' := 172) (dk_at dkX5_addJob 85 rfl) rfl rfl ?_
              refine q_iload (pc' := 174) (dk_at dkX5_addJob 86 rfl) rfl rfl ?_
              refine r_iast (pc' := 175) (dk_at dkX5_addJob 87 rfl) (hQ.values_at 4 (by omega)) S.cnt (by omega) (by omega) (by decide) rfl (fun hh22 ehh22 => ?_)
              have hB := hB.off ehh22 (by omega)
              have hN := hN.off ehh22 (by omega)
              have hQ := isShop.w_values (by omega) hQ ehh22
              have hK := hK.off ehh22 (by omega)
              have hZ := hZ.off ehh22 (by omega)
              have hR := hR.off ehh22 (by omega)
              have hF := hF.put ehh22 (by omega)
              refine q_aload_n (pc' := 176) (dk_at dkX5_addJob 88 rfl) rfl rfl ?_
              refine r_getf (pc' := 179) fl_RX5_10 (dk_at dkX5_addJob 89 rfl) hB.obj rfl rfl ?_
              refine r_getf (pc' := 182) fl_RX5_63 (dk_at dkX5_addJob 90 rfl) hN.obj rfl rfl ?_
              refine q_iload (pc' := 184) (dk_at dkX5_addJob 91 rfl) rfl rfl ?_
              refine q_iconst (pc' := 185) (dk_at dkX5_addJob 92 rfl) rfl ?_
              refine q_iadd (pc' := 186) (dk_at dkX5_addJob 93 rfl) rfl ?_
              refine r_putf (pc' := 189) fp_RX5_66 (dk_at dkX5_addJob 94 rfl) hQ.obj (Nat.le_of_ble_eq_true rfl) (PT_int _) rfl (fun hh23 ehh23 => ?_)
              have hB := hB.off ehh23 (by omega)
              have hN := hN.off ehh23 (by omega)
              have hQ := hQ.w_obj ehh23
              have hK := hK.off ehh23 (by omega)
              have hZ := hZ.off ehh23 (by omega)
              have hR := hR.off ehh23 (by omega)
              have hF := hF.put ehh23 (by omega)
              refine q_aload_n (pc' := 190) (dk_at dkX5_addJob 95 rfl) rfl rfl ?_
              refine r_getf (pc' := 193) fl_RX5_10 (dk_at dkX5_addJob 96 rfl) hB.obj rfl rfl ?_
              refine q_iconst (pc' := 194) (dk_at dkX5_addJob 97 rfl) rfl ?_
              refine r_putf (pc' := 197) fp_RX5_82 (dk_at dkX5_addJob 98 rfl) hN.obj (Nat.le_of_ble_eq_true rfl) (PT_bool (by omega)) rfl (fun hh24 ehh24 => ?_)
              have hB := hB.off ehh24 (by omega)
              have hN := hN.w_obj ehh24
              have hQ := hQ.off ehh24 (by omega)
              have hK := hK.off ehh24 (by omega)
              have hZ := hZ.off ehh24 (by omega)
              have hR := hR.off ehh24 (by omega)
              have hF := hF.put ehh24 (by omega)
              refine q_iload (pc' := 199) (dk_at dkX5_addJob 99 rfl) rfl rfl ?_
              refine x_iret rfl (dk_at dkX5_addJob 100 rfl) ?_
              refine ⟨_, rfl, ?_, ?_, rfl, ⟨hB, ⟨hN, ?_, hK⟩, hZ, hR⟩, hF⟩
              · exact ⟨y2.t c5, y10.t c13, y18.t c21, y27.t c30, y36.t (by omega)⟩
              · omega
              · exact isShop.cong hQ (fun i hi => by rcases (show i = 0 ∨ i = 1 ∨ i = 2 ∨ i = 3 ∨ i = 4 by omega) with rfl | rfl | rfl | rfl | rfl <;> funext j <;> simp [Shp.add, Shp.V, upf, upz, addV]) (fun i hi => rfl)
            · refine q_throw (cls := "java/lang/IllegalStateException") (text := "there are 8 jobs") th_ISE rfl rfl (by decide +kernel) (by omega) (Nat.le_of_ble_eq_true rfl) (dk_at dkX5_addJob 31 rfl) (dk_at dkX5_addJob 32 rfl) (dk_at dkX5_addJob 33 rfl) (dk_at dkX5_addJob 34 rfl) (dk_at dkX5_addJob 35 rfl) ?_
              exact ⟨rfl, Or.inr ⟨rfl, ⟨y2.t c5, y10.t c13, y18.t c21, y27.t c30, y36.t (by omega)⟩, by omega⟩⟩
          · refine q_throw (cls := "java/lang/IllegalArgumentException") (text := "a value of the job is out of range") th_IAE rfl rfl (by decide +kernel) (by omega) (Nat.le_of_ble_eq_true rfl) (dk_at dkX5_addJob 20 rfl) (dk_at dkX5_addJob 21 rfl) (dk_at dkX5_addJob 22 rfl) (dk_at dkX5_addJob 23 rfl) (dk_at dkX5_addJob 24 rfl) ?_
            exact ⟨rfl, Or.inl ⟨rfl, fun z => y36.f (by omega) z.2.2.2.2⟩⟩
