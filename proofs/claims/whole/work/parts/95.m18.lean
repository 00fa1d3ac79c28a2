/-! BatchMachineModel: the best schedule is laid -/
def PthD (S : Shp) (fl : Int) (D : Nat → Nat × Int × Int × Int) (ts : Nat → Nat) (m : Nat) : Prop :=
  D 0 = (0, -1, 0, neuM S) ∧ (∀ i, i < m → (D i).1 ≠ alS S ∧ ts i < 2 ^ S.cnt ∧ alw S (-1) (D i).1 (ts i) = true ∧ (∀ u, u < ts i → alw S (-1) (D i).1 u = true → fl < Fx S (-1) (D i).1 (D i).2.1 (D i).2.2.1 (D i).2.2.2 u) ∧ D (i + 1) = ((D i).1 ||| ts i, sfT S.V (ts i) S.cnt, endS S (ts i) (D i).2.1 (D i).2.2.1, smT S (ts i) (endS S (ts i) (D i).2.1 (D i).2.2.1) (D i).2.2.2 S.cnt) ∧ Fx S (-1) (D i).1 (D i).2.1 (D i).2.2.1 (D i).2.2.2 (ts i) = fl) ∧ (D m).1 = alS S ∧ ∀ i, i ≤ m → (D i).1 < 2 ^ S.cnt ∧ (-1 ≤ (D i).2.1 ∧ (D i).2.1 ≤ 3) ∧ Ent S (D i).1 (D i).2.2.1 (D i).2.2.2
theorem path_of {S : Shp} (hk : Sok S) {ts : Nat → Nat} {m : Nat} (h : BestP S ts m) : ∃ D, PthD S (lcS S (-1)) D ts m := by
  rcases h with ⟨h0, hm⟩ | ⟨h0, L, hG, hm, ht⟩
  · refine ⟨fun _ => (0, -1, 0, neuM S), rfl, fun i hi => absurd hi (by omega), ?_, fun i _ => ⟨Nat.one_le_two_pow, ⟨Int.le_refl _, show (-1 : Int) ≤ 3 by decide⟩, Ent.start hk 0⟩⟩
    show 0 = 2 ^ S.cnt - 1
    rw [h0]
  · obtain ⟨D, d0, d1⟩ := Gp_seq L _ _ _ _ (Gp_neuM hk h0 hG)
    have h2 : 2 ^ 1 ≤ 2 ^ S.cnt := Nat.pow_le_pow_right (by decide) (by omega)
    have hf : lcS S (-1) = fn S (-1) 0 (-1) 0 (neuM S) := by
      rw [fn_neu hk Nat.one_le_two_pow (by unfold alS; omega) (by omega)]
      exact if_neg (by omega)
    rw [← ht, ← hm] at d1
    refine ⟨D, d0, fun i hi => ?_, d1.2.1, fun i hi => ?_⟩
    · obtain ⟨a1, a2, a3, a4, a5⟩ := d1.1 i hi
      exact ⟨a1, a2, a3, a4, a5, d1.fx hk d0 hf hi⟩
    · obtain ⟨a1, a2, a3, -⟩ := d1.inv hk d0 hf i hi
      exact ⟨a1, a2, a3⟩
theorem wpJ_s {t : Nat} {P : PlS} {j : Nat} : wpJ t P (j + 1) = if t / 2 ^ j % 2 = 1 then (addL (wpJ t P j).1 j (wpJ t P j).2, 0) else wpJ t P j := rfl
theorem pcT_s {t j : Nat} : pcT t (j + 1) = if t / 2 ^ j % 2 = 1 then pcT t j + 1 else pcT t j := rfl
theorem wrP_sz {S : Shp} {ts : Nat → Nat} {m : Nat} {o e : Nat → Int} : (wrP S ts m o e).sz = (wpN S.cnt ts (0, 0, o, e) m).sz := by
  unfold wrP
  dsimp only
  split <;> rfl
theorem wrP_od {S : Shp} {ts : Nat → Nat} {m : Nat} {o e : Nat → Int} : (wrP S ts m o e).od = (wpN S.cnt ts (0, 0, o, e) m).od := by
  unfold wrP
  dsimp only
  split <;> rfl
set_option maxHeartbeats 4000000 in
set_option maxRecDepth 100000 in
theorem l_lba {d n : Nat} {h : PH} {m : Nat} {S : Shp} {F : FT} {fu : Nat} {fl : Int} {dn t T0 : Nat} {fv cs : Int} {A sd sq op ss es bo su se tx ba le fr un sF sR sT ad : Nat → Int} {sm th l0 bm tl : Int} {x8 x9 : Option PV} (hd : 9 ≤ d) (hR : MR A S) (hk : Sok S) (hSt : SetsM S sF sR sT) (hc8 : S.cnt ≤ 8) (hp8 : 2 ^ S.cnt ≤ 256) (hD : DBs S 4 le) (hfl : -1000000 ≤ fl ∧ fl ≤ 288000000) (hdn : dn < 2 ^ S.cnt) (hfv : -1 ≤ fv ∧ fv ≤ 3) (he : Ent S dn (t : Int) cs) (hT2 : T0 < 2 ^ S.cnt) (hTa : alw S (-1) dn T0 = true) (hTm : ∀ u, u < T0 → alw S (-1) dn u = true → fl < Fx S (-1) dn fv (t : Int) cs u) (hTf : Fx S (-1) dn fv (t : Int) cs T0 = fl) (hex : ∀ (f1 t1 : Nat) (c1 : Int) (h1 : PH), (f1 : Int) = sfT S.V T0 S.cnt → (t1 : Int) = endS S T0 fv (t : Int) → c1 = smT S T0 (t1 : Int) (neuM S) S.cnt → isModel n h1 m A sd sm th sq op l0 ss es bo su se bm tx tl ba le fr un (f1 : Int) (t1 : Int) c1 sF sR sT ad → Fr h h1 m (m + 19) → QN mX6_laysBest d F 84 [some (vR m), some (vI fl), some (vI (fu : Int)), some (vI (dn : Int)), some (vI fv), some (vI (t : Int)), some (vI cs), some (vI (T0 : Int)), x8, x9] [] n h1) : ∀ (c : Nat) (its : Nat) (nf1 ne1 nc1 : Int) (h1 : PH), (its + c ≥ 256) → (1 ≤ its) → (its ≤ T0) → (S.wh ≠ 1 → pw2 its = true) → (isModel n h1 m A sd sm th sq op l0 ss es bo su se bm tx tl ba le fr un nf1 ne1 nc1 sF sR sT ad) → (Fr h h1 m (m + 19)) → QN mX6_laysBest d F 42 [some (vR m), some (vI fl), some (vI (fu : Int)), some (vI (dn : Int)), some (vI fv), some (vI (t : Int)), some (vI cs), some (vI (its : Int)), x8, x9] [] n h1 := by
  intro c
  induction c with
  | zero =>
    intro its nf1 ne1 nc1 h1 hc hi1 hi2 hpw hM hF
    refine q_aload_n (pc' := 43) (dk_at dkX6_laysBest 28 rfl) rfl rfl ?_
    exfalso
    omega
  | succ c ih =>
    intro its nf1 ne1 nc1 h1 hc hi1 hi2 hpw hM hF
    refine q_aload_n (pc' := 43) (dk_at dkX6_laysBest 28 rfl) rfl rfl ?_
    refine q_iload (pc' := 45) (dk_at dkX6_laysBest 29 rfl) rfl rfl ?_
    refine q_iload_n (pc' := 46) (dk_at dkX6_laysBest 30 rfl) rfl rfl ?_
    refine q_iload (pc' := 48) (dk_at dkX6_laysBest 31 rfl) rfl rfl ?_
    refine q_iload (pc' := 50) (dk_at dkX6_laysBest 32 rfl) rfl rfl ?_
    refine q_iload (pc' := 52) (dk_at dkX6_laysBest 33 rfl) rfl rfl ?_
    refine q_iload_n (pc' := 53) (dk_at dkX6_laysBest 34 rfl) rfl rfl ?_
    refine r_cVI (pc' := 56) (As := [vI (its : Int), vI (dn : Int), vI fv, vI (t : Int), vI cs, vI fl]) (S := []) cv_RX6_246 (dk_at dkX6_laysBest 35 rfl) hM.obj rfl (k_M_comes (d := 8) (its := its) (dn := dn) (t := t) (fv := fv) (cs := cs) (fl := fl) (by omega) hR hk hSt hdn hfv hi1 (by omega) hpw he hD hfl hM) (by omega) (Nat.zero_le _) (Nat.zero_le _) rfl (Nat.le_of_ble_eq_true rfl) rfl (Nat.le_of_ble_eq_true rfl) rfl (fun xx1 hh2 hphh2 => ?_)
    obtain ⟨nf2, ne2, nc2, hM, yc, hx1, hGf⟩ := hphh2
    have hF := hF.tr hGf (by omega)
    have ycr := yc.r
    refine q_if_ne (tgt := 84) (pc' := 59) (dk_at dkX6_laysBest 36 rfl) rfl rfl (by omega) (fun c56 => ?_) (fun c56 => ?_)
    · obtain ⟨ya, yf⟩ := yc.t (by omega)
      have ei : its = T0 := by
        rcases Nat.lt_or_ge its T0 with q | q
        · have := hTm its q ya
          omega
        · omega
      obtain ⟨f1, t1, e1, e2, e3, e4, e5⟩ := hx1 (by omega)
      rw [e1, e2] at hM
      rw [ei] at e3 e4 e5 ⊢
      exact hex _ _ _ _ e3 e4 e5 hM hF
    · have hAw := hR.w
      have hww := hk.w
      have hlt : its < T0 := by
        rcases Nat.lt_or_ge its T0 with q | q
        · exact q
        · exact absurd ⟨by rw [show its = T0 by omega]; exact hTa, by rw [show its = T0 by omega]; exact hTf⟩ (yc.f (by omega))
      refine q_iload (pc' := 61) (dk_at dkX6_laysBest 37 rfl) rfl rfl ?_
      refine q_join 78 [some (vR m), some (vI fl), some (vI (fu : Int)), some (vI (dn : Int)), some (vI fv), some (vI (t : Int)), some (vI cs), some (vI (its : Int)), x8, x9] [vI (its : Int)] (fun jx => (S.wh = 1 ∧ jx = 1) ∨ (S.wh ≠ 1 ∧ jx = (its : Int))) (fun jx78 e78 => ?_) (fun J78 => ?_)
      · refine q_iadd (pc' := 79) (dk_at dkX6_laysBest 47 rfl) rfl ?_
        refine q_istore (pc' := 81) (L' := [some (vR m), some (vI fl), some (vI (fu : Int)), some (vI (dn : Int)), some (vI fv), some (vI (t : Int)), some (vI cs), some (vI ((its : Int) + jx78)), x8, x9]) (dk_at dkX6_laysBest 48 rfl) (by decide) rfl rfl ?_
        refine q_goto (tgt := 42) (dk_at dkX6_laysBest 49 rfl) rfl ?_
        rcases e78 with ⟨e1, e2⟩ | ⟨e1, e2⟩
        · rw [e2, show (its : Int) + 1 = ((its + 1 : Nat) : Int) by omega]
          exact ih (its + 1) _ _ _ _ (by omega) (by omega) (by omega) (fun z => absurd e1 z) hM hF
        · obtain ⟨a, a1, a2⟩ := pw2_ex (hpw e1)
          obtain ⟨b, b1, b2⟩ := pw2_ex (okS_pw2 e1 (alw_i hTa).1)
          have hab : a < b := by
            rcases Nat.lt_or_ge a b with q | q
            · exact q
            · have := Nat.pow_le_pow_right (n := 2) (by decide) q
              omega
          have h2 : 2 ^ (a + 1) ≤ 2 ^ b := Nat.pow_le_pow_right (by decide) hab
          have h3 : its + its = 2 ^ (a + 1) := by rw [Nat.pow_succ]; omega
          rw [e2, show (its : Int) + (its : Int) = ((its + its : Nat) : Int) by omega]
          exact ih (its + its) _ _ _ _ (by omega) (by omega) (by omega) (fun _ => by rw [h3]; exact pw2_pow (by omega)) hM hF
      refine q_aload_n (pc' := 62) (dk_at dkX6_laysBest 38 rfl) rfl rfl ?_
      refine r_getf (pc' := 65) fl_RX6_7 (dk_at dkX6_laysBest 39 rfl) hM.obj rfl rfl ?_
      refine q_bipush (pc' := 67) (dk_at dkX6_laysBest 40 rfl) (by decide +kernel) rfl ?_
      refine r_iald (pc' := 68) (dk_at dkX6_laysBest 41 rfl) hM.all 61 (by omega) (by omega) (by decide) rfl ?_
      refine q_iconst (pc' := 69) (dk_at dkX6_laysBest 42 rfl) rfl ?_
      refine q_icmp_ne (tgt := 76) (pc' := 72) (dk_at dkX6_laysBest 43 rfl) rfl rfl (by omega) (by omega) (fun c69 => ?_) (fun c69 => ?_)
      · refine q_iload (pc' := 78) (dk_at dkX6_laysBest 46 rfl) rfl rfl ?_
        exact J78 _ (Or.inr ⟨by omega, rfl⟩)
      · refine q_iconst (pc' := 73) (dk_at dkX6_laysBest 44 rfl) rfl ?_
        refine q_goto (tgt := 78) (dk_at dkX6_laysBest 45 rfl) rfl ?_
        exact J78 _ (Or.inl ⟨by omega, rfl⟩)

set_option maxHeartbeats 4000000 in
set_option maxRecDepth 100000 in
theorem l_lbb {d n : Nat} {h : PH} {m : Nat} {S : Shp} {F : FT} {fu dn t T0 : Nat} {fl fv cs : Int} {Q : PlS} {A sd ss es bo su se tx ba le fr un sF sR sT ad : Nat → Int} {sm th bm tl nf ne nc : Int} (hd : 9 ≤ d) (hR : MR A S) (hk : Sok S) (hc8 : S.cnt ≤ 8) (hT8 : T0 < 256) (hQb : Q.bc ≤ Q.sz) (hQs : Q.sz + pcT T0 S.cnt ≤ 8) (hex : ∀ (sq1 op1 : Nat → Int) (X : PlS) (h1 : PH) (x8 x9 : Option PV), X = (wpJ T0 Q S.cnt).1 → WQ X → SqP sq1 op1 X → isModel n h1 m A sd sm th sq1 op1 (X.sz : Int) ss es bo su se bm tx tl ba le fr un nf ne nc sF sR sT ad → Fr h h1 m (m + 19) → QN mX6_laysBest d F 184 [some (vR m), some (vI fl), some (vI (fu : Int)), some (vI (dn : Int)), some (vI fv), some (vI (t : Int)), some (vI cs), some (vI (T0 : Int)), x8, x9] [] n h1) : ∀ (c : Nat) (j : Nat) (sq1 op1 : Nat → Int) (X : PlS) (fg : Int) (h1 : PH), (j + c = S.cnt) → (wpJ T0 Q j = (X, fg)) → (WQ X) → (SqP sq1 op1 X) → (fg = 1 ∨ (fg = 0 ∧ 0 < X.bc)) → (isModel n h1 m A sd sm th sq1 op1 (X.sz : Int) ss es bo su se bm tx tl ba le fr un nf ne nc sF sR sT ad) → (Fr h h1 m (m + 19)) → QN mX6_laysBest d F 114 [some (vR m), some (vI fl), some (vI (fu : Int)), some (vI (dn : Int)), some (vI fv), some (vI (t : Int)), some (vI cs), some (vI (T0 : Int)), some (vI fg), some (vI (j : Int))] [] n h1 := by
  intro c
  induction c with
  | zero =>
    intro j sq1 op1 X fg h1 hc eX hW hSq hfl2 hM hF
    have hA0 := hR.c
    have hwr := wpJ_r (t := T0) (P := Q) hQb j
    rw [eX] at hwr
    have hwr1 : X.sz = Q.sz + pcT T0 j := hwr.1
    have hwr2 : X.bc ≤ X.sz := hwr.2.1
    have hfg : fg = 0 ∨ fg = 1 := hwr.2.2
    refine q_iload (pc' := 116) (dk_at dkX6_laysBest 66 rfl) rfl rfl ?_
    refine q_aload_n (pc' := 117) (dk_at dkX6_laysBest 67 rfl) rfl rfl ?_
    refine r_getf (pc' := 120) fl_RX6_7 (dk_at dkX6_laysBest 68 rfl) hM.obj rfl rfl ?_
    refine q_iconst (pc' := 121) (dk_at dkX6_laysBest 69 rfl) rfl ?_
    refine r_iald (pc' := 122) (dk_at dkX6_laysBest 70 rfl) hM.all 0 (by omega) (by omega) (by decide) rfl ?_
    refine q_icmp_ge (tgt := 184) (pc' := 125) (dk_at dkX6_laysBest 71 rfl) rfl rfl (by omega) (by omega) (fun c122 => ?_) (fun c122 => ?_)
    · have ej : j = S.cnt := by omega
      rw [ej] at eX
      exact hex _ _ X _ _ _ (by rw [eX]) hW hSq hM hF
    · exfalso
      omega
  | succ c ih =>
    intro j sq1 op1 X fg h1 hc eX hW hSq hfl2 hM hF
    have hA0 := hR.c
    have hwr := wpJ_r (t := T0) (P := Q) hQb j
    rw [eX] at hwr
    have hwr1 : X.sz = Q.sz + pcT T0 j := hwr.1
    have hwr2 : X.bc ≤ X.sz := hwr.2.1
    have hfg : fg = 0 ∨ fg = 1 := hwr.2.2
    refine q_iload (pc' := 116) (dk_at dkX6_laysBest 66 rfl) rfl rfl ?_
    refine q_aload_n (pc' := 117) (dk_at dkX6_laysBest 67 rfl) rfl rfl ?_
    refine r_getf (pc' := 120) fl_RX6_7 (dk_at dkX6_laysBest 68 rfl) hM.obj rfl rfl ?_
    refine q_iconst (pc' := 121) (dk_at dkX6_laysBest 69 rfl) rfl ?_
    refine r_iald (pc' := 122) (dk_at dkX6_laysBest 70 rfl) hM.all 0 (by omega) (by omega) (by decide) rfl ?_
    refine q_icmp_ge (tgt := 184) (pc' := 125) (dk_at dkX6_laysBest 71 rfl) rfl rfl (by omega) (by omega) (fun c122 => ?_) (fun c122 => ?_)
    · have ej : j = S.cnt := by omega
      rw [ej] at eX
      exact hex _ _ X _ _ _ (by rw [eX]) hW hSq hM hF
    · refine q_iload (pc' := 127) (dk_at dkX6_laysBest 72 rfl) rfl rfl ?_
      refine q_iload (pc' := 129) (dk_at dkX6_laysBest 73 rfl) rfl rfl ?_
      refine r_cSI (pc' := 132) (As := [vI (T0 : Int), vI (j : Int)]) (S := []) cs_RX6_154 (dk_at dkX6_laysBest 74 rfl) (k_M_has (d := 0) (s := T0) (k := j) (by omega) (by omega)) (by omega) (Nat.zero_le _) (Nat.zero_le _) rfl (Nat.le_of_ble_eq_true rfl) rfl (Nat.le_of_ble_eq_true rfl) rfl (fun xx1 hh2 hphh2 => ?_)
      obtain ⟨qq3, y129⟩ := hphh2
      rw [qq3]
      have yr129 := y129.r
      refine q_if_eq (tgt := 178) (pc' := 135) (dk_at dkX6_laysBest 75 rfl) rfl rfl (by omega) (fun c132 => ?_) (fun c132 => ?_)
      · refine q_iinc (pc' := 181) (L' := [some (vR m), some (vI fl), some (vI (fu : Int)), some (vI (dn : Int)), some (vI fv), some (vI (t : Int)), some (vI cs), some (vI (T0 : Int)), some (vI fg), some (vI ((j : Int) + 1))]) (dk_at dkX6_laysBest 100 rfl) (by decide) rfl rfl rfl ?_
        rw [show ((j : Int) + 1) = ((j + 1 : Nat) : Int) by omega]
        refine q_goto (tgt := 114) (dk_at dkX6_laysBest 101 rfl) rfl ?_
        exact ih (j + 1) _ _ X fg _ (by omega) (by rw [wpJ_s, if_neg (y129.f (by omega))]; exact eX) hW hSq hfl2 hM hF
      · have yb := y129.t (by omega)
        have hpm := pcT_mono (t := T0) S.cnt (show j + 1 ≤ S.cnt by omega)
        rw [pcT_s, if_pos yb] at hpm
        have hsz8 : X.sz < 8 := by omega
        refine q_aload_n (pc' := 136) (dk_at dkX6_laysBest 76 rfl) rfl rfl ?_
        refine r_getf (pc' := 139) fl_RX6_16 (dk_at dkX6_laysBest 77 rfl) hM.obj rfl rfl ?_
        refine q_aload_n (pc' := 140) (dk_at dkX6_laysBest 78 rfl) rfl rfl ?_
        refine r_getf (pc' := 143) fl_RX6_119 (dk_at dkX6_laysBest 79 rfl) hM.obj rfl rfl ?_
        refine q_iload (pc' := 145) (dk_at dkX6_laysBest 80 rfl) rfl rfl ?_
        refine r_iast (pc' := 146) (dk_at dkX6_laysBest 81 rfl) hM.sequence X.sz (by omega) (by omega) (by decide) rfl (fun hh4 ehh4 => ?_)
        have hM := hM.w_sequence ehh4
        have hF := hF.put ehh4 (by omega)
        refine q_aload_n (pc' := 147) (dk_at dkX6_laysBest 82 rfl) rfl rfl ?_
        refine r_getf (pc' := 150) fl_RX6_19 (dk_at dkX6_laysBest 83 rfl) hM.obj rfl rfl ?_
        refine q_aload_n (pc' := 151) (dk_at dkX6_laysBest 84 rfl) rfl rfl ?_
        refine r_getf (pc' := 154) fl_RX6_119 (dk_at dkX6_laysBest 85 rfl) hM.obj rfl rfl ?_
        refine q_join 164 [some (vR m), some (vI fl), some (vI (fu : Int)), some (vI (dn : Int)), some (vI fv), some (vI (t : Int)), some (vI cs), some (vI (T0 : Int)), some (vI fg), some (vI (j : Int))] [vI (X.sz : Int), vR (m + 4)] (fun jx => jx = fg) (fun jx164 e164 => ?_) (fun J164 => ?_)
        · refine r_iast (pc' := 165) (dk_at dkX6_laysBest 91 rfl) hM.opens X.sz (by omega) (by omega) (by decide) rfl (fun hh5 ehh5 => ?_)
          have hM := hM.w_opens ehh5
          have hF := hF.put ehh5 (by omega)
          refine q_iconst (pc' := 166) (dk_at dkX6_laysBest 92 rfl) rfl ?_
          refine q_istore (pc' := 168) (L' := [some (vR m), some (vI fl), some (vI (fu : Int)), some (vI (dn : Int)), some (vI fv), some (vI (t : Int)), some (vI cs), some (vI (T0 : Int)), some (vI 0), some (vI (j : Int))]) (dk_at dkX6_laysBest 93 rfl) (by decide) rfl rfl ?_
          refine q_aload_n (pc' := 169) (dk_at dkX6_laysBest 94 rfl) rfl rfl ?_
          refine q_dup (pc' := 170) (fun _ => rfl) (dk_at dkX6_laysBest 95 rfl) rfl ?_
          refine r_getf (pc' := 173) fl_RX6_119 (dk_at dkX6_laysBest 96 rfl) hM.obj rfl rfl ?_
          refine q_iconst (pc' := 174) (dk_at dkX6_laysBest 97 rfl) rfl ?_
          refine q_iadd (pc' := 175) (dk_at dkX6_laysBest 98 rfl) rfl ?_
          refine r_putf (pc' := 178) fp_RX6_119 (dk_at dkX6_laysBest 99 rfl) hM.obj (Nat.le_of_ble_eq_true rfl) (PT_int _) rfl (fun hh6 ehh6 => ?_)
          have hM := hM.w_obj ehh6
          have hF := hF.put ehh6 (by omega)
          refine q_iinc (pc' := 181) (L' := [some (vR m), some (vI fl), some (vI (fu : Int)), some (vI (dn : Int)), some (vI fv), some (vI (t : Int)), some (vI cs), some (vI (T0 : Int)), some (vI 0), some (vI ((j : Int) + 1))]) (dk_at dkX6_laysBest 100 rfl) (by decide) rfl rfl rfl ?_
          rw [show ((j : Int) + 1) = ((j + 1 : Nat) : Int) by omega]
          refine q_goto (tgt := 114) (dk_at dkX6_laysBest 101 rfl) rfl ?_
          obtain ⟨hW2, hS2⟩ := hW.add (j := j) hfl2 hSq
          rw [show ((X.sz : Int) + 1) = (((addL X j fg).sz : Nat) : Int) from rfl] at hM
          rw [e164] at hM
          exact ih (j + 1) _ _ (addL X j fg) 0 _ (by omega) (by rw [wpJ_s, if_pos yb, eX]) hW2 hS2 (Or.inr ⟨rfl, (addB_r hwr2).1⟩) hM hF
        refine q_iload (pc' := 156) (dk_at dkX6_laysBest 86 rfl) rfl rfl ?_
        refine q_if_eq (tgt := 163) (pc' := 159) (dk_at dkX6_laysBest 87 rfl) rfl rfl (by omega) (fun c156 => ?_) (fun c156 => ?_)
        · refine q_iconst (pc' := 164) (dk_at dkX6_laysBest 90 rfl) rfl ?_
          exact J164 _ (by omega)
        · refine q_iconst (pc' := 160) (dk_at dkX6_laysBest 88 rfl) rfl ?_
          refine q_goto (tgt := 164) (dk_at dkX6_laysBest 89 rfl) rfl ?_
          exact J164 _ (by omega)

set_option maxHeartbeats 4000000 in
set_option maxRecDepth 100000 in
theorem l_lb0 {d n : Nat} {h : PH} {m : Nat} {S : Shp} {fu : Nat} {fl : Int} {A sd ss es bo su se tx ba le fr un sF sR sT ad : Nat → Int} {sm th bm tl : Int} (hd : 9 ≤ d) (hR : MR A S) (hk : Sok S) (hSt : SetsM S sF sR sT) (hc8 : S.cnt ≤ 8) (hp8 : 2 ^ S.cnt ≤ 256) (hD : DBs S 4 le) (hfl : -1000000 ≤ fl ∧ fl ≤ 288000000) {D : Nat → Nat × Int × Int × Int} {ts : Nat → Nat} {m0 : Nat} {o e : Nat → Int} (hPD : PthD S fl D ts m0) (hB : BestP S ts m0) (hO : ∀ k, 0 ≤ o k ∧ o k ≤ 7) (hfu : fu + 1 = 2 ^ S.cnt) : ∀ (c : Nat) (i dn t : Nat) (fv cs : Int) (sq1 op1 : Nat → Int) (nf1 ne1 nc1 : Int) (h1 : PH) (x7 x8 x9 : Option PV), (i + c = m0 + 1) → (i ≤ m0) → (D i = (dn, fv, (t : Int), cs)) → (WQ (wpN S.cnt ts (0, 0, o, e) i)) → (SqP sq1 op1 (wpN S.cnt ts (0, 0, o, e) i)) → (isModel n h1 m A sd sm th sq1 op1 ((wpN S.cnt ts (0, 0, o, e) i).sz : Int) ss es bo su se bm tx tl ba le fr un nf1 ne1 nc1 sF sR sT ad) → (Fr h h1 m (m + 19)) → QN mX6_laysBest d (FV n (fun h' => ∃ (sq1 op1 : Nat → Int) (nf1 ne1 nc1 : Int), isModel n h' m A sd sm th sq1 op1 ((wrP S ts m0 o e).sz : Int) ss es bo su se bm tx tl ba le fr un nf1 ne1 nc1 sF sR sT ad ∧ SqP sq1 op1 (wrP S ts m0 o e) ∧ Fr h h' m (m + 19))) 34 [some (vR m), some (vI fl), some (vI (fu : Int)), some (vI (dn : Int)), some (vI fv), some (vI (t : Int)), some (vI cs), x7, x8, x9] [] n h1 := by
  intro c
  induction c with
  | zero =>
    intro i dn t fv cs sq1 op1 nf1 ne1 nc1 h1 x7 x8 x9 hc hi eD hW hSq hM hF
    obtain ⟨hdn, hfv, he⟩ := hPD.2.2.2 i hi
    rw [eD] at hdn hfv he
    have hdn : dn < 2 ^ S.cnt := hdn
    have hfv : -1 ≤ fv ∧ fv ≤ 3 := hfv
    have he : Ent S dn (t : Int) cs := he
    refine q_iload_n (pc' := 35) (dk_at dkX6_laysBest 23 rfl) rfl rfl ?_
    exfalso
    omega
  | succ c ih =>
    intro i dn t fv cs sq1 op1 nf1 ne1 nc1 h1 x7 x8 x9 hc hi eD hW hSq hM hF
    obtain ⟨hdn, hfv, he⟩ := hPD.2.2.2 i hi
    rw [eD] at hdn hfv he
    have hdn : dn < 2 ^ S.cnt := hdn
    have hfv : -1 ≤ fv ∧ fv ≤ 3 := hfv
    have he : Ent S dn (t : Int) cs := he
    refine q_iload_n (pc' := 35) (dk_at dkX6_laysBest 23 rfl) rfl rfl ?_
    refine q_iload_n (pc' := 36) (dk_at dkX6_laysBest 24 rfl) rfl rfl ?_
    refine q_icmp_eq (tgt := 192) (pc' := 39) (dk_at dkX6_laysBest 25 rfl) rfl rfl (by omega) (by omega) (fun c36 => ?_) (fun c36 => ?_)
    · have ei : i = m0 := by
        rcases Nat.lt_or_ge i m0 with q | q
        · exfalso
          have := (hPD.2.1 i q).1
          rw [eD] at this
          apply this
          show dn = 2 ^ S.cnt - 1
          omega
        · omega
      rw [ei] at hM hSq
      have hAw := hR.w
      have hww := hk.w
      refine q_aload_n (pc' := 193) (dk_at dkX6_laysBest 107 rfl) rfl rfl ?_
      refine r_getf (pc' := 196) fl_RX6_7 (dk_at dkX6_laysBest 108 rfl) hM.obj rfl rfl ?_
      refine q_bipush (pc' := 198) (dk_at dkX6_laysBest 109 rfl) (by decide +kernel) rfl ?_
      refine r_iald (pc' := 199) (dk_at dkX6_laysBest 110 rfl) hM.all 61 (by omega) (by omega) (by decide) rfl ?_
      refine q_if_ne (tgt := 206) (pc' := 202) (dk_at dkX6_laysBest 111 rfl) rfl rfl (by omega) (fun c199 => ?_) (fun c199 => ?_)
      · refine r_vret rfl (dk_at dkX6_laysBest 114 rfl) ?_
        refine ⟨_, _, _, _, _, by rw [wrP_sz]; exact hM, ?_, hF⟩
        unfold wrP
        dsimp only
        rw [if_pos (by omega)]
        exact hSq
      · refine q_aload_n (pc' := 203) (dk_at dkX6_laysBest 112 rfl) rfl rfl ?_
        have hpo : Pok S.cnt (wrP S ts m0 o e).od (wrP S ts m0 o e).en (wrP S ts m0 o e).bc (wrP S ts m0 o e).sz := (best_ok hk hB hO).1
        have hz8 : (wrP S ts m0 o e).sz = S.cnt := (best_ok hk hB hO).2
        have hsj := sqj hpo (sq := sq1) (by rw [wrP_sz, wrP_od]; exact hSq.1)
        rw [wrP_sz, wrP_od] at hsj
        rw [wrP_sz] at hz8
        refine r_cVV (pc' := 206) (As := []) (S := []) cv_RX6_173 (dk_at dkX6_laysBest 113 rfl) hM.obj rfl (k_M_opensByFamilies (d := 8) (mm := (wpN S.cnt ts (0, 0, o, e) m0).sz) (o := (wpN S.cnt ts (0, 0, o, e) m0).od) (by omega) hR hk hc8 (by omega) hsj hM) (by omega) (Nat.zero_le _) (Nat.zero_le _) rfl (Nat.le_of_ble_eq_true rfl) rfl (Nat.le_of_ble_eq_true rfl) rfl (fun hh2 hphh2 => ?_)
        obtain ⟨op2, hM, hop, hGf⟩ := hphh2
        have hF := hF.tr hGf (by omega)
        refine r_vret rfl (dk_at dkX6_laysBest 114 rfl) ?_
        refine ⟨_, _, _, _, _, by rw [wrP_sz]; exact hM, ?_, hF⟩
        unfold wrP
        dsimp only
        rw [if_neg (by omega)]
        exact SqP_gr hSq.1 hop
    · have hi3 : i < m0 := by
        rcases Nat.lt_or_ge i m0 with q | q
        · exact q
        · exfalso
          have e1 : i = m0 := by omega
          have e2 := hPD.2.2.1
          rw [← e1, eD] at e2
          have e2 : dn = 2 ^ S.cnt - 1 := e2
          omega
      refine q_iconst (pc' := 40) (dk_at dkX6_laysBest 26 rfl) rfl ?_
      refine q_istore (pc' := 42) (L' := [some (vR m), some (vI fl), some (vI (fu : Int)), some (vI (dn : Int)), some (vI fv), some (vI (t : Int)), some (vI cs), some (vI 1), x8, x9]) (dk_at dkX6_laysBest 27 rfl) (by decide) rfl rfl ?_
      obtain ⟨p1, p2, p3, p4, p5, p6⟩ := hPD.2.1 i (by omega)
      rw [eD] at p1 p3 p4 p5 p6
      refine l_lba (F := _) (h := h) (x8 := x8) (x9 := x9) hd hR hk hSt hc8 hp8 hD hfl hdn hfv he p2 p3 p4 p6 ?_ 256 1 _ _ _ _ (by omega) (by omega) ?_ (fun _ => rfl) hM hF
      · intro f1 t1 c1 h2 ef et ec hM hF
        have hE2 := he.step hk (l := fv) (okS_i (alw_i p3).1).1 p2 (alw_i p3).2.1
        rw [← et] at hE2
        refine q_aload_n (pc' := 85) (dk_at dkX6_laysBest 50 rfl) rfl rfl ?_
        refine q_iload (pc' := 87) (dk_at dkX6_laysBest 51 rfl) rfl rfl ?_
        refine q_aload_n (pc' := 88) (dk_at dkX6_laysBest 52 rfl) rfl rfl ?_
        refine r_getf (pc' := 91) fl_RX6_206 (dk_at dkX6_laysBest 53 rfl) hM.obj rfl rfl ?_
        have her := he.r
        have hcr := smT_2k hk (s := ts i) (en := (t1 : Int)) (by have := hE2.r; omega) S.cnt
        rw [← ec] at hcr
        refine r_cVI (pc' := 94) (As := [vI cs, vI c1]) (S := []) cv_RX6_140 (dk_at dkX6_laysBest 54 rfl) hM.obj rfl (k_M_with (d := 8) (by omega) hR hk (by omega) (by omega) hM) (by omega) (Nat.zero_le _) (Nat.zero_le _) rfl (Nat.le_of_ble_eq_true rfl) rfl (Nat.le_of_ble_eq_true rfl) rfl (fun xx3 hh4 hphh4 => ?_)
        obtain ⟨qq5, rfl⟩ := hphh4
        rw [qq5]
        rw [show jn S cs c1 = smT S (ts i) (endS S (ts i) fv (t : Int)) cs S.cnt by rw [ec, smT_jn he.2.1, et]]
        refine q_istore (pc' := 96) (L' := [some (vR m), some (vI fl), some (vI (fu : Int)), some (vI (dn : Int)), some (vI fv), some (vI (t : Int)), some (vI (smT S (ts i) (endS S (ts i) fv (t : Int)) cs S.cnt)), some (vI (ts i : Int)), x8, x9]) (dk_at dkX6_laysBest 55 rfl) (by decide) rfl rfl ?_
        refine q_aload_n (pc' := 97) (dk_at dkX6_laysBest 56 rfl) rfl rfl ?_
        refine r_getf (pc' := 100) fl_RX6_200 (dk_at dkX6_laysBest 57 rfl) hM.obj rfl rfl ?_
        refine q_istore (pc' := 102) (L' := [some (vR m), some (vI fl), some (vI (fu : Int)), some (vI (dn : Int)), some (vI (f1 : Int)), some (vI (t : Int)), some (vI (smT S (ts i) (endS S (ts i) fv (t : Int)) cs S.cnt)), some (vI (ts i : Int)), x8, x9]) (dk_at dkX6_laysBest 58 rfl) (by decide) rfl rfl ?_
        refine q_aload_n (pc' := 103) (dk_at dkX6_laysBest 59 rfl) rfl rfl ?_
        refine r_getf (pc' := 106) fl_RX6_203 (dk_at dkX6_laysBest 60 rfl) hM.obj rfl rfl ?_
        refine q_istore (pc' := 108) (L' := [some (vR m), some (vI fl), some (vI (fu : Int)), some (vI (dn : Int)), some (vI (f1 : Int)), some (vI (t1 : Int)), some (vI (smT S (ts i) (endS S (ts i) fv (t : Int)) cs S.cnt)), some (vI (ts i : Int)), x8, x9]) (dk_at dkX6_laysBest 61 rfl) (by decide) rfl rfl ?_
        refine q_iconst (pc' := 109) (dk_at dkX6_laysBest 62 rfl) rfl ?_
        refine q_istore (pc' := 111) (L' := [some (vR m), some (vI fl), some (vI (fu : Int)), some (vI (dn : Int)), some (vI (f1 : Int)), some (vI (t1 : Int)), some (vI (smT S (ts i) (endS S (ts i) fv (t : Int)) cs S.cnt)), some (vI (ts i : Int)), some (vI 1), x9]) (dk_at dkX6_laysBest 63 rfl) (by decide) rfl rfl ?_
        refine q_iconst (pc' := 112) (dk_at dkX6_laysBest 64 rfl) rfl ?_
        refine q_istore (pc' := 114) (L' := [some (vR m), some (vI fl), some (vI (fu : Int)), some (vI (dn : Int)), some (vI (f1 : Int)), some (vI (t1 : Int)), some (vI (smT S (ts i) (endS S (ts i) fv (t : Int)) cs S.cnt)), some (vI (ts i : Int)), some (vI 1), some (vI 0)]) (dk_at dkX6_laysBest 65 rfl) (by decide) rfl rfl ?_
        have hwn := wpN_r (c := S.cnt) (ts := ts) (P := (0, 0, o, e)) (Nat.le_refl 0) i
        have hsm := szN_mono (c := S.cnt) (ts := ts) m0 (show i + 1 ≤ m0 by omega)
        have hwm := (wpN_r (c := S.cnt) (ts := ts) (P := (0, 0, o, e)) (Nat.le_refl 0) m0).1
        have hz8 : (wrP S ts m0 o e).sz = S.cnt := (best_ok hk hB hO).2
        rw [wrP_sz, hwm] at hz8
        have hz9 : (0 : Nat) + szN S.cnt ts m0 = S.cnt := hz8
        have hsm2 : szN S.cnt ts i + pcT (ts i) S.cnt ≤ szN S.cnt ts m0 := hsm
        have hq1 : (wpN S.cnt ts (0, 0, o, e) i).sz = 0 + szN S.cnt ts i := hwn.1
        refine l_lbb (F := _) (h := h) (Q := (wpN S.cnt ts (0, 0, o, e) i)) hd hR hk hc8 (T0 := ts i) (by omega) hwn.2 (by omega) ?_ S.cnt 0 _ _ (wpN S.cnt ts (0, 0, o, e) i) 1 _ (by omega) rfl hW hSq (Or.inl rfl) hM hF
        intro sq2 op2 X h3 x8 x9 eX hW hSq hM hF
        refine q_iload_n (pc' := 185) (dk_at dkX6_laysBest 102 rfl) rfl rfl ?_
        refine q_iload (pc' := 187) (dk_at dkX6_laysBest 103 rfl) rfl rfl ?_
        refine q_ior (pc' := 188) (dk_at dkX6_laysBest 104 rfl) (by omega) (by omega) rfl ?_
        rw [show ((((dn : Int)).toNat ||| ((ts i : Int)).toNat : Nat) : Int) = ((dn ||| (ts i) : Nat) : Int) from nt_or dn (ts i)]
        refine q_istore_n (pc' := 189) (L' := [some (vR m), some (vI fl), some (vI (fu : Int)), some (vI ((dn ||| (ts i) : Nat) : Int)), some (vI (f1 : Int)), some (vI (t1 : Int)), some (vI (smT S (ts i) (endS S (ts i) fv (t : Int)) cs S.cnt)), some (vI (ts i : Int)), x8, x9]) (dk_at dkX6_laysBest 105 rfl) (by decide) rfl rfl ?_
        refine q_goto (tgt := 34) (dk_at dkX6_laysBest 106 rfl) rfl ?_
        have hi3 : i < m0 := hi3
        refine ih (i + 1) (dn ||| ts i) t1 (f1 : Int) _ sq2 op2 _ _ _ _ _ _ _ (by omega) (by omega) ?_ (by have : X = (wpN S.cnt ts (0, 0, o, e) (i + 1)) := eX; rw [← this]; exact hW) (by have : X = (wpN S.cnt ts (0, 0, o, e) (i + 1)) := eX; rw [← this]; exact hSq) (by have : X = (wpN S.cnt ts (0, 0, o, e) (i + 1)) := eX; rw [← this]; exact hM) hF
        rw [p5, ef, et]
      · have := (okS_i (alw_i p3).1).1
        omega

set_option maxHeartbeats 4000000 in
set_option maxRecDepth 100000 in
theorem k_M_laysBest {d n : Nat} {h : PH} {m : Nat} {A sd sq op ss es bo su se tx ba le fr un sF sR sT ad : Nat → Int} {sm th l0 bm tl nf ne nc : Int} {S : Shp} {ts : Nat → Nat} {m0 : Nat} {o e : Nat → Int} (hd : 9 ≤ d) (hR : MR A S) (hk : Sok S) (hL : LInv le fr un) (hB : BestP S ts m0) (hO : ∀ k, 0 ≤ o k ∧ o k ≤ 7) (hfl : -1000000 ≤ lcS S (-1) ∧ lcS S (-1) ≤ 288000000) (hM : isModel n h m A sd sm th sq op l0 ss es bo su se bm tx tl ba le fr un nf ne nc sF sR sT ad) : CtrV mX6_laysBest d [vR m, vI (lcS S (-1))] n h (fun h' => ∃ (sq1 op1 le1 fr1 un1 sF1 sR1 sT1 : Nat → Int) (nf1 ne1 nc1 : Int), isModel n h' m A sd sm th sq1 op1 ((wrP S ts m0 o e).sz : Int) ss es bo su se bm tx tl ba le1 fr1 un1 nf1 ne1 nc1 sF1 sR1 sT1 ad ∧ SqP sq1 op1 (wrP S ts m0 o e) ∧ LInv le1 fr1 un1 ∧ Fr h h' m (m + 19)) := by
  have hF : Fr h h m (m + 19) := Fr.rf
  have hc8 := hk.c
  have hp8 := nt_pow_r hk.c
  obtain ⟨fu, hfu⟩ : ∃ z, z + 1 = 2 ^ S.cnt := ⟨2 ^ S.cnt - 1, by omega⟩
  refine q_beginV (L := [some (vR m), some (vI (lcS S (-1))), none, none, none, none, none, none, none, none]) rfl ?_
  refine q_iconst (pc' := 1) (dk_at dkX6_laysBest 0 rfl) rfl ?_
  refine q_aload_n (pc' := 2) (dk_at dkX6_laysBest 1 rfl) rfl rfl ?_
  refine r_getf (pc' := 5) fl_RX6_7 (dk_at dkX6_laysBest 2 rfl) hM.obj rfl rfl ?_
  refine q_iconst (pc' := 6) (dk_at dkX6_laysBest 3 rfl) rfl ?_
  refine r_iald (pc' := 7) (dk_at dkX6_laysBest 4 rfl) hM.all 0 (by omega) (by omega) (by decide) rfl ?_
  rw [hR.c]
  refine q_ishl (pc' := 8) (dk_at dkX6_laysBest 5 rfl) (by omega) (by omega) rfl ?_
  have bb1 := nt_pow_r (j := S.cnt) (by omega)
  rw [show ((1 : Int) * 2 ^ ((S.cnt : Int)).toNat) = ((2 ^ S.cnt : Nat) : Int) from nt_shl1 S.cnt]
  refine q_iconst (pc' := 9) (dk_at dkX6_laysBest 6 rfl) rfl ?_
  refine q_isub (pc' := 10) (dk_at dkX6_laysBest 7 rfl) rfl ?_
  rw [show (((2 ^ S.cnt : Nat) : Int) - 1) = (fu : Int) by omega]
  refine q_istore_n (pc' := 11) (L' := [some (vR m), some (vI (lcS S (-1))), some (vI (fu : Int)), none, none, none, none, none, none, none]) (dk_at dkX6_laysBest 8 rfl) (by decide) rfl rfl ?_
  refine q_aload_n (pc' := 12) (dk_at dkX6_laysBest 9 rfl) rfl rfl ?_
  refine r_cVV (pc' := 15) (As := []) (S := []) cv_RX6_243 (dk_at dkX6_laysBest 10 rfl) hM.obj rfl (k_M_laysRests (d := 8) (by omega) hR hk hL hM) (by omega) (Nat.zero_le _) (Nat.zero_le _) rfl (Nat.le_of_ble_eq_true rfl) rfl (Nat.le_of_ble_eq_true rfl) rfl (fun hh3 hphh3 => ?_)
  obtain ⟨le1, fr1, un1, sF1, sR1, sT1, nf1, ne1, nc1, hM, hSt, hD, hL, hGf⟩ := hphh3
  have hF := hF.tr hGf (by omega)
  refine q_iconst (pc' := 16) (dk_at dkX6_laysBest 11 rfl) rfl ?_
  refine q_istore_n (pc' := 17) (L' := [some (vR m), some (vI (lcS S (-1))), some (vI (fu : Int)), some (vI 0), none, none, none, none, none, none]) (dk_at dkX6_laysBest 12 rfl) (by decide) rfl rfl ?_
  refine q_iconst (pc' := 18) (dk_at dkX6_laysBest 13 rfl) rfl ?_
  refine q_istore (pc' := 20) (L' := [some (vR m), some (vI (lcS S (-1))), some (vI (fu : Int)), some (vI 0), some (vI (-1)), none, none, none, none, none]) (dk_at dkX6_laysBest 14 rfl) (by decide) rfl rfl ?_
  refine q_iconst (pc' := 21) (dk_at dkX6_laysBest 15 rfl) rfl ?_
  refine q_istore (pc' := 23) (L' := [some (vR m), some (vI (lcS S (-1))), some (vI (fu : Int)), some (vI 0), some (vI (-1)), some (vI 0), none, none, none, none]) (dk_at dkX6_laysBest 16 rfl) (by decide) rfl rfl ?_
  refine q_aload_n (pc' := 24) (dk_at dkX6_laysBest 17 rfl) rfl rfl ?_
  refine r_cVI (pc' := 27) (As := []) (S := []) cv_RX6_122 (dk_at dkX6_laysBest 18 rfl) hM.obj rfl (k_M_costOfNothing (d := 8) (by omega) hR hk hM) (by omega) (Nat.zero_le _) (Nat.zero_le _) rfl (Nat.le_of_ble_eq_true rfl) rfl (Nat.le_of_ble_eq_true rfl) rfl (fun xx4 hh5 hphh5 => ?_)
  obtain ⟨qq6, rfl⟩ := hphh5
  rw [qq6]
  refine q_istore (pc' := 29) (L' := [some (vR m), some (vI (lcS S (-1))), some (vI (fu : Int)), some (vI 0), some (vI (-1)), some (vI 0), some (vI (neuM S)), none, none, none]) (dk_at dkX6_laysBest 19 rfl) (by decide) rfl rfl ?_
  refine q_aload_n (pc' := 30) (dk_at dkX6_laysBest 20 rfl) rfl rfl ?_
  refine q_iconst (pc' := 31) (dk_at dkX6_laysBest 21 rfl) rfl ?_
  refine r_putf (pc' := 34) fp_RX6_119 (dk_at dkX6_laysBest 22 rfl) hM.obj (Nat.le_of_ble_eq_true rfl) (PT_int _) rfl (fun hh7 ehh7 => ?_)
  have hM := hM.w_obj ehh7
  have hF := hF.put ehh7 (by omega)
  obtain ⟨D, hPD⟩ := path_of hk hB
  refine QN_mono (l_lb0 (h := h) (o := o) (e := e) hd hR hk hSt hc8 hp8.2 hD (by omega) hPD hB hO hfu (m0 + 1) 0 0 0 (-1) (neuM S) _ _ _ _ _ _ none none none (by omega) (by omega) hPD.1 ⟨rfl, fun b hb => absurd hb (Nat.not_lt_zero _)⟩ ⟨fun k hk => absurd hk (Nat.not_lt_zero _), fun k hk => absurd hk (Nat.not_lt_zero _)⟩ hM hF) ?_
  rintro h2 ⟨_, _, _, _, _, hM, hS, hF⟩
  exact ⟨_, _, _, _, _, _, _, _, _, _, _, hM, hS, hL, hF⟩

set_option maxHeartbeats 4000000 in
set_option maxRecDepth 100000 in
theorem k_M_keepBest {d n : Nat} {h : PH} {m : Nat} {S : Shp} {P : PlS} {kn bs : Int} {sv tl : Nat} {x : Nat → Snp} {tx : Nat → Int} {th : Int} {ts : Nat → Nat} {m0 : Nat} (hd : 30 ≤ d) (hI : MOI n h m th ((S, P, kn, bs), sv, x, tx, tl)) (hO : BOk ((S, P, kn, bs), sv, x, tx, tl)) (hB : BestP S ts m0) : CtrJ mX6_keepBest d [vR m] n h (fun v h' => v = lcS S (-1) ∧ MOI n h' m 0 ((S, wrP S ts m0 P.od P.en, kn, bs), pshN sv, (pshX sv x (S, P, kn, bs)), tx, tl) ∧ Fr h h' m (m + 19)) := by
  obtain ⟨A, sd, sq, op, ss, es, bo, su, se, tx1, ba, le, fr, un, sF, sR, sT, ad, l0, bm, nf, ne, nc, hM, ⟨hR, hP⟩, hSv, hTx, hL⟩ := hI
  have hM : isModel n h m A sd (sv : Int) th sq op l0 ss es bo su se bm tx1 (tl : Int) ba le fr un nf ne nc sF sR sT ad := hM
  have hR : MR A S := hR
  have hP : MP A P := hP
  have hSv : MSv sd sv x := hSv
  have hTx : ∀ i, i < tl → tx1 i = tx i := hTx
  obtain ⟨hko, hsv, hks, htl, htx⟩ := hO
  have hko : SnOk (S, P, kn, bs) := hko
  have hsv : sv ≤ 4 := hsv
  have hks : ∀ i, i < sv → SnOk (x i) := hks
  have htl : tl ≤ 60 := htl
  have htx : ∀ i, 0 ≤ tx i ∧ tx i ≤ 127 := htx
  have hk : Sok S := hko.1
  have hc8 := hk.c
  have hkp : Pok S.cnt P.od P.en P.bc P.sz := hko.2.1
  have hp8 : P.sz ≤ 8 := hkp.1
  have hpb : P.bc ≤ P.sz := hkp.2.1
  have hA0 := hR.c
  have hF : Fr h h m (m + 19) := Fr.rf
  refine q_beginJ (L := [some (vR m), none]) rfl ?_
  refine q_aload_n (pc' := 1) (dk_at dkX6_keepBest 0 rfl) rfl rfl ?_
  refine q_iconst (pc' := 2) (dk_at dkX6_keepBest 1 rfl) rfl ?_
  refine r_putf (pc' := 5) fp_RX6_66 (dk_at dkX6_keepBest 2 rfl) hM.obj (Nat.le_of_ble_eq_true rfl) (PT_int _) rfl (fun hh1 ehh1 => ?_)
  have hM := hM.w_obj ehh1
  have hF := hF.put ehh1 (by omega)
  refine q_aload_n (pc' := 6) (dk_at dkX6_keepBest 3 rfl) rfl rfl ?_
  refine r_cVV (pc' := 9) (As := []) (S := []) cv_RX6_95 (dk_at dkX6_keepBest 4 rfl) hM.obj rfl (k_M_save (d := 0) (c := (S, P, kn, bs)) hko hks hsv ⟨hR, hP⟩ hSv hM) (by omega) (Nat.zero_le _) (Nat.zero_le _) rfl (Nat.le_of_ble_eq_true rfl) rfl (Nat.le_of_ble_eq_true rfl) rfl (fun hh3 hphh3 => ?_)
  obtain ⟨sd2, hM, hSv, hGf⟩ := hphh3
  have hF := hF.tr hGf (by omega)
  refine q_aload_n (pc' := 10) (dk_at dkX6_keepBest 5 rfl) rfl rfl ?_
  refine r_cVI (pc' := 13) (As := []) (S := []) cv_RX6_250 (dk_at dkX6_keepBest 6 rfl) hM.obj rfl (k_M_best (d := 20) (S := S) (by omega) hR hk hL hM) (by omega) (Nat.zero_le _) (Nat.zero_le _) rfl (Nat.le_of_ble_eq_true rfl) rfl (Nat.le_of_ble_eq_true rfl) rfl (fun xx4 hh5 hphh5 => ?_)
  obtain ⟨ex1, exr, le1, fr1, un1, sF1, sR1, sT1, nf1, ne1, nc1, hM, hL, hGf⟩ := hphh5
  have hF := hF.tr hGf (by omega)
  rw [ex1] at exr
  subst ex1
  refine q_istore_n (pc' := 14) (L' := [some (vR m), some (vI (lcS S (-1)))]) (dk_at dkX6_keepBest 7 rfl) (by decide) rfl rfl ?_
  refine q_aload_n (pc' := 15) (dk_at dkX6_keepBest 8 rfl) rfl rfl ?_
  refine q_iload_n (pc' := 16) (dk_at dkX6_keepBest 9 rfl) rfl rfl ?_
  refine r_cVV (pc' := 19) (As := [vI (lcS S (-1))]) (S := []) cv_RX6_253 (dk_at dkX6_keepBest 10 rfl) hM.obj rfl (k_M_laysBest (d := 20) (S := S) (o := P.od) (e := P.en) (by omega) hR hk hL hB hkp.2.2.1 exr hM) (by omega) (Nat.zero_le _) (Nat.zero_le _) rfl (Nat.le_of_ble_eq_true rfl) rfl (Nat.le_of_ble_eq_true rfl) rfl (fun hh7 hphh7 => ?_)
  obtain ⟨sq1, op1, le2, fr2, un2, sF2, sR2, sT2, nf2, ne2, nc2, hM, hSq, hL, hGf⟩ := hphh7
  have hF := hF.tr hGf (by omega)
  have hbo := best_ok hk hB (e := P.en) hkp.2.2.1
  refine q_aload_n (pc' := 20) (dk_at dkX6_keepBest 11 rfl) rfl rfl ?_
  refine r_cVV (pc' := 23) (As := []) (S := []) cv_RX6_160 (dk_at dkX6_keepBest 12 rfl) hM.obj rfl (k_M_keepsIt (d := 20) (P := wrP S ts m0 P.od P.en) (by omega) hSq hM) (by omega) (Nat.zero_le _) (Nat.zero_le _) rfl (Nat.le_of_ble_eq_true rfl) rfl (Nat.le_of_ble_eq_true rfl) rfl (fun hh9 hphh9 => ?_)
  obtain ⟨A1, hM, hA1, hP1, hGf⟩ := hphh9
  have hF := hF.tr hGf (by omega)
  have hR1 := hR.cong hA1 hc8
  refine q_iload_n (pc' := 24) (dk_at dkX6_keepBest 13 rfl) rfl rfl ?_
  refine q_i2l (pc' := 25) (dk_at dkX6_keepBest 14 rfl) (by omega) rfl ?_
  refine r_lret rfl (dk_at dkX6_keepBest 15 rfl) ?_
  exact ⟨rfl, ⟨_, _, _, _, _, _, _, _, _, _, _, _, _, _, _, _, _, _, _, _, _, _, _, hM, ⟨hR1, hP1⟩, hSv, hTx, hL⟩, hF⟩
