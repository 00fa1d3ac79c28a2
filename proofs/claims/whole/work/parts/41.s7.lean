/-! Search: writePlan -/
abbrev PlS : Type := Nat × Nat × (Nat → Int) × (Nat → Int)
def PlS.sz (P : PlS) : Nat := P.1
def PlS.bc (P : PlS) : Nat := P.2.1
def PlS.od (P : PlS) : Nat → Int := P.2.2.1
def PlS.en (P : PlS) : Nat → Int := P.2.2.2
def isPlS (n : Nat) (h : PH) (p : Nat) (P : PlS) : Prop := isPlan n h p (P.sz : Int) (P.bc : Int) P.od P.en
def addB (P : PlS) (fr : Int) : Nat := if fr = 1 ∨ P.bc = 0 then P.bc + 1 else P.bc
def addL (P : PlS) (j : Nat) (fr : Int) : PlS := (P.sz + 1, addB P fr, upz P.od P.sz (j : Int), upz P.en (addB P fr - 1) ((P.sz : Int) + 1))
theorem addB_r {P : PlS} {fr : Int} (h : P.bc ≤ P.sz) : 1 ≤ addB P fr ∧ addB P fr ≤ P.sz + 1 := by unfold addB; split <;> omega
theorem k_Plan_addL {d n : Nat} {h : PH} {p j : Nat} {P : PlS} {fr : Int} (hP : isPlS n h p P) (hs : P.sz < 8) (hb : P.bc ≤ P.sz) (hfr : fr = 0 ∨ fr = 1) : CtrV mX0_addLast d [vR p, vI (j : Int), vI fr] n h (fun h' => isPlS n h' p (addL P j fr) ∧ Fr h h' p (p + 3)) := by
  refine (k_Plan_addLast hP hs hb hfr).mono (fun h' z => ?_)
  obtain ⟨bc', e', h1, h2, h3, h4⟩ := z
  have e1 : bc' = (addB P fr : Int) := by
    rw [h2]; unfold addB
    by_cases q : fr = 1 ∨ P.bc = 0
    · rw [if_pos q, if_pos q]; rfl
    · rw [if_neg q, if_neg q]
  have a1 := addB_r (fr := fr) hb
  rw [h3, e1, show ((addB P fr : Int) - 1).toNat = addB P fr - 1 by omega] at h1
  exact ⟨h1, h4⟩
/-- the jobs of set t below j behind plan P; whether the next begins a batch -/
def wpJ (t : Nat) (P : PlS) : Nat → PlS × Int
  | 0 => (P, 1)
  | j + 1 => if t / 2 ^ j % 2 = 1 then (addL (wpJ t P j).1 j (wpJ t P j).2, 0) else wpJ t P j
def pcT (t : Nat) : Nat → Nat
  | 0 => 0
  | j + 1 => if t / 2 ^ j % 2 = 1 then pcT t j + 1 else pcT t j
def wpN (c : Nat) (ts : Nat → Nat) (P : PlS) : Nat → PlS
  | 0 => P
  | i + 1 => (wpJ (ts i) (wpN c ts P i) c).1
def szN (c : Nat) (ts : Nat → Nat) : Nat → Nat
  | 0 => 0
  | i + 1 => szN c ts i + pcT (ts i) c
theorem wpJ_r {t : Nat} {P : PlS} (hb : P.bc ≤ P.sz) : ∀ j, (wpJ t P j).1.sz = P.sz + pcT t j ∧ (wpJ t P j).1.bc ≤ (wpJ t P j).1.sz ∧ ((wpJ t P j).2 = 0 ∨ (wpJ t P j).2 = 1)
  | 0 => ⟨rfl, hb, Or.inr rfl⟩
  | j + 1 => by
    have h := wpJ_r (t := t) hb j
    unfold wpJ pcT
    by_cases q : t / 2 ^ j % 2 = 1
    · rw [if_pos q, if_pos q]
      have a1 := addB_r (fr := (wpJ t P j).2) h.2.1
      refine ⟨?_, a1.2, Or.inl rfl⟩
      show (wpJ t P j).1.sz + 1 = _
      omega
    · rw [if_neg q, if_neg q]; exact h
theorem pcT_mono {t i : Nat} : ∀ j, i ≤ j → pcT t i ≤ pcT t j
  | 0, h => by rw [show i = 0 by omega]; exact Nat.le_refl _
  | j + 1, h => by
    by_cases q : i = j + 1
    · rw [q]; exact Nat.le_refl _
    · have := pcT_mono (t := t) j (show i ≤ j by omega)
      rw [show pcT t (j + 1) = if t / 2 ^ j % 2 = 1 then pcT t j + 1 else pcT t j from rfl]
      split <;> omega
theorem szN_mono {c : Nat} {ts : Nat → Nat} {i : Nat} : ∀ j, i ≤ j → szN c ts i ≤ szN c ts j
  | 0, h => by rw [show i = 0 by omega]; exact Nat.le_refl _
  | j + 1, h => by
    by_cases q : i = j + 1
    · rw [q]; exact Nat.le_refl _
    · have := szN_mono (c := c) (ts := ts) j (show i ≤ j by omega)
      rw [show szN c ts (j + 1) = szN c ts j + pcT (ts j) c from rfl]
      omega
theorem wpN_r {c : Nat} {ts : Nat → Nat} {P : PlS} (hb : P.bc ≤ P.sz) : ∀ i, (wpN c ts P i).sz = P.sz + szN c ts i ∧ (wpN c ts P i).bc ≤ (wpN c ts P i).sz
  | 0 => ⟨rfl, hb⟩
  | i + 1 => by
    have h := wpN_r (c := c) (ts := ts) hb i
    have h1 := wpJ_r (t := ts i) h.2 c
    unfold wpN szN
    exact ⟨by omega, h1.2.1⟩
theorem addL_od {P : PlS} {j : Nat} {fr : Int} (hj : j ≤ 7) (h : ∀ k, 0 ≤ P.od k ∧ P.od k ≤ 7) : ∀ k, 0 ≤ (addL P j fr).od k ∧ (addL P j fr).od k ≤ 7 := fun k => by
  show 0 ≤ upz P.od P.sz (j : Int) k ∧ upz P.od P.sz (j : Int) k ≤ 7
  unfold upz
  split
  · omega
  · exact h k
theorem wpJ_od {t : Nat} {P : PlS} (h : ∀ k, 0 ≤ P.od k ∧ P.od k ≤ 7) : ∀ j, j ≤ 8 → ∀ k, 0 ≤ (wpJ t P j).1.od k ∧ (wpJ t P j).1.od k ≤ 7
  | 0, _ => h
  | j + 1, hj => by
    have h1 := wpJ_od (t := t) h j (by omega)
    unfold wpJ
    split
    · exact addL_od (by omega) h1
    · exact h1
theorem wpN_od {c : Nat} (hc : c ≤ 8) {ts : Nat → Nat} {P : PlS} (h : ∀ k, 0 ≤ P.od k ∧ P.od k ≤ 7) : ∀ i k, 0 ≤ (wpN c ts P i).od k ∧ (wpN c ts P i).od k ≤ 7
  | 0 => h
  | i + 1 => wpJ_od (wpN_od hc h i) c hc
/-- what writePlan writes -/
def wrP (S : Shp) (ts : Nat → Nat) (m : Nat) (o e : Nat → Int) : PlS :=
  let Q := wpN S.cnt ts (0, 0, o, e) m
  if S.wh = 1 then Q else (Q.sz, grB (fun k => S.V 0 (Q.od k).toNat) Q.sz, Q.od, grE (fun k => S.V 0 (Q.od k).toNat) Q.en Q.sz)
set_option maxHeartbeats 4000000 in
set_option maxRecDepth 100000 in
theorem l_wp1 {d n : Nat} {F : FT} {h : PH} {b p m : Nat} {S : Shp} {ts : Nat → Nat} {o e : Nat → Int} {al fi bs fl sc fc : Int} {st fa re wo lg rk ch fo sC sT sX : Nat → Int} {G : Nat → Nat → Int} (hk : Sok S) (hc8 : S.cnt ≤ 8) (hbp : p + 3 ≤ b ∨ b + 31 ≤ p) {i : Nat} {P : PlS} (hm8 : m ≤ 8) (hi : i < m) (hfi : fo i = (ts i : Int)) (hti : ts i < 256) (hPb : P.bc ≤ P.sz) (hPs : P.sz + pcT (ts i) S.cnt ≤ 8) (hd : 1 ≤ d) (hex : ∀ (h1 : PH) (x3 x4 : Option PV), isSearch n h1 b al fi bs fl sc st fa re wo G lg rk ch fo fc sC sT sX → isShp n h1 (b + 1) S → isPlS n h1 p (wpJ (ts i) P S.cnt).1 → Fr h h1 p (p + 3) → QN mX1_writePlan d F 60 [some (vR b), some (vR p), some (vI (i : Int)), x3, x4] [] n h1) : ∀ (c : Nat) (j : Nat) (h1 : PH), (j + c = S.cnt) → (isSearch n h1 b al fi bs fl sc st fa re wo G lg rk ch fo fc sC sT sX) → (isShp n h1 (b + 1) S) → (isPlS n h1 p (wpJ (ts i) P j).1) → (Fr h h1 p (p + 3)) → QN mX1_writePlan d F 19 [some (vR b), some (vR p), some (vI (i : Int)), some (vI (wpJ (ts i) P j).2), some (vI (j : Int))] [] n h1 := by
  intro c
  induction c with
  | zero =>
    intro j h1 hc hX hS hP hF
    refine q_iload (pc' := 21) (dk_at dkX1_writePlan 12 rfl) rfl rfl ?_
    refine q_aload_n (pc' := 22) (dk_at dkX1_writePlan 13 rfl) rfl rfl ?_
    refine r_getf (pc' := 25) fl_RX1_12 (dk_at dkX1_writePlan 14 rfl) hX.obj rfl rfl ?_
    refine r_getf (pc' := 28) fl_RX1_76 (dk_at dkX1_writePlan 15 rfl) hS.obj rfl rfl ?_
    refine q_icmp_ge (tgt := 60) (pc' := 31) (dk_at dkX1_writePlan 16 rfl) rfl rfl (by omega) (by omega) (fun c28 => ?_) (fun c28 => ?_)
    · first | (exfalso; omega; done) | (rw [show j = S.cnt by omega] at hP; exact hex h1 _ _ hX hS hP hF)
    · exfalso
      omega
  | succ c ih =>
    intro j h1 hc hX hS hP hF
    refine q_iload (pc' := 21) (dk_at dkX1_writePlan 12 rfl) rfl rfl ?_
    refine q_aload_n (pc' := 22) (dk_at dkX1_writePlan 13 rfl) rfl rfl ?_
    refine r_getf (pc' := 25) fl_RX1_12 (dk_at dkX1_writePlan 14 rfl) hX.obj rfl rfl ?_
    refine r_getf (pc' := 28) fl_RX1_76 (dk_at dkX1_writePlan 15 rfl) hS.obj rfl rfl ?_
    refine q_icmp_ge (tgt := 60) (pc' := 31) (dk_at dkX1_writePlan 16 rfl) rfl rfl (by omega) (by omega) (fun c28 => ?_) (fun c28 => ?_)
    · first | (exfalso; omega; done) | (rw [show j = S.cnt by omega] at hP; exact hex h1 _ _ hX hS hP hF)
    · have hw := wpJ_r (t := ts i) hPb j
      have hpm := pcT_mono (t := ts i) (i := j + 1) S.cnt (by omega)
      have hpj : pcT (ts i) (j + 1) = if ts i / 2 ^ j % 2 = 1 then pcT (ts i) j + 1 else pcT (ts i) j := rfl
      refine q_aload_n (pc' := 32) (dk_at dkX1_writePlan 17 rfl) rfl rfl ?_
      refine r_getf (pc' := 35) fl_RX1_45 (dk_at dkX1_writePlan 18 rfl) hX.obj rfl rfl ?_
      refine q_iload_n (pc' := 36) (dk_at dkX1_writePlan 19 rfl) rfl rfl ?_
      refine r_iald (pc' := 37) (dk_at dkX1_writePlan 20 rfl) hX.found i (by omega) (by omega) (by decide) rfl ?_
      rw [hfi]
      refine q_iload (pc' := 39) (dk_at dkX1_writePlan 21 rfl) rfl rfl ?_
      refine q_ishr (pc' := 40) (dk_at dkX1_writePlan 22 rfl) (by omega) (by omega) rfl ?_
      have bb1 := nt_shr_r (ts i) j
      rw [show (((ts i) : Int) / 2 ^ ((j : Int)).toNat) = (((ts i) / 2 ^ j : Nat) : Int) from nt_shr (ts i) j]
      refine q_iconst (pc' := 41) (dk_at dkX1_writePlan 23 rfl) rfl ?_
      refine q_iand (pc' := 42) (dk_at dkX1_writePlan 24 rfl) (by omega) (by omega) rfl ?_
      rw [show ((((((ts i) / 2 ^ j : Nat) : Int)).toNat &&& (1 : Int).toNat : Nat) : Int) = ((((ts i) / 2 ^ j) % 2 : Nat) : Int) from nt_bit ((ts i) / 2 ^ j)]
      refine q_if_eq (tgt := 54) (pc' := 45) (dk_at dkX1_writePlan 25 rfl) rfl rfl (by omega) (fun c42 => ?_) (fun c42 => ?_)
      · refine q_iinc (pc' := 57) (L' := [some (vR b), some (vR p), some (vI (i : Int)), some (vI ((wpJ (ts i) P j).2)), some (vI ((j : Int) + 1))]) (dk_at dkX1_writePlan 32 rfl) (by decide) rfl rfl rfl ?_
        rw [show ((j : Int) + 1) = ((j + 1 : Nat) : Int) by omega]
        refine q_goto (tgt := 19) (dk_at dkX1_writePlan 33 rfl) rfl ?_
        have ej : wpJ (ts i) P (j + 1) = wpJ (ts i) P j := by show (if _ then _ else _) = _; rw [if_neg (by omega)]
        have := ih (j + 1) _ (by omega) hX hS (by rw [ej]; exact hP) hF
        rw [ej] at this
        exact this
      · rw [if_pos (by omega)] at hpj
        refine q_aload_n (pc' := 46) (dk_at dkX1_writePlan 26 rfl) rfl rfl ?_
        refine q_iload (pc' := 48) (dk_at dkX1_writePlan 27 rfl) rfl rfl ?_
        refine q_iload_n (pc' := 49) (dk_at dkX1_writePlan 28 rfl) rfl rfl ?_
        refine r_cVV (pc' := 52) (As := [vI (j : Int), vI ((wpJ (ts i) P j).2)]) (S := []) cv_RX1_114 (dk_at dkX1_writePlan 29 rfl) hP.obj rfl (k_Plan_addL (d := 0) (j := j) hP (by omega) hw.2.1 hw.2.2) (by omega) (Nat.zero_le _) (Nat.zero_le _) rfl (Nat.le_of_ble_eq_true rfl) rfl (Nat.le_of_ble_eq_true rfl) rfl (fun hh3 hphh3 => ?_)
        obtain ⟨hP, hGf⟩ := hphh3
        have hX := hX.frm hGf (by omega)
        have hS := isShop.frm hS hGf (by omega)
        have hF := hF.tr hGf (by omega)
        refine q_iconst (pc' := 53) (dk_at dkX1_writePlan 30 rfl) rfl ?_
        refine q_istore_n (pc' := 54) (L' := [some (vR b), some (vR p), some (vI (i : Int)), some (vI 0), some (vI (j : Int))]) (dk_at dkX1_writePlan 31 rfl) (by decide) rfl rfl ?_
        refine q_iinc (pc' := 57) (L' := [some (vR b), some (vR p), some (vI (i : Int)), some (vI 0), some (vI ((j : Int) + 1))]) (dk_at dkX1_writePlan 32 rfl) (by decide) rfl rfl rfl ?_
        rw [show ((j : Int) + 1) = ((j + 1 : Nat) : Int) by omega]
        refine q_goto (tgt := 19) (dk_at dkX1_writePlan 33 rfl) rfl ?_
        have ej : wpJ (ts i) P (j + 1) = (addL (wpJ (ts i) P j).1 j (wpJ (ts i) P j).2, 0) := by show (if _ then _ else _) = _; rw [if_pos (by omega)]
        have := ih (j + 1) _ (by omega) hX hS (by rw [ej]; exact hP) hF
        rw [ej] at this
        exact this

set_option maxHeartbeats 4000000 in
set_option maxRecDepth 100000 in
theorem l_wp2 {d n : Nat} {h : PH} {b p m : Nat} {S : Shp} {ts : Nat → Nat} {o e : Nat → Int} {al fi bs fl sc : Int} {st fa re wo lg rk ch fo sC sT sX : Nat → Int} {G : Nat → Nat → Int} (hk : Sok S) (hc8 : S.cnt ≤ 8) (hbp : p + 3 ≤ b ∨ b + 31 ≤ p) (hw : S.wh = 0 ∨ S.wh = 1) (hm8 : m ≤ 8) (hO : ∀ k, 0 ≤ o k ∧ o k ≤ 7) (hfo : ∀ i, i < m → fo i = (ts i : Int)) (hts : ∀ i, i < m → ts i < 256) (hsz : szN S.cnt ts m ≤ 8) (hd : 1 ≤ d) : ∀ (c : Nat) (i : Nat) (h1 : PH) (x3 x4 : Option PV), (i + c = m) → (isSearch n h1 b al fi bs fl sc st fa re wo G lg rk ch fo (m : Int) sC sT sX) → (isShp n h1 (b + 1) S) → (isPlS n h1 p (wpN S.cnt ts (0, 0, o, e) i)) → (Fr h h1 p (p + 3)) → QN mX1_writePlan d (FV n (fun h' => isSearch n h' b al fi bs fl sc st fa re wo G lg rk ch fo (m : Int) sC sT sX ∧ isShp n h' (b + 1) S ∧ isPlS n h' p (wrP S ts m o e) ∧ Fr h h' p (p + 3))) 6 [some (vR b), some (vR p), some (vI (i : Int)), x3, x4] [] n h1 := by
  intro c
  induction c with
  | zero =>
    intro i h1 x3 x4 hc hX hS hP hF
    have hr := wpN_r (c := S.cnt) (ts := ts) (P := (0, 0, o, e)) (Nat.le_refl 0) i
    rw [show PlS.sz (0, 0, o, e) = 0 from rfl, Nat.zero_add] at hr
    refine q_iload_n (pc' := 7) (dk_at dkX1_writePlan 4 rfl) rfl rfl ?_
    refine q_aload_n (pc' := 8) (dk_at dkX1_writePlan 5 rfl) rfl rfl ?_
    refine r_getf (pc' := 11) fl_RX1_73 (dk_at dkX1_writePlan 6 rfl) hX.obj rfl rfl ?_
    refine q_icmp_ge (tgt := 66) (pc' := 14) (dk_at dkX1_writePlan 7 rfl) rfl rfl (by omega) (by omega) (fun c11 => ?_) (fun c11 => ?_)
    · have him : i = m := by omega
      rw [him] at hP hr
      refine q_aload_n (pc' := 67) (dk_at dkX1_writePlan 36 rfl) rfl rfl ?_
      refine r_getf (pc' := 70) fl_RX1_12 (dk_at dkX1_writePlan 37 rfl) hX.obj rfl rfl ?_
      refine r_getf (pc' := 73) fl_RX1_118 (dk_at dkX1_writePlan 38 rfl) hS.obj rfl rfl ?_
      refine q_if_ne (tgt := 84) (pc' := 76) (dk_at dkX1_writePlan 39 rfl) rfl rfl (by omega) (fun c73 => ?_) (fun c73 => ?_)
      · refine r_vret rfl (dk_at dkX1_writePlan 44 rfl) ?_
        first | (exfalso; omega; done) | (refine ⟨hX, hS, ?_, hF⟩; unfold wrP; rw [if_pos (by omega)]; exact hP)
      · refine q_aload_n (pc' := 77) (dk_at dkX1_writePlan 40 rfl) rfl rfl ?_
        refine q_aload_n (pc' := 78) (dk_at dkX1_writePlan 41 rfl) rfl rfl ?_
        refine r_getf (pc' := 81) fl_RX1_12 (dk_at dkX1_writePlan 42 rfl) hX.obj rfl rfl ?_
        refine r_cVV (pc' := 84) (As := [vR (b + 1)]) (S := []) cv_RX1_122 (dk_at dkX1_writePlan 43 rfl) hP.obj rfl (k_Plan_groupByFamily (d := 0) hk.v (wpN_od (P := (0, 0, o, e)) hc8 hO m) (by omega) (by omega) hS hP) (by omega) (Nat.zero_le _) (Nat.zero_le _) rfl (Nat.le_of_ble_eq_true rfl) rfl (Nat.le_of_ble_eq_true rfl) rfl (fun hh2 hphh2 => ?_)
        obtain ⟨hP, hGf⟩ := hphh2
        have hX := hX.frm hGf (by omega)
        have hS := isShop.frm hS hGf (by omega)
        have hF := hF.tr hGf (by omega)
        refine r_vret rfl (dk_at dkX1_writePlan 44 rfl) ?_
        refine ⟨hX, hS, ?_, hF⟩
        unfold wrP
        rw [if_neg (by omega)]
        exact hP
    · exfalso
      omega
  | succ c ih =>
    intro i h1 x3 x4 hc hX hS hP hF
    have hr := wpN_r (c := S.cnt) (ts := ts) (P := (0, 0, o, e)) (Nat.le_refl 0) i
    rw [show PlS.sz (0, 0, o, e) = 0 from rfl, Nat.zero_add] at hr
    refine q_iload_n (pc' := 7) (dk_at dkX1_writePlan 4 rfl) rfl rfl ?_
    refine q_aload_n (pc' := 8) (dk_at dkX1_writePlan 5 rfl) rfl rfl ?_
    refine r_getf (pc' := 11) fl_RX1_73 (dk_at dkX1_writePlan 6 rfl) hX.obj rfl rfl ?_
    refine q_icmp_ge (tgt := 66) (pc' := 14) (dk_at dkX1_writePlan 7 rfl) rfl rfl (by omega) (by omega) (fun c11 => ?_) (fun c11 => ?_)
    · have him : i = m := by omega
      rw [him] at hP hr
      refine q_aload_n (pc' := 67) (dk_at dkX1_writePlan 36 rfl) rfl rfl ?_
      refine r_getf (pc' := 70) fl_RX1_12 (dk_at dkX1_writePlan 37 rfl) hX.obj rfl rfl ?_
      refine r_getf (pc' := 73) fl_RX1_118 (dk_at dkX1_writePlan 38 rfl) hS.obj rfl rfl ?_
      refine q_if_ne (tgt := 84) (pc' := 76) (dk_at dkX1_writePlan 39 rfl) rfl rfl (by omega) (fun c73 => ?_) (fun c73 => ?_)
      · refine r_vret rfl (dk_at dkX1_writePlan 44 rfl) ?_
        first | (exfalso; omega; done) | (refine ⟨hX, hS, ?_, hF⟩; unfold wrP; rw [if_pos (by omega)]; exact hP)
      · refine q_aload_n (pc' := 77) (dk_at dkX1_writePlan 40 rfl) rfl rfl ?_
        refine q_aload_n (pc' := 78) (dk_at dkX1_writePlan 41 rfl) rfl rfl ?_
        refine r_getf (pc' := 81) fl_RX1_12 (dk_at dkX1_writePlan 42 rfl) hX.obj rfl rfl ?_
        refine r_cVV (pc' := 84) (As := [vR (b + 1)]) (S := []) cv_RX1_122 (dk_at dkX1_writePlan 43 rfl) hP.obj rfl (k_Plan_groupByFamily (d := 0) hk.v (wpN_od (P := (0, 0, o, e)) hc8 hO m) (by omega) (by omega) hS hP) (by omega) (Nat.zero_le _) (Nat.zero_le _) rfl (Nat.le_of_ble_eq_true rfl) rfl (Nat.le_of_ble_eq_true rfl) rfl (fun hh2 hphh2 => ?_)
        obtain ⟨hP, hGf⟩ := hphh2
        have hX := hX.frm hGf (by omega)
        have hS := isShop.frm hS hGf (by omega)
        have hF := hF.tr hGf (by omega)
        refine r_vret rfl (dk_at dkX1_writePlan 44 rfl) ?_
        refine ⟨hX, hS, ?_, hF⟩
        unfold wrP
        rw [if_neg (by omega)]
        exact hP
    · have hsm := szN_mono (c := S.cnt) (ts := ts) (i := i + 1) m (by omega)
      rw [show szN S.cnt ts (i + 1) = szN S.cnt ts i + pcT (ts i) S.cnt from rfl] at hsm
      refine q_iconst (pc' := 15) (dk_at dkX1_writePlan 8 rfl) rfl ?_
      refine q_istore_n (pc' := 16) (L' := [some (vR b), some (vR p), some (vI (i : Int)), some (vI 1), x4]) (dk_at dkX1_writePlan 9 rfl) (by decide) rfl rfl ?_
      refine q_iconst (pc' := 17) (dk_at dkX1_writePlan 10 rfl) rfl ?_
      refine q_istore (pc' := 19) (L' := [some (vR b), some (vR p), some (vI (i : Int)), some (vI 1), some (vI 0)]) (dk_at dkX1_writePlan 11 rfl) (by decide) rfl rfl ?_
      refine l_wp1 (h := h) (m := m) (i := i) (P := (wpN S.cnt ts (0, 0, o, e) i)) (o := o) (e := e) hk hc8 hbp hm8 (by omega) (hfo i (by omega)) (hts i (by omega)) hr.2 (by omega) hd ?_ S.cnt 0 h1 (by omega) hX hS hP hF
      intro h2 x5 x6 hX hS hP hF
      refine q_iinc (pc' := 63) (L' := [some (vR b), some (vR p), some (vI ((i : Int) + 1)), x5, x6]) (dk_at dkX1_writePlan 34 rfl) (by decide) rfl rfl rfl ?_
      rw [show ((i : Int) + 1) = ((i + 1 : Nat) : Int) by omega]
      refine q_goto (tgt := 6) (dk_at dkX1_writePlan 35 rfl) rfl ?_
      exact ih (i + 1) _ _ _ (by omega) hX hS hP hF

set_option maxHeartbeats 4000000 in
set_option maxRecDepth 100000 in
theorem k_Search_writePlan {d n : Nat} {h : PH} {b p m : Nat} {S : Shp} {ts : Nat → Nat} {o e fo : Nat → Int} {size bc fc : Int} (hd : 1 ≤ d) (hk : Sok S) (hbp : p + 3 ≤ b ∨ b + 31 ≤ p) (hm8 : m ≤ 8) (hO : ∀ k, 0 ≤ o k ∧ o k ≤ 7) (hm : fc = (m : Int)) (hfo : ∀ i, i < m → fo i = (ts i : Int)) (hts : ∀ i, i < m → ts i < 256) (hsz : szN S.cnt ts m ≤ 8) (hX0 : SrP n h b S fc fo) (hP : isPlan n h p size bc o e) : CtrV mX1_writePlan d [vR b, vR p] n h (fun h' => SrP n h' b S fc fo ∧ isPlS n h' p (wrP S ts m o e) ∧ Fr h h' p (p + 3)) := by
  obtain ⟨al, fi, bs, fl, sc, st, fa, re, wo, lg, rk, ch, sC, sT, sX, G, hX, hS, hrk, hsT, hsX⟩ := hX0
  subst hm
  refine CtrV.mono (post := (fun h' => isSearch n h' b al fi bs fl sc st fa re wo G lg rk ch fo (m : Int) sC sT sX ∧ isShp n h' (b + 1) S ∧ isPlS n h' p (wrP S ts m o e) ∧ Fr h h' p (p + 3))) ?_ (fun h' z => ⟨⟨_, _, _, _, _, _, _, _, _, _, _, _, _, _, _, _, z.1, z.2.1, hrk, hsT, hsX⟩, z.2.2⟩)
  have hF : Fr h h p (p + 3) := Fr.rf
  refine q_beginV (L := [some (vR b), some (vR p), none, none, none]) rfl ?_
  refine q_aload_n (pc' := 1) (dk_at dkX1_writePlan 0 rfl) rfl rfl ?_
  refine r_cVV (pc' := 4) (As := []) (S := []) cv_RX1_109 (dk_at dkX1_writePlan 1 rfl) hP.obj rfl (k_Plan_makeEmpty (d := 0) hP) (by omega) (Nat.zero_le _) (Nat.zero_le _) rfl (Nat.le_of_ble_eq_true rfl) rfl (Nat.le_of_ble_eq_true rfl) rfl (fun hh2 hphh2 => ?_)
  obtain ⟨hP, hGf⟩ := hphh2
  have hX := hX.frm hGf (by omega)
  have hS := isShop.frm hS hGf (by omega)
  have hF := hF.tr hGf (by omega)
  refine q_iconst (pc' := 5) (dk_at dkX1_writePlan 2 rfl) rfl ?_
  refine q_istore_n (pc' := 6) (L' := [some (vR b), some (vR p), some (vI 0), none, none]) (dk_at dkX1_writePlan 3 rfl) (by decide) rfl rfl ?_
  exact l_wp2 (h := h) hk hk.c hbp hk.w hm8 hO hfo hts hsz hd m 0 _ none none (by omega) hX hS hP hF
