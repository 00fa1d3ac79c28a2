/-! THE MACHINE'S TIMES: a batch of the places from be to en of the row o, behind family last, at a time -/
def jb (o : Nat → Int) (k : Nat) : Nat := (o k).toNat
def rdW (S : Shp) (o : Nat → Int) (be : Nat) : Nat → Int
  | 0 => S.V 2 (jb o be)
  | i + 1 => max (rdW S o be i) (S.V 2 (jb o (be + 1 + i)))
def rdy (S : Shp) (o : Nat → Int) (be en : Nat) : Int := if S.wh = 1 then rdW S o be (en - be - 1) else S.V 2 (jb o be)
def ptm (S : Shp) (o : Nat → Int) (t0 : Int) (be : Nat) : Nat → Int
  | 0 => t0
  | i + 1 => max (ptm S o t0 be i) (S.V 2 (jb o (be + i))) + S.V 1 (jb o (be + i))
def sst (S : Shp) (o : Nat → Int) (be en : Nat) (free : Int) : Int := if S.er = 1 then free else max free (rdy S o be en)
def stp (S : Shp) (o : Nat → Int) (be : Nat) (last : Int) : Int := S.T (last + 1).toNat (S.V 0 (jb o be)).toNat
def fst0 (S : Shp) (o : Nat → Int) (be en : Nat) (last free : Int) : Int := max (sst S o be en free + stp S o be last) (rdy S o be en)
def fre (S : Shp) (o : Nat → Int) (be en : Nat) (last free : Int) : Int := ptm S o (fst0 S o be en last free) be (en - be)
def tsum (S : Shp) (o : Nat → Int) (be : Nat) : Nat → Int
  | 0 => 0
  | i + 1 => tsum S o be i + S.V 1 (jb o (be + i))
theorem rdW_r {S : Shp} (hV : Vok S.V) (o : Nat → Int) (be : Nat) : ∀ i, 0 ≤ rdW S o be i ∧ rdW S o be i ≤ 300
  | 0 => by have := hV 2 (jb o be); unfold rdW; omega
  | i + 1 => by
    have := rdW_r hV o be i
    have := hV 2 (jb o (be + 1 + i))
    unfold rdW
    omega
theorem rdy_r {S : Shp} (hV : Vok S.V) (o : Nat → Int) (be en : Nat) : 0 ≤ rdy S o be en ∧ rdy S o be en ≤ 300 := by
  unfold rdy
  split
  · exact rdW_r hV o be _
  · have := hV 2 (jb o be)
    omega
theorem ptm_r {S : Shp} (hV : Vok S.V) (o : Nat → Int) {t0 : Int} (ht : 0 ≤ t0) (be : Nat) : ∀ i, t0 ≤ ptm S o t0 be i ∧ ptm S o t0 be i ≤ max t0 300 + 50 * i
  | 0 => by unfold ptm; omega
  | i + 1 => by
    have := ptm_r hV o ht be i
    have := hV 2 (jb o (be + i))
    have := hV 1 (jb o (be + i))
    unfold ptm
    omega
theorem fst0_r {S : Shp} (hV : Vok S.V) (hT : Tok S.T) (o : Nat → Int) (be en : Nat) (last : Int) {free : Int} (hf : 0 ≤ free) : 0 ≤ fst0 S o be en last free ∧ fst0 S o be en last free ≤ max free 300 + 60 ∧ free ≤ fst0 S o be en last free := by
  have h1 := rdy_r hV o be en
  have h2 := hT (last + 1).toNat (S.V 0 (jb o be)).toNat
  unfold fst0 sst stp
  split <;> omega
/-- what a followed batch leaves -/
def BDone (S : Shp) (o : Nat → Int) (be en : Nat) (last free : Int) (b : Nat) (BV JV : Nat → Nat → Int) (tot : Nat → Int) (BV' JV' : Nat → Nat → Int) (tot' : Nat → Int) : Prop :=
  (∀ w k, w < 6 → k ≠ b → BV' w k = BV w k) ∧ (BV' 0 b = S.V 0 (jb o be) ∧ BV' 1 b = (en : Int) - be ∧ BV' 2 b = sst S o be en free ∧ BV' 3 b = sst S o be en free + stp S o be last ∧ BV' 4 b = fst0 S o be en last free ∧ BV' 5 b = fre S o be en last free) ∧
  (∀ i, i < en - be → JV' 0 (jb o (be + i)) = max (ptm S o (fst0 S o be en last free) be i) (S.V 2 (jb o (be + i))) ∧ JV' 1 (jb o (be + i)) = (if S.wh = 1 then fre S o be en last free else ptm S o (fst0 S o be en last free) be (i + 1)) ∧ JV' 2 (jb o (be + i)) = max 0 (JV' 1 (jb o (be + i)) - S.V 3 (jb o (be + i))) ∧ JV' 3 (jb o (be + i)) = b) ∧
  (∀ j, (∀ i, i < en - be → jb o (be + i) ≠ j) → ∀ w, w < 4 → JV' w j = JV w j) ∧ tot' 0 = tot 0 + stp S o be last ∧ tot' 1 = tot 1 + tsum S o be (en - be) ∧ tot' 2 = tot 2
theorem isTiming.cong {n : Nat} {h : PH} {b : Nat} {BV JV JV' : Nat → Nat → Int} {tot : Nat → Int} {free : Int} (H : isTiming n h b BV JV tot free) (hJ : ∀ i, i < 4 → JV i = JV' i) : isTiming n h b BV JV' tot free :=
  ⟨H.1, H.2.1, H.2.2.1, H.2.2.2.1, H.2.2.2.2.1, fun i hi => by rw [← hJ i hi]; exact H.2.2.2.2.2 i hi⟩
set_option maxHeartbeats 4000000 in
set_option maxRecDepth 100000 in
theorem l_ready {d n : Nat} {h : PH} {s p be en : Nat} {S : Shp} {size bc : Int} {o e : Nat → Int} (hd : 1 ≤ d) (hV : Vok S.V) (hT : Tok S.T) (hO : ∀ j, 0 ≤ o j ∧ o j ≤ 7) (hw : S.wh = 1) (hbe : be < en) (hen : en ≤ 8) (hS : isShop n h s (S.cnt : Int) S.V S.T S.wh S.er S.ob) (hP : isPlan n h p size bc o e) : ∀ (c : Nat) (i : Nat) (z : Int), (be + 1 + i + c = en) → (z = rdW S o be i) → (0 ≤ z ∧ z ≤ 300) → QN mX4_readyTime d (FI n (fun x h' => h' = h ∧ x = rdy S o be en)) 27 [some (vR s), some (vR p), some (vI (be : Int)), some (vI (en : Int)), some (vI z), some (vI ((be + 1 + i : Nat) : Int))] [] n h := by
  intro c
  induction c with
  | zero =>
    intro i z hc hz hz2
    refine q_iload (pc' := 29) (dk_at dkX4_readyTime 17 rfl) rfl rfl ?_
    refine q_iload_n (pc' := 30) (dk_at dkX4_readyTime 18 rfl) rfl rfl ?_
    refine q_icmp_ge (tgt := 60) (pc' := 33) (dk_at dkX4_readyTime 19 rfl) rfl rfl (by omega) (by omega) (fun c30 => ?_) (fun c30 => ?_)
    · refine q_iload (pc' := 62) (dk_at dkX4_readyTime 34 rfl) rfl rfl ?_
      refine r_iret rfl (dk_at dkX4_readyTime 35 rfl) ?_
      refine ⟨rfl, ?_⟩
      unfold rdy
      rw [if_pos (by omega), hz, show i = en - be - 1 by omega]
    · exfalso
      omega
  | succ c ih =>
    intro i z hc hz hz2
    refine q_iload (pc' := 29) (dk_at dkX4_readyTime 17 rfl) rfl rfl ?_
    refine q_iload_n (pc' := 30) (dk_at dkX4_readyTime 18 rfl) rfl rfl ?_
    refine q_icmp_ge (tgt := 60) (pc' := 33) (dk_at dkX4_readyTime 19 rfl) rfl rfl (by omega) (by omega) (fun c30 => ?_) (fun c30 => ?_)
    · refine q_iload (pc' := 62) (dk_at dkX4_readyTime 34 rfl) rfl rfl ?_
      refine r_iret rfl (dk_at dkX4_readyTime 35 rfl) ?_
      refine ⟨rfl, ?_⟩
      unfold rdy
      rw [if_pos (by omega), hz, show i = en - be - 1 by omega]
    · refine q_iload (pc' := 35) (dk_at dkX4_readyTime 20 rfl) rfl rfl ?_
      refine q_aload_n (pc' := 36) (dk_at dkX4_readyTime 21 rfl) rfl rfl ?_
      refine r_getf (pc' := 39) fl_RX4_53 (dk_at dkX4_readyTime 22 rfl) hS.obj rfl rfl ?_
      refine q_iconst (pc' := 40) (dk_at dkX4_readyTime 23 rfl) rfl ?_
      refine r_aald1 (pc' := 41) (dk_at dkX4_readyTime 24 rfl) hS.values 2 (by omega) (by omega) (by decide) rfl ?_
      refine q_aload_n (pc' := 42) (dk_at dkX4_readyTime 25 rfl) rfl rfl ?_
      refine r_getf (pc' := 45) fl_RX4_58 (dk_at dkX4_readyTime 26 rfl) hP.obj rfl rfl ?_
      refine q_iload (pc' := 47) (dk_at dkX4_readyTime 27 rfl) rfl rfl ?_
      refine r_iald (pc' := 48) (dk_at dkX4_readyTime 28 rfl) hP.order (be + 1 + i) (by omega) (by omega) (by decide) rfl ?_
      have bb1 := hO (be + 1 + i)
      refine r_iald (pc' := 49) (dk_at dkX4_readyTime 29 rfl) (hS.values_at 2 (by omega)) (((o (be + 1 + i))).toNat) (by omega) (by omega) (by decide) rfl ?_
      have bb2 := hV 2 (((o (be + 1 + i))).toNat)
      refine q_max (pc' := 52) jk_RX4_71 (dk_at dkX4_readyTime 30 rfl) (by omega) (by omega) (by omega) (Nat.zero_le _) (Nat.zero_le _) (Nat.le_of_ble_eq_true rfl) rfl ?_
      refine q_istore (pc' := 54) (L' := [some (vR s), some (vR p), some (vI (be : Int)), some (vI (en : Int)), some (vI (max z ((S.V 2) (((o (be + 1 + i))).toNat)))), some (vI ((be + 1 + i : Nat) : Int))]) (dk_at dkX4_readyTime 31 rfl) (by decide) rfl rfl ?_
      refine q_iinc (pc' := 57) (L' := [some (vR s), some (vR p), some (vI (be : Int)), some (vI (en : Int)), some (vI (max z ((S.V 2) (((o (be + 1 + i))).toNat)))), some (vI (((be + 1 + i : Nat) : Int) + 1))]) (dk_at dkX4_readyTime 32 rfl) (by decide) rfl rfl rfl ?_
      rw [show (((be + 1 + i : Nat) : Int) + 1) = ((((be + 1 + i) + 1) : Nat) : Int) by omega]
      refine q_goto (tgt := 27) (dk_at dkX4_readyTime 33 rfl) rfl ?_
      exact ih (i + 1) _ (by omega) (by rw [hz]; rfl) (by omega)

set_option maxHeartbeats 4000000 in
set_option maxRecDepth 100000 in
theorem k_Timing_readyTime {d n : Nat} {h : PH} {s p be en : Nat} {S : Shp} {size bc : Int} {o e : Nat → Int} (hd : 1 ≤ d) (hk : Sok S) (hO : ∀ j, 0 ≤ o j ∧ o j ≤ 7) (hbe : be < en) (hen : en ≤ 8) (hS : isShp n h s S) (hP : isPlan n h p size bc o e) : CtrI mX4_readyTime d [vR s, vR p, vI (be : Int), vI (en : Int)] n h (fun x h' => h' = h ∧ x = rdy S o be en) := by
  have hV := hk.v
  have hT := hk.t
  have hw := hk.w
  unfold isShp at hS
  refine q_beginI (L := [some (vR s), some (vR p), some (vI (be : Int)), some (vI (en : Int)), none, none]) rfl ?_
  refine q_aload_n (pc' := 1) (dk_at dkX4_readyTime 0 rfl) rfl rfl ?_
  refine r_getf (pc' := 4) fl_RX4_53 (dk_at dkX4_readyTime 1 rfl) hS.obj rfl rfl ?_
  refine q_iconst (pc' := 5) (dk_at dkX4_readyTime 2 rfl) rfl ?_
  refine r_aald1 (pc' := 6) (dk_at dkX4_readyTime 3 rfl) hS.values 2 (by omega) (by omega) (by decide) rfl ?_
  refine q_aload_n (pc' := 7) (dk_at dkX4_readyTime 4 rfl) rfl rfl ?_
  refine r_getf (pc' := 10) fl_RX4_58 (dk_at dkX4_readyTime 5 rfl) hP.obj rfl rfl ?_
  refine q_iload_n (pc' := 11) (dk_at dkX4_readyTime 6 rfl) rfl rfl ?_
  refine r_iald (pc' := 12) (dk_at dkX4_readyTime 7 rfl) hP.order be (by omega) (by omega) (by decide) rfl ?_
  have bb1 := hO be
  refine r_iald (pc' := 13) (dk_at dkX4_readyTime 8 rfl) (hS.values_at 2 (by omega)) (((o be)).toNat) (by omega) (by omega) (by decide) rfl ?_
  have bb2 := hV 2 (((o be)).toNat)
  refine q_istore (pc' := 15) (L' := [some (vR s), some (vR p), some (vI (be : Int)), some (vI (en : Int)), some (vI ((S.V 2) (((o be)).toNat))), none]) (dk_at dkX4_readyTime 9 rfl) (by decide) rfl rfl ?_
  refine q_aload_n (pc' := 16) (dk_at dkX4_readyTime 10 rfl) rfl rfl ?_
  refine r_getf (pc' := 19) fl_RX4_85 (dk_at dkX4_readyTime 11 rfl) hS.obj rfl rfl ?_
  refine q_if_eq (tgt := 60) (pc' := 22) (dk_at dkX4_readyTime 12 rfl) rfl rfl (by omega) (fun c19 => ?_) (fun c19 => ?_)
  · refine q_iload (pc' := 62) (dk_at dkX4_readyTime 34 rfl) rfl rfl ?_
    refine r_iret rfl (dk_at dkX4_readyTime 35 rfl) ?_
    refine ⟨rfl, ?_⟩
    unfold rdy
    rw [if_neg (by omega)]
    rfl
  · refine q_iload_n (pc' := 23) (dk_at dkX4_readyTime 13 rfl) rfl rfl ?_
    refine q_iconst (pc' := 24) (dk_at dkX4_readyTime 14 rfl) rfl ?_
    refine q_iadd (pc' := 25) (dk_at dkX4_readyTime 15 rfl) rfl ?_
    refine q_istore (pc' := 27) (L' := [some (vR s), some (vR p), some (vI (be : Int)), some (vI (en : Int)), some (vI ((S.V 2) (((o be)).toNat))), some (vI ((be : Int) + 1))]) (dk_at dkX4_readyTime 16 rfl) (by decide) rfl rfl ?_
    rw [show ((be : Int) + 1) = ((be + 1 + 0 : Nat) : Int) by omega]
    exact l_ready hd hV hT hO (by omega) hbe hen hS hP (en - be - 1) 0 _ (by omega) rfl (by omega)

def jvA (JV : Nat → Nat → Int) (j : Nat) (a b c : Int) : Nat → Nat → Int := fun w k => if k = j then (if w = 0 then a else if w = 1 then b else if w = 3 then c else JV w k) else JV w k
theorem jvA_of {JV : Nat → Nat → Int} {j : Nat} {a b c : Int} : ∀ i, i < 4 → upf (upf (upf JV 0 (upz (JV 0) j a)) 1 (upz (upf JV 0 (upz (JV 0) j a) 1) j b)) 3 (upz (upf (upf JV 0 (upz (JV 0) j a)) 1 (upz (upf JV 0 (upz (JV 0) j a) 1) j b) 3) j c) i = jvA JV j a b c i := by
  intro i hi
  funext k
  rcases (show i = 0 ∨ i = 1 ∨ i = 2 ∨ i = 3 by omega) with rfl | rfl | rfl | rfl <;> (by_cases q : k = j <;> simp [upf, upz, jvA, q])
set_option maxHeartbeats 4000000 in
set_option maxRecDepth 100000 in
theorem k_Timing_followJob {d n : Nat} {h : PH} {t s j : Nat} {S : Shp} {BV JV : Nat → Nat → Int} {tot : Nat → Int} {free b xj : Int} (hd : 1 ≤ d) (hk : Sok S) (hts : t + 14 ≤ s ∨ s + 13 ≤ t) (ej : xj = (j : Int)) (hj : j < 8) (hf : 0 ≤ free ∧ free ≤ 50000) (hS : isShp n h s S) (hM : isTiming n h t BV JV tot free) : CtrV mX4_followJob d [vR t, vR s, vI xj, vI b] n h (fun h' => isTiming n h' t BV (jvA JV j (max free (S.V 2 j)) (max free (S.V 2 j) + S.V 1 j) b) (upz tot 1 (tot 1 + S.V 1 j)) (max free (S.V 2 j) + S.V 1 j) ∧ Fr h h' t (t + 14)) := by
  have hV := hk.v
  have hT := hk.t
  unfold isShp at hS
  have hF : Fr h h t (t + 14) := Fr.rf
  refine q_beginV (L := [some (vR t), some (vR s), some (vI xj), some (vI b), none]) rfl ?_
  refine q_aload_n (pc' := 1) (dk_at dkX4_followJob 0 rfl) rfl rfl ?_
  refine r_getf (pc' := 4) fl_RX4_29 (dk_at dkX4_followJob 1 rfl) hM.obj rfl rfl ?_
  refine q_aload_n (pc' := 5) (dk_at dkX4_followJob 2 rfl) rfl rfl ?_
  refine r_getf (pc' := 8) fl_RX4_53 (dk_at dkX4_followJob 3 rfl) hS.obj rfl rfl ?_
  refine q_iconst (pc' := 9) (dk_at dkX4_followJob 4 rfl) rfl ?_
  refine r_aald1 (pc' := 10) (dk_at dkX4_followJob 5 rfl) hS.values 2 (by omega) (by omega) (by decide) rfl ?_
  refine q_iload_n (pc' := 11) (dk_at dkX4_followJob 6 rfl) rfl rfl ?_
  refine r_iald (pc' := 12) (dk_at dkX4_followJob 7 rfl) (hS.values_at 2 (by omega)) j (by omega) (by omega) (by decide) rfl ?_
  have bb1 := hV 2 j
  refine q_max (pc' := 15) jk_RX4_71 (dk_at dkX4_followJob 8 rfl) (by omega) (by omega) (by omega) (Nat.zero_le _) (Nat.zero_le _) (Nat.le_of_ble_eq_true rfl) rfl ?_
  refine q_istore (pc' := 17) (L' := [some (vR t), some (vR s), some (vI xj), some (vI b), some (vI (max free ((S.V 2) j)))]) (dk_at dkX4_followJob 9 rfl) (by decide) rfl rfl ?_
  refine q_aload_n (pc' := 18) (dk_at dkX4_followJob 10 rfl) rfl rfl ?_
  refine q_iload (pc' := 20) (dk_at dkX4_followJob 11 rfl) rfl rfl ?_
  refine q_aload_n (pc' := 21) (dk_at dkX4_followJob 12 rfl) rfl rfl ?_
  refine r_getf (pc' := 24) fl_RX4_53 (dk_at dkX4_followJob 13 rfl) hS.obj rfl rfl ?_
  refine q_iconst (pc' := 25) (dk_at dkX4_followJob 14 rfl) rfl ?_
  refine r_aald1 (pc' := 26) (dk_at dkX4_followJob 15 rfl) hS.values 1 (by omega) (by omega) (by decide) rfl ?_
  refine q_iload_n (pc' := 27) (dk_at dkX4_followJob 16 rfl) rfl rfl ?_
  refine r_iald (pc' := 28) (dk_at dkX4_followJob 17 rfl) (hS.values_at 1 (by omega)) j (by omega) (by omega) (by decide) rfl ?_
  have bb2 := hV 1 j
  refine q_iadd (pc' := 29) (dk_at dkX4_followJob 18 rfl) rfl ?_
  refine r_putf (pc' := 32) fp_RX4_29 (dk_at dkX4_followJob 19 rfl) hM.obj (Nat.le_of_ble_eq_true rfl) (PT_int _) rfl (fun hh3 ehh3 => ?_)
  have hS := hS.off ehh3 (by omega)
  have hM := hM.w_obj ehh3
  have hF := hF.put ehh3 (by omega)
  refine q_aload_n (pc' := 33) (dk_at dkX4_followJob 20 rfl) rfl rfl ?_
  refine r_getf (pc' := 36) fl_RX4_16 (dk_at dkX4_followJob 21 rfl) hM.obj rfl rfl ?_
  refine q_iconst (pc' := 37) (dk_at dkX4_followJob 22 rfl) rfl ?_
  refine r_aald1 (pc' := 38) (dk_at dkX4_followJob 23 rfl) hM.jobValues 0 (by omega) (by omega) (by decide) rfl ?_
  refine q_iload_n (pc' := 39) (dk_at dkX4_followJob 24 rfl) rfl rfl ?_
  refine q_iload (pc' := 41) (dk_at dkX4_followJob 25 rfl) rfl rfl ?_
  refine r_iast (pc' := 42) (dk_at dkX4_followJob 26 rfl) (hM.jobValues_at 0 (by omega)) j (by omega) (by omega) (by decide) rfl (fun hh4 ehh4 => ?_)
  have hS := hS.off ehh4 (by omega)
  have hM := isTiming.w_jobValues (by omega) hM ehh4
  have hF := hF.put ehh4 (by omega)
  refine q_aload_n (pc' := 43) (dk_at dkX4_followJob 27 rfl) rfl rfl ?_
  refine r_getf (pc' := 46) fl_RX4_16 (dk_at dkX4_followJob 28 rfl) hM.obj rfl rfl ?_
  refine q_iconst (pc' := 47) (dk_at dkX4_followJob 29 rfl) rfl ?_
  refine r_aald1 (pc' := 48) (dk_at dkX4_followJob 30 rfl) hM.jobValues 1 (by omega) (by omega) (by decide) rfl ?_
  refine q_iload_n (pc' := 49) (dk_at dkX4_followJob 31 rfl) rfl rfl ?_
  refine q_aload_n (pc' := 50) (dk_at dkX4_followJob 32 rfl) rfl rfl ?_
  refine r_getf (pc' := 53) fl_RX4_29 (dk_at dkX4_followJob 33 rfl) hM.obj rfl rfl ?_
  refine r_iast (pc' := 54) (dk_at dkX4_followJob 34 rfl) (hM.jobValues_at 1 (by omega)) j (by omega) (by omega) (by decide) rfl (fun hh5 ehh5 => ?_)
  have hS := hS.off ehh5 (by omega)
  have hM := isTiming.w_jobValues (by omega) hM ehh5
  have hF := hF.put ehh5 (by omega)
  refine q_aload_n (pc' := 55) (dk_at dkX4_followJob 35 rfl) rfl rfl ?_
  refine r_getf (pc' := 58) fl_RX4_16 (dk_at dkX4_followJob 36 rfl) hM.obj rfl rfl ?_
  refine q_iconst (pc' := 59) (dk_at dkX4_followJob 37 rfl) rfl ?_
  refine r_aald1 (pc' := 60) (dk_at dkX4_followJob 38 rfl) hM.jobValues 3 (by omega) (by omega) (by decide) rfl ?_
  refine q_iload_n (pc' := 61) (dk_at dkX4_followJob 39 rfl) rfl rfl ?_
  refine q_iload_n (pc' := 62) (dk_at dkX4_followJob 40 rfl) rfl rfl ?_
  refine r_iast (pc' := 63) (dk_at dkX4_followJob 41 rfl) (hM.jobValues_at 3 (by omega)) j (by omega) (by omega) (by decide) rfl (fun hh6 ehh6 => ?_)
  have hS := hS.off ehh6 (by omega)
  have hM := isTiming.w_jobValues (by omega) hM ehh6
  have hF := hF.put ehh6 (by omega)
  refine q_aload_n (pc' := 64) (dk_at dkX4_followJob 42 rfl) rfl rfl ?_
  refine r_getf (pc' := 67) fl_RX4_19 (dk_at dkX4_followJob 43 rfl) hM.obj rfl rfl ?_
  refine q_iconst (pc' := 68) (dk_at dkX4_followJob 44 rfl) rfl ?_
  refine q_dup2 (pc' := 69) (fun _ => rfl) (fun _ => rfl) (dk_at dkX4_followJob 45 rfl) rfl ?_
  refine r_iald (pc' := 70) (dk_at dkX4_followJob 46 rfl) hM.totals 1 (by omega) (by omega) (by decide) rfl ?_
  refine q_aload_n (pc' := 71) (dk_at dkX4_followJob 47 rfl) rfl rfl ?_
  refine r_getf (pc' := 74) fl_RX4_53 (dk_at dkX4_followJob 48 rfl) hS.obj rfl rfl ?_
  refine q_iconst (pc' := 75) (dk_at dkX4_followJob 49 rfl) rfl ?_
  refine r_aald1 (pc' := 76) (dk_at dkX4_followJob 50 rfl) hS.values 1 (by omega) (by omega) (by decide) rfl ?_
  refine q_iload_n (pc' := 77) (dk_at dkX4_followJob 51 rfl) rfl rfl ?_
  refine r_iald (pc' := 78) (dk_at dkX4_followJob 52 rfl) (hS.values_at 1 (by omega)) j (by omega) (by omega) (by decide) rfl ?_
  have bb7 := hV 1 j
  refine q_iadd (pc' := 79) (dk_at dkX4_followJob 53 rfl) rfl ?_
  refine r_iast (pc' := 80) (dk_at dkX4_followJob 54 rfl) hM.totals 1 (by omega) (by omega) (by decide) rfl (fun hh8 ehh8 => ?_)
  have hS := hS.off ehh8 (by omega)
  have hM := hM.w_totals ehh8
  have hF := hF.put ehh8 (by omega)
  refine r_vret rfl (dk_at dkX4_followJob 55 rfl) ?_
  exact ⟨isTiming.cong hM jvA_of, hF⟩

def jvB (JV : Nat → Nat → Int) (j : Nat) (a b : Int) : Nat → Nat → Int := fun w k => if k = j then (if w = 1 then a else if w = 2 then b else JV w k) else JV w k
theorem jvB_1 {JV : Nat → Nat → Int} {j : Nat} {a b : Int} : ∀ i, i < 4 → upf (upf JV 1 (upz (JV 1) j a)) 2 (upz (upf JV 1 (upz (JV 1) j a) 2) j b) i = jvB JV j a b i := by
  intro i hi
  funext k
  rcases (show i = 0 ∨ i = 1 ∨ i = 2 ∨ i = 3 by omega) with rfl | rfl | rfl | rfl <;> (by_cases q : k = j <;> simp [upf, upz, jvB, q])
theorem jvB_2 {JV : Nat → Nat → Int} {j : Nat} {b : Int} : ∀ i, i < 4 → upf JV 2 (upz (JV 2) j b) i = jvB JV j (JV 1 j) b i := by
  intro i hi
  funext k
  rcases (show i = 0 ∨ i = 1 ∨ i = 2 ∨ i = 3 by omega) with rfl | rfl | rfl | rfl <;> (by_cases q : k = j <;> simp [upf, upz, jvB, q])
set_option maxHeartbeats 4000000 in
set_option maxRecDepth 100000 in
theorem k_Timing_complete {d n : Nat} {h : PH} {t s j : Nat} {S : Shp} {BV JV : Nat → Nat → Int} {tot : Nat → Int} {free xj : Int} (hd : 1 ≤ d) (hk : Sok S) (hts : t + 14 ≤ s ∨ s + 13 ≤ t) (ej : xj = (j : Int)) (hj : j < 8) (hf : 0 ≤ free ∧ free ≤ 50000) (hv1 : 0 ≤ JV 1 j ∧ JV 1 j ≤ 50000) (hS : isShp n h s S) (hM : isTiming n h t BV JV tot free) : CtrV mX4_complete d [vR t, vR s, vI xj] n h (fun h' => isTiming n h' t BV (jvB JV j (if S.wh = 1 then free else JV 1 j) (max 0 ((if S.wh = 1 then free else JV 1 j) - S.V 3 j))) tot free ∧ Fr h h' t (t + 14)) := by
  have hV := hk.v
  have hT := hk.t
  have hw := hk.w
  unfold isShp at hS
  have hF : Fr h h t (t + 14) := Fr.rf
  refine q_beginV (L := [some (vR t), some (vR s), some (vI xj)]) rfl ?_
  refine q_aload_n (pc' := 1) (dk_at dkX4_complete 0 rfl) rfl rfl ?_
  refine r_getf (pc' := 4) fl_RX4_85 (dk_at dkX4_complete 1 rfl) hS.obj rfl rfl ?_
  refine q_if_eq (tgt := 19) (pc' := 7) (dk_at dkX4_complete 2 rfl) rfl rfl (by omega) (fun c4 => ?_) (fun c4 => ?_)
  · refine q_aload_n (pc' := 20) (dk_at dkX4_complete 11 rfl) rfl rfl ?_
    refine r_getf (pc' := 23) fl_RX4_16 (dk_at dkX4_complete 12 rfl) hM.obj rfl rfl ?_
    refine q_iconst (pc' := 24) (dk_at dkX4_complete 13 rfl) rfl ?_
    refine r_aald1 (pc' := 25) (dk_at dkX4_complete 14 rfl) hM.jobValues 2 (by omega) (by omega) (by decide) rfl ?_
    refine q_iload_n (pc' := 26) (dk_at dkX4_complete 15 rfl) rfl rfl ?_
    refine q_iconst (pc' := 27) (dk_at dkX4_complete 16 rfl) rfl ?_
    refine q_aload_n (pc' := 28) (dk_at dkX4_complete 17 rfl) rfl rfl ?_
    refine r_getf (pc' := 31) fl_RX4_16 (dk_at dkX4_complete 18 rfl) hM.obj rfl rfl ?_
    refine q_iconst (pc' := 32) (dk_at dkX4_complete 19 rfl) rfl ?_
    refine r_aald1 (pc' := 33) (dk_at dkX4_complete 20 rfl) hM.jobValues 1 (by omega) (by omega) (by decide) rfl ?_
    refine q_iload_n (pc' := 34) (dk_at dkX4_complete 21 rfl) rfl rfl ?_
    have hrr : 0 ≤ ((JV 1) j) ∧ ((JV 1) j) ≤ (50000 : Int) := (by omega)
    refine r_iald (pc' := 35) (dk_at dkX4_complete 22 rfl) (hM.jobValues_at 1 (by omega)) j (by omega) (by omega) (by decide) rfl ?_
    refine q_aload_n (pc' := 36) (dk_at dkX4_complete 23 rfl) rfl rfl ?_
    refine r_getf (pc' := 39) fl_RX4_53 (dk_at dkX4_complete 24 rfl) hS.obj rfl rfl ?_
    refine q_iconst (pc' := 40) (dk_at dkX4_complete 25 rfl) rfl ?_
    refine r_aald1 (pc' := 41) (dk_at dkX4_complete 26 rfl) hS.values 3 (by omega) (by omega) (by decide) rfl ?_
    refine q_iload_n (pc' := 42) (dk_at dkX4_complete 27 rfl) rfl rfl ?_
    refine r_iald (pc' := 43) (dk_at dkX4_complete 28 rfl) (hS.values_at 3 (by omega)) j (by omega) (by omega) (by decide) rfl ?_
    have bb1 := hV 3 j
    refine q_isub (pc' := 44) (dk_at dkX4_complete 29 rfl) rfl ?_
    refine q_max (pc' := 47) jk_RX4_71 (dk_at dkX4_complete 30 rfl) (by omega) (by omega) (by omega) (Nat.zero_le _) (Nat.zero_le _) (Nat.le_of_ble_eq_true rfl) rfl ?_
    refine r_iast (pc' := 48) (dk_at dkX4_complete 31 rfl) (hM.jobValues_at 2 (by omega)) j (by omega) (by omega) (by decide) rfl (fun hh2 ehh2 => ?_)
    have hS := hS.off ehh2 (by omega)
    have hM := isTiming.w_jobValues (by omega) hM ehh2
    have hF := hF.put ehh2 (by omega)
    refine r_vret rfl (dk_at dkX4_complete 32 rfl) ?_
    rw [if_neg (by omega)]
    exact ⟨isTiming.cong hM jvB_2, hF⟩
  · refine q_aload_n (pc' := 8) (dk_at dkX4_complete 3 rfl) rfl rfl ?_
    refine r_getf (pc' := 11) fl_RX4_16 (dk_at dkX4_complete 4 rfl) hM.obj rfl rfl ?_
    refine q_iconst (pc' := 12) (dk_at dkX4_complete 5 rfl) rfl ?_
    refine r_aald1 (pc' := 13) (dk_at dkX4_complete 6 rfl) hM.jobValues 1 (by omega) (by omega) (by decide) rfl ?_
    refine q_iload_n (pc' := 14) (dk_at dkX4_complete 7 rfl) rfl rfl ?_
    refine q_aload_n (pc' := 15) (dk_at dkX4_complete 8 rfl) rfl rfl ?_
    refine r_getf (pc' := 18) fl_RX4_29 (dk_at dkX4_complete 9 rfl) hM.obj rfl rfl ?_
    refine r_iast (pc' := 19) (dk_at dkX4_complete 10 rfl) (hM.jobValues_at 1 (by omega)) j (by omega) (by omega) (by decide) rfl (fun hh3 ehh3 => ?_)
    have hS := hS.off ehh3 (by omega)
    have hM := isTiming.w_jobValues (by omega) hM ehh3
    have hF := hF.put ehh3 (by omega)
    refine q_aload_n (pc' := 20) (dk_at dkX4_complete 11 rfl) rfl rfl ?_
    refine r_getf (pc' := 23) fl_RX4_16 (dk_at dkX4_complete 12 rfl) hM.obj rfl rfl ?_
    refine q_iconst (pc' := 24) (dk_at dkX4_complete 13 rfl) rfl ?_
    refine r_aald1 (pc' := 25) (dk_at dkX4_complete 14 rfl) hM.jobValues 2 (by omega) (by omega) (by decide) rfl ?_
    refine q_iload_n (pc' := 26) (dk_at dkX4_complete 15 rfl) rfl rfl ?_
    refine q_iconst (pc' := 27) (dk_at dkX4_complete 16 rfl) rfl ?_
    refine q_aload_n (pc' := 28) (dk_at dkX4_complete 17 rfl) rfl rfl ?_
    refine r_getf (pc' := 31) fl_RX4_16 (dk_at dkX4_complete 18 rfl) hM.obj rfl rfl ?_
    refine q_iconst (pc' := 32) (dk_at dkX4_complete 19 rfl) rfl ?_
    refine r_aald1 (pc' := 33) (dk_at dkX4_complete 20 rfl) hM.jobValues 1 (by omega) (by omega) (by decide) rfl ?_
    refine q_iload_n (pc' := 34) (dk_at dkX4_complete 21 rfl) rfl rfl ?_
    have hrr : 0 ≤ (((upf JV 1 (upz (JV 1) j free)) 1) j) ∧ (((upf JV 1 (upz (JV 1) j free)) 1) j) ≤ (50000 : Int) := (by simp only [upf_eq, upz_eq]; omega)
    refine r_iald (pc' := 35) (dk_at dkX4_complete 22 rfl) (hM.jobValues_at 1 (by omega)) j (by omega) (by omega) (by decide) rfl ?_
    refine q_aload_n (pc' := 36) (dk_at dkX4_complete 23 rfl) rfl rfl ?_
    refine r_getf (pc' := 39) fl_RX4_53 (dk_at dkX4_complete 24 rfl) hS.obj rfl rfl ?_
    refine q_iconst (pc' := 40) (dk_at dkX4_complete 25 rfl) rfl ?_
    refine r_aald1 (pc' := 41) (dk_at dkX4_complete 26 rfl) hS.values 3 (by omega) (by omega) (by decide) rfl ?_
    refine q_iload_n (pc' := 42) (dk_at dkX4_complete 27 rfl) rfl rfl ?_
    refine r_iald (pc' := 43) (dk_at dkX4_complete 28 rfl) (hS.values_at 3 (by omega)) j (by omega) (by omega) (by decide) rfl ?_
    have bb4 := hV 3 j
    refine q_isub (pc' := 44) (dk_at dkX4_complete 29 rfl) rfl ?_
    refine q_max (pc' := 47) jk_RX4_71 (dk_at dkX4_complete 30 rfl) (by omega) (by omega) (by omega) (Nat.zero_le _) (Nat.zero_le _) (Nat.le_of_ble_eq_true rfl) rfl ?_
    refine r_iast (pc' := 48) (dk_at dkX4_complete 31 rfl) (hM.jobValues_at 2 (by omega)) j (by omega) (by omega) (by decide) rfl (fun hh5 ehh5 => ?_)
    have hS := hS.off ehh5 (by omega)
    have hM := isTiming.w_jobValues (by omega) hM ehh5
    have hF := hF.put ehh5 (by omega)
    refine r_vret rfl (dk_at dkX4_complete 32 rfl) ?_
    rw [if_pos (by omega)]
    refine ⟨isTiming.cong hM (fun i hi => ?_), hF⟩
    rw [← jvB_1 i hi]
    simp only [upf_eq, upz_eq]
