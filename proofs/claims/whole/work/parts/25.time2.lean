/-! Timing: a batch followed -/
theorem upz_upz (f : Nat → Int) (i : Nat) (x y : Int) : upz (upz f i x) i y = upz f i y := by
  funext k
  unfold upz
  split <;> rfl
theorem upz_self {f : Nat → Int} {i : Nat} {x : Int} (h : f i = x) : upz f i x = f := by
  funext k
  by_cases q : k = i
  · subst q; rw [upz_eq, h]
  · rw [upz_ne q]
def FJ1 (S : Shp) (o : Nat → Int) (be : Nat) (f0 b : Int) (JV0 JV1 : Nat → Nat → Int) (i : Nat) : Prop :=
  (∀ i', i' < i → JV1 0 (jb o (be + i')) = max (ptm S o f0 be i') (S.V 2 (jb o (be + i'))) ∧ JV1 1 (jb o (be + i')) = ptm S o f0 be (i' + 1) ∧ JV1 3 (jb o (be + i')) = b) ∧ ∀ j, (∀ i', i' < i → jb o (be + i') ≠ j) → ∀ w, JV1 w j = JV0 w j
theorem FJ1_step {S : Shp} {o : Nat → Int} {be len : Nat} {f0 b : Int} {JV0 JV1 : Nat → Nat → Int} {i : Nat} (hin : ∀ i i', i < len → i' < len → jb o (be + i) = jb o (be + i') → i = i') (hi : i < len) (h : FJ1 S o be f0 b JV0 JV1 i) :
    FJ1 S o be f0 b JV0 (jvA JV1 (jb o (be + i)) (max (ptm S o f0 be i) (S.V 2 (jb o (be + i)))) (max (ptm S o f0 be i) (S.V 2 (jb o (be + i))) + S.V 1 (jb o (be + i))) b) (i + 1) := by
  refine ⟨fun i' hi' => ?_, fun j hj w => ?_⟩
  · by_cases q : i' = i
    · subst q
      unfold jvA
      refine ⟨?_, ?_, ?_⟩
      · rw [if_pos rfl, if_pos rfl]
      · rw [if_pos rfl, if_neg (by omega), if_pos rfl]
        rfl
      · rw [if_pos rfl, if_neg (by omega), if_neg (by omega), if_pos rfl]
    · have hne : jb o (be + i') ≠ jb o (be + i) := fun z => q (hin i' i (by omega) hi z)
      obtain ⟨a1, a2, a3⟩ := h.1 i' (by omega)
      unfold jvA
      rw [if_neg hne, if_neg hne, if_neg hne]
      exact ⟨a1, a2, a3⟩
  · have hne : j ≠ jb o (be + i) := fun z => hj i (by omega) z.symm
    unfold jvA
    rw [if_neg hne]
    exact h.2 j (fun i' hi' => hj i' (by omega)) w
def FJ2 (S : Shp) (o : Nat → Int) (be len : Nat) (f0 FR0 b : Int) (JV0 JV2 : Nat → Nat → Int) (i : Nat) : Prop :=
  (∀ i', i' < len → JV2 0 (jb o (be + i')) = max (ptm S o f0 be i') (S.V 2 (jb o (be + i'))) ∧ JV2 3 (jb o (be + i')) = b) ∧
  (∀ i', i' < i → JV2 1 (jb o (be + i')) = (if S.wh = 1 then FR0 else ptm S o f0 be (i' + 1)) ∧ JV2 2 (jb o (be + i')) = max 0 (JV2 1 (jb o (be + i')) - S.V 3 (jb o (be + i')))) ∧
  (∀ i', i ≤ i' → i' < len → JV2 1 (jb o (be + i')) = ptm S o f0 be (i' + 1)) ∧ ∀ j, (∀ i', i' < len → jb o (be + i') ≠ j) → ∀ w, JV2 w j = JV0 w j
theorem FJ2_of {S : Shp} {o : Nat → Int} {be len : Nat} {f0 FR0 b : Int} {JV0 JV1 : Nat → Nat → Int} (h : FJ1 S o be f0 b JV0 JV1 len) : FJ2 S o be len f0 FR0 b JV0 JV1 0 :=
  ⟨fun i' hi' => ⟨(h.1 i' hi').1, (h.1 i' hi').2.2⟩, fun i' hi' => by omega, fun i' _ hi' => (h.1 i' hi').2.1, h.2⟩
theorem FJ2_step {S : Shp} {o : Nat → Int} {be len : Nat} {f0 FR0 b : Int} {JV0 JV2 : Nat → Nat → Int} {i : Nat} (hin : ∀ i i', i < len → i' < len → jb o (be + i) = jb o (be + i') → i = i') (hi : i < len) (h : FJ2 S o be len f0 FR0 b JV0 JV2 i) :
    FJ2 S o be len f0 FR0 b JV0 (jvB JV2 (jb o (be + i)) (if S.wh = 1 then FR0 else JV2 1 (jb o (be + i))) (max 0 ((if S.wh = 1 then FR0 else JV2 1 (jb o (be + i))) - S.V 3 (jb o (be + i))))) (i + 1) := by
  have hv := h.2.2.1 i (Nat.le_refl _) hi
  refine ⟨fun i' hi' => ?_, fun i' hi' => ?_, fun i' h1 h2 => ?_, fun j hj w => ?_⟩
  · obtain ⟨a1, a2⟩ := h.1 i' hi'
    unfold jvB
    refine ⟨?_, ?_⟩
    · split
      · rw [if_neg (by omega), if_neg (by omega)]; exact a1
      · exact a1
    · split
      · rw [if_neg (by omega), if_neg (by omega)]; exact a2
      · exact a2
  · by_cases q : i' = i
    · subst q
      unfold jvB
      refine ⟨?_, ?_⟩
      · rw [if_pos rfl, if_pos rfl, hv]
      · rw [if_pos rfl, if_neg (by omega), if_pos rfl, if_pos rfl, if_pos rfl]
    · have hne : jb o (be + i') ≠ jb o (be + i) := fun z => q (hin i' i (by omega) hi z)
      obtain ⟨a1, a2⟩ := h.2.1 i' (by omega)
      unfold jvB
      rw [if_neg hne, if_neg hne]
      exact ⟨a1, a2⟩
  · have hne : jb o (be + i') ≠ jb o (be + i) := fun z => by have := hin i' i h2 hi z; omega
    unfold jvB
    rw [if_neg hne]
    exact h.2.2.1 i' (by omega) h2
  · have hne : j ≠ jb o (be + i) := fun z => hj i hi z.symm
    unfold jvB
    rw [if_neg hne]
    exact h.2.2.2 j hj w
set_option maxHeartbeats 4000000 in
set_option maxRecDepth 100000 in
theorem l_fb1 {d n : Nat} {F : FT} {h : PH} {t s p be en b : Nat} {S : Shp} {BV JV : Nat → Nat → Int} {tot : Nat → Int} {f0 size bc last fam rd sp ss se fi : Int} {o e : Nat → Int} (hd : 2 ≤ d) (hk : Sok S) (hO : ∀ j, 0 ≤ o j ∧ o j ≤ 7) (hbe : be < en) (hen : en ≤ 8) (hb8 : b < 8) (hin : ∀ i i', i < en - be → i' < en - be → jb o (be + i) = jb o (be + i') → i = i') (hts : t + 14 ≤ s ∨ s + 13 ≤ t) (htp : t + 14 ≤ p ∨ p + 3 ≤ t) (hf0 : 0 ≤ f0 ∧ f0 ≤ 3000) (hex : ∀ (JV1 : Nat → Nat → Int) (h1 : PH) (pl : Int), FJ1 S o be f0 b JV JV1 (en - be) → isTiming n h1 t BV JV1 (upz tot 1 (tot 1 + tsum S o be (en - be))) (ptm S o f0 be (en - be)) → isShp n h1 s S → isPlan n h1 p size bc o e → Fr h h1 t (t + 14) → QN mX4_followBatch d F 135 [some (vR t), some (vR s), some (vR p), some (vI (b : Int)), some (vI last), some (vI (be : Int)), some (vI (en : Int)), some (vI fam), some (vI rd), some (vI sp), some (vI ss), some (vI se), some (vI fi), some (vI pl)] [] n h1) : ∀ (c : Nat) (i : Nat) (JV1 : Nat → Nat → Int) (tot1 : Nat → Int) (free : Int) (h1 : PH), (be + i + c = en) → (FJ1 S o be f0 b JV JV1 i) → (free = ptm S o f0 be i) → (tot1 = upz tot 1 (tot 1 + tsum S o be i)) → (isTiming n h1 t BV JV1 tot1 free) → (isShp n h1 s S) → (isPlan n h1 p size bc o e) → (Fr h h1 t (t + 14)) → QN mX4_followBatch d F 109 [some (vR t), some (vR s), some (vR p), some (vI (b : Int)), some (vI last), some (vI (be : Int)), some (vI (en : Int)), some (vI fam), some (vI rd), some (vI sp), some (vI ss), some (vI se), some (vI fi), some (vI ((be + i : Nat) : Int))] [] n h1 := by
  intro c
  induction c with
  | zero =>
    intro i JV1 tot1 free h1 hc hJ hfr htt hM hS hP hF
    have hpr := ptm_r hk.v o hf0.1 be i
    rw [← hfr] at hpr
    refine q_iload (pc' := 111) (dk_at dkX4_followBatch 59 rfl) rfl rfl ?_
    refine q_iload (pc' := 113) (dk_at dkX4_followBatch 60 rfl) rfl rfl ?_
    refine q_icmp_ge (tgt := 135) (pc' := 116) (dk_at dkX4_followBatch 61 rfl) rfl rfl (by omega) (by omega) (fun c113 => ?_) (fun c113 => ?_)
    · rw [show i = en - be by omega] at hJ hfr htt
      rw [hfr, htt] at hM
      exact hex JV1 h1 _ hJ hM hS hP hF
    · exfalso
      omega
  | succ c ih =>
    intro i JV1 tot1 free h1 hc hJ hfr htt hM hS hP hF
    have hpr := ptm_r hk.v o hf0.1 be i
    rw [← hfr] at hpr
    refine q_iload (pc' := 111) (dk_at dkX4_followBatch 59 rfl) rfl rfl ?_
    refine q_iload (pc' := 113) (dk_at dkX4_followBatch 60 rfl) rfl rfl ?_
    refine q_icmp_ge (tgt := 135) (pc' := 116) (dk_at dkX4_followBatch 61 rfl) rfl rfl (by omega) (by omega) (fun c113 => ?_) (fun c113 => ?_)
    · rw [show i = en - be by omega] at hJ hfr htt
      rw [hfr, htt] at hM
      exact hex JV1 h1 _ hJ hM hS hP hF
    · refine q_aload_n (pc' := 117) (dk_at dkX4_followBatch 62 rfl) rfl rfl ?_
      refine q_aload_n (pc' := 118) (dk_at dkX4_followBatch 63 rfl) rfl rfl ?_
      refine q_aload_n (pc' := 119) (dk_at dkX4_followBatch 64 rfl) rfl rfl ?_
      refine r_getf (pc' := 122) fl_RX4_58 (dk_at dkX4_followBatch 65 rfl) hP.obj rfl rfl ?_
      refine q_iload (pc' := 124) (dk_at dkX4_followBatch 66 rfl) rfl rfl ?_
      refine r_iald (pc' := 125) (dk_at dkX4_followBatch 67 rfl) hP.order (be + i) (by omega) (by omega) (by decide) rfl ?_
      have bb1 := hO (be + i)
      refine q_iload_n (pc' := 126) (dk_at dkX4_followBatch 68 rfl) rfl rfl ?_
      refine r_cVV (pc' := 129) (As := [vR s, vI (o (be + i)), vI (b : Int)]) (S := []) cv_RX4_77 (dk_at dkX4_followBatch 69 rfl) hM.obj rfl (k_Timing_followJob (d := 1) (j := jb o (be + i)) (by omega) hk hts (by unfold jb; omega) (by unfold jb; omega) (by omega) hS hM) (by omega) (Nat.zero_le _) (Nat.zero_le _) rfl (Nat.le_of_ble_eq_true rfl) rfl (Nat.le_of_ble_eq_true rfl) rfl (fun hh3 hphh3 => ?_)
      obtain ⟨hM, hG⟩ := hphh3
      have hS := isShop.frm hS hG (by omega)
      have hP := hP.frm hG (by omega)
      have hF := hF.tr hG (by omega)
      refine q_iinc (pc' := 132) (L' := [some (vR t), some (vR s), some (vR p), some (vI (b : Int)), some (vI last), some (vI (be : Int)), some (vI (en : Int)), some (vI fam), some (vI rd), some (vI sp), some (vI ss), some (vI se), some (vI fi), some (vI (((be + i : Nat) : Int) + 1))]) (dk_at dkX4_followBatch 70 rfl) (by decide) rfl rfl rfl ?_
      rw [show (((be + i : Nat) : Int) + 1) = ((((be + i) + 1) : Nat) : Int) by omega]
      refine q_goto (tgt := 109) (dk_at dkX4_followBatch 71 rfl) rfl ?_
      have ej : (o (be + i)).toNat = jb o (be + i) := rfl
      refine ih (i + 1) _ _ _ _ (by omega) ?_ ?_ ?_ hM hS hP hF
      · rw [hfr]; exact FJ1_step hin (by omega) hJ
      · rw [hfr]; rfl
      · rw [htt, upz_upz, upz_eq]; congr 1; show _ = tot 1 + (tsum S o be i + _); omega

set_option maxHeartbeats 4000000 in
set_option maxRecDepth 100000 in
theorem l_fb2 {d n : Nat} {F : FT} {h : PH} {t s p be en b : Nat} {S : Shp} {BV JV : Nat → Nat → Int} {tot : Nat → Int} {f0 size bc last fam rd sp ss se fi : Int} {o e : Nat → Int} (hd : 2 ≤ d) (hk : Sok S) (hO : ∀ j, 0 ≤ o j ∧ o j ≤ 7) (hbe : be < en) (hen : en ≤ 8) (hb8 : b < 8) (hin : ∀ i i', i < en - be → i' < en - be → jb o (be + i) = jb o (be + i') → i = i') (hts : t + 14 ≤ s ∨ s + 13 ≤ t) (htp : t + 14 ≤ p ∨ p + 3 ≤ t) (hf0 : 0 ≤ f0 ∧ f0 ≤ 3000) {fr : Int} (hfr : 0 ≤ fr ∧ fr ≤ 50000) (hex : ∀ (JV1 : Nat → Nat → Int) (h1 : PH) (pl : Int), FJ2 S o be (en - be) f0 fr b JV JV1 (en - be) → isTiming n h1 t BV JV1 tot fr → isShp n h1 s S → isPlan n h1 p size bc o e → Fr h h1 t (t + 14) → QN mX4_followBatch d F 164 [some (vR t), some (vR s), some (vR p), some (vI (b : Int)), some (vI last), some (vI (be : Int)), some (vI (en : Int)), some (vI fam), some (vI rd), some (vI sp), some (vI ss), some (vI se), some (vI fi), some (vI pl)] [] n h1) : ∀ (c : Nat) (i : Nat) (JV1 : Nat → Nat → Int) (h1 : PH), (be + i + c = en) → (FJ2 S o be (en - be) f0 fr b JV JV1 i) → (isTiming n h1 t BV JV1 tot fr) → (isShp n h1 s S) → (isPlan n h1 p size bc o e) → (Fr h h1 t (t + 14)) → QN mX4_followBatch d F 139 [some (vR t), some (vR s), some (vR p), some (vI (b : Int)), some (vI last), some (vI (be : Int)), some (vI (en : Int)), some (vI fam), some (vI rd), some (vI sp), some (vI ss), some (vI se), some (vI fi), some (vI ((be + i : Nat) : Int))] [] n h1 := by
  intro c
  induction c with
  | zero =>
    intro i JV1 h1 hc hJ hM hS hP hF
    refine q_iload (pc' := 141) (dk_at dkX4_followBatch 74 rfl) rfl rfl ?_
    refine q_iload (pc' := 143) (dk_at dkX4_followBatch 75 rfl) rfl rfl ?_
    refine q_icmp_ge (tgt := 164) (pc' := 146) (dk_at dkX4_followBatch 76 rfl) rfl rfl (by omega) (by omega) (fun c143 => ?_) (fun c143 => ?_)
    · rw [show i = en - be by omega] at hJ
      exact hex JV1 h1 _ hJ hM hS hP hF
    · exfalso
      omega
  | succ c ih =>
    intro i JV1 h1 hc hJ hM hS hP hF
    refine q_iload (pc' := 141) (dk_at dkX4_followBatch 74 rfl) rfl rfl ?_
    refine q_iload (pc' := 143) (dk_at dkX4_followBatch 75 rfl) rfl rfl ?_
    refine q_icmp_ge (tgt := 164) (pc' := 146) (dk_at dkX4_followBatch 76 rfl) rfl rfl (by omega) (by omega) (fun c143 => ?_) (fun c143 => ?_)
    · rw [show i = en - be by omega] at hJ
      exact hex JV1 h1 _ hJ hM hS hP hF
    · refine q_aload_n (pc' := 147) (dk_at dkX4_followBatch 77 rfl) rfl rfl ?_
      refine q_aload_n (pc' := 148) (dk_at dkX4_followBatch 78 rfl) rfl rfl ?_
      refine q_aload_n (pc' := 149) (dk_at dkX4_followBatch 79 rfl) rfl rfl ?_
      refine r_getf (pc' := 152) fl_RX4_58 (dk_at dkX4_followBatch 80 rfl) hP.obj rfl rfl ?_
      refine q_iload (pc' := 154) (dk_at dkX4_followBatch 81 rfl) rfl rfl ?_
      refine r_iald (pc' := 155) (dk_at dkX4_followBatch 82 rfl) hP.order (be + i) (by omega) (by omega) (by decide) rfl ?_
      have bb1 := hO (be + i)
      refine r_cVV (pc' := 158) (As := [vR s, vI (o (be + i))]) (S := []) cv_RX4_81 (dk_at dkX4_followBatch 83 rfl) hM.obj rfl (k_Timing_complete (d := 1) (j := jb o (be + i)) (by omega) hk hts (by unfold jb; omega) (by unfold jb; omega) hfr (by rw [hJ.2.2.1 i (Nat.le_refl _) (by omega)]; have := ptm_r hk.v o hf0.1 be (i + 1); omega) hS hM) (by omega) (Nat.zero_le _) (Nat.zero_le _) rfl (Nat.le_of_ble_eq_true rfl) rfl (Nat.le_of_ble_eq_true rfl) rfl (fun hh3 hphh3 => ?_)
      obtain ⟨hM, hG⟩ := hphh3
      have hS := isShop.frm hS hG (by omega)
      have hP := hP.frm hG (by omega)
      have hF := hF.tr hG (by omega)
      refine q_iinc (pc' := 161) (L' := [some (vR t), some (vR s), some (vR p), some (vI (b : Int)), some (vI last), some (vI (be : Int)), some (vI (en : Int)), some (vI fam), some (vI rd), some (vI sp), some (vI ss), some (vI se), some (vI fi), some (vI (((be + i : Nat) : Int) + 1))]) (dk_at dkX4_followBatch 84 rfl) (by decide) rfl rfl rfl ?_
      rw [show (((be + i : Nat) : Int) + 1) = ((((be + i) + 1) : Nat) : Int) by omega]
      refine q_goto (tgt := 139) (dk_at dkX4_followBatch 85 rfl) rfl ?_
      exact ih (i + 1) _ _ (by omega) (FJ2_step hin (by omega) hJ) hM hS hP hF

set_option maxHeartbeats 4000000 in
set_option maxRecDepth 100000 in
theorem k_Timing_followBatch {d n : Nat} {h : PH} {t s p be en b : Nat} {S : Shp} {BV JV : Nat → Nat → Int} {tot : Nat → Int} {free size bc last : Int} {o e : Nat → Int} (hd : 2 ≤ d) (hk : Sok S) (hO : ∀ j, 0 ≤ o j ∧ o j ≤ 7) (hbe : be < en) (hen : en ≤ 8) (hb8 : b < 8) (hbg : (if 0 < b then e (b - 1) else 0) = (be : Int)) (hee : e b = (en : Int)) (hin : ∀ i i', i < en - be → i' < en - be → jb o (be + i) = jb o (be + i') → i = i') (hts : t + 14 ≤ s ∨ s + 13 ≤ t) (htp : t + 14 ≤ p ∨ p + 3 ≤ t) (hl : -1 ≤ last ∧ last ≤ 3) (hfree : 0 ≤ free ∧ free ≤ 2000) (hS : isShp n h s S) (hP : isPlan n h p size bc o e) (hM : isTiming n h t BV JV tot free) :
    CtrI mX4_followBatch d [vR t, vR s, vR p, vI (b : Int), vI last] n h (fun x h' => x = S.V 0 (jb o be) ∧ ∃ (BV' JV' : Nat → Nat → Int) (tot' : Nat → Int), isTiming n h' t BV' JV' tot' (fre S o be en last free) ∧ BDone S o be en last free b BV JV tot BV' JV' tot' ∧ Fr h h' t (t + 14)) := by
  have hV := hk.v
  have hT := hk.t
  have hw := hk.w
  have he2 := hk.e
  have hF : Fr h h t (t + 14) := Fr.rf
  refine q_beginI (L := [some (vR t), some (vR s), some (vR p), some (vI (b : Int)), some (vI last), none, none, none, none, none, none, none, none, none]) rfl ?_
  refine q_aload_n (pc' := 1) (dk_at dkX4_followBatch 0 rfl) rfl rfl ?_
  refine q_iload_n (pc' := 2) (dk_at dkX4_followBatch 1 rfl) rfl rfl ?_
  refine r_cVI (pc' := 5) (As := [vI (b : Int)]) (S := []) cv_RX4_46 (dk_at dkX4_followBatch 2 rfl) hP.obj rfl (k_Plan_beginOf (d := 0) (i := b) hP (by omega)) (by omega) (Nat.zero_le _) (Nat.zero_le _) rfl (Nat.le_of_ble_eq_true rfl) rfl (Nat.le_of_ble_eq_true rfl) rfl (fun xx1 hh2 hphh2 => ?_)
  obtain ⟨qbg, hxx⟩ := hphh2
  rw [qbg]
  rw [hxx.trans hbg]
  refine q_istore (pc' := 7) (L' := [some (vR t), some (vR s), some (vR p), some (vI (b : Int)), some (vI last), some (vI (be : Int)), none, none, none, none, none, none, none, none]) (dk_at dkX4_followBatch 3 rfl) (by decide) rfl rfl ?_
  refine q_aload_n (pc' := 8) (dk_at dkX4_followBatch 4 rfl) rfl rfl ?_
  refine r_getf (pc' := 11) fl_RX4_50 (dk_at dkX4_followBatch 5 rfl) hP.obj rfl rfl ?_
  refine q_iload_n (pc' := 12) (dk_at dkX4_followBatch 6 rfl) rfl rfl ?_
  refine r_iald (pc' := 13) (dk_at dkX4_followBatch 7 rfl) hP.ends b (by omega) (by omega) (by decide) rfl ?_
  rw [hee]
  refine q_istore (pc' := 15) (L' := [some (vR t), some (vR s), some (vR p), some (vI (b : Int)), some (vI last), some (vI (be : Int)), some (vI (en : Int)), none, none, none, none, none, none, none]) (dk_at dkX4_followBatch 8 rfl) (by decide) rfl rfl ?_
  refine q_aload_n (pc' := 16) (dk_at dkX4_followBatch 9 rfl) rfl rfl ?_
  refine r_getf (pc' := 19) fl_RX4_53 (dk_at dkX4_followBatch 10 rfl) hS.obj rfl rfl ?_
  refine q_iconst (pc' := 20) (dk_at dkX4_followBatch 11 rfl) rfl ?_
  refine r_aald1 (pc' := 21) (dk_at dkX4_followBatch 12 rfl) hS.values 0 (by omega) (by omega) (by decide) rfl ?_
  refine q_aload_n (pc' := 22) (dk_at dkX4_followBatch 13 rfl) rfl rfl ?_
  refine r_getf (pc' := 25) fl_RX4_58 (dk_at dkX4_followBatch 14 rfl) hP.obj rfl rfl ?_
  refine q_iload (pc' := 27) (dk_at dkX4_followBatch 15 rfl) rfl rfl ?_
  refine r_iald (pc' := 28) (dk_at dkX4_followBatch 16 rfl) hP.order be (by omega) (by omega) (by decide) rfl ?_
  have bb3 := hO be
  refine r_iald (pc' := 29) (dk_at dkX4_followBatch 17 rfl) (hS.values_at 0 (by omega)) (((o be)).toNat) (by omega) (by omega) (by decide) rfl ?_
  have bb4 := hV 0 (((o be)).toNat)
  refine q_istore (pc' := 31) (L' := [some (vR t), some (vR s), some (vR p), some (vI (b : Int)), some (vI last), some (vI (be : Int)), some (vI (en : Int)), some (vI ((S.V 0) (((o be)).toNat))), none, none, none, none, none, none]) (dk_at dkX4_followBatch 18 rfl) (by decide) rfl rfl ?_
  refine q_aload_n (pc' := 32) (dk_at dkX4_followBatch 19 rfl) rfl rfl ?_
  refine q_aload_n (pc' := 33) (dk_at dkX4_followBatch 20 rfl) rfl rfl ?_
  refine q_iload (pc' := 35) (dk_at dkX4_followBatch 21 rfl) rfl rfl ?_
  refine q_iload (pc' := 37) (dk_at dkX4_followBatch 22 rfl) rfl rfl ?_
  refine r_cSI (pc' := 40) (As := [vR s, vR p, vI (be : Int), vI (en : Int)]) (S := []) cs_RX4_61 (dk_at dkX4_followBatch 23 rfl) (k_Timing_readyTime (d := 1) (by omega) hk hO hbe hen hS hP) (by omega) (Nat.zero_le _) (Nat.zero_le _) rfl (Nat.le_of_ble_eq_true rfl) rfl (Nat.le_of_ble_eq_true rfl) rfl (fun xx5 hh6 hphh6 => ?_)
  obtain ⟨qq7, rfl⟩ := hphh6
  rw [qq7]
  have hrd := rdy_r hV o be en
  refine q_istore (pc' := 42) (L' := [some (vR t), some (vR s), some (vR p), some (vI (b : Int)), some (vI last), some (vI (be : Int)), some (vI (en : Int)), some (vI ((S.V 0) (((o be)).toNat))), some (vI (rdy S o be en)), none, none, none, none, none]) (dk_at dkX4_followBatch 24 rfl) (by decide) rfl rfl ?_
  refine q_aload_n (pc' := 43) (dk_at dkX4_followBatch 25 rfl) rfl rfl ?_
  refine r_getf (pc' := 46) fl_RX4_64 (dk_at dkX4_followBatch 26 rfl) hS.obj rfl rfl ?_
  refine q_iload (pc' := 48) (dk_at dkX4_followBatch 27 rfl) rfl rfl ?_
  refine q_iconst (pc' := 49) (dk_at dkX4_followBatch 28 rfl) rfl ?_
  refine q_iadd (pc' := 50) (dk_at dkX4_followBatch 29 rfl) rfl ?_
  refine r_aald1 (pc' := 51) (dk_at dkX4_followBatch 30 rfl) hS.setups (((last + 1)).toNat) (by omega) (by omega) (by decide) rfl ?_
  refine q_iload (pc' := 53) (dk_at dkX4_followBatch 31 rfl) rfl rfl ?_
  refine r_iald (pc' := 54) (dk_at dkX4_followBatch 32 rfl) (hS.setups_at (((last + 1)).toNat) (by omega)) ((((S.V 0) (((o be)).toNat))).toNat) (by omega) (by omega) (by decide) rfl ?_
  have bb8 := hT (((last + 1)).toNat) ((((S.V 0) (((o be)).toNat))).toNat)
  refine q_istore (pc' := 56) (L' := [some (vR t), some (vR s), some (vR p), some (vI (b : Int)), some (vI last), some (vI (be : Int)), some (vI (en : Int)), some (vI ((S.V 0) (((o be)).toNat))), some (vI (rdy S o be en)), some (vI ((S.T (((last + 1)).toNat)) ((((S.V 0) (((o be)).toNat))).toNat))), none, none, none, none]) (dk_at dkX4_followBatch 33 rfl) (by decide) rfl rfl ?_
  refine q_aload_n (pc' := 57) (dk_at dkX4_followBatch 34 rfl) rfl rfl ?_
  refine r_getf (pc' := 60) fl_RX4_67 (dk_at dkX4_followBatch 35 rfl) hS.obj rfl rfl ?_
  refine q_if_eq (tgt := 70) (pc' := 63) (dk_at dkX4_followBatch 36 rfl) rfl rfl (by omega) (fun c60 => ?_) (fun c60 => ?_)
  · refine q_aload_n (pc' := 71) (dk_at dkX4_followBatch 40 rfl) rfl rfl ?_
    refine r_getf (pc' := 74) fl_RX4_29 (dk_at dkX4_followBatch 41 rfl) hM.obj rfl rfl ?_
    refine q_iload (pc' := 76) (dk_at dkX4_followBatch 42 rfl) rfl rfl ?_
    refine q_max (pc' := 79) jk_RX4_71 (dk_at dkX4_followBatch 43 rfl) (by omega) (by omega) (by omega) (Nat.zero_le _) (Nat.zero_le _) (Nat.le_of_ble_eq_true rfl) rfl ?_
    refine q_istore (pc' := 81) (L' := [some (vR t), some (vR s), some (vR p), some (vI (b : Int)), some (vI last), some (vI (be : Int)), some (vI (en : Int)), some (vI ((S.V 0) (((o be)).toNat))), some (vI (rdy S o be en)), some (vI ((S.T (((last + 1)).toNat)) ((((S.V 0) (((o be)).toNat))).toNat))), some (vI (max free (rdy S o be en))), none, none, none]) (dk_at dkX4_followBatch 44 rfl) (by decide) rfl rfl ?_
    refine q_iload (pc' := 83) (dk_at dkX4_followBatch 45 rfl) rfl rfl ?_
    refine q_iload (pc' := 85) (dk_at dkX4_followBatch 46 rfl) rfl rfl ?_
    refine q_iadd (pc' := 86) (dk_at dkX4_followBatch 47 rfl) rfl ?_
    refine q_istore (pc' := 88) (L' := [some (vR t), some (vR s), some (vR p), some (vI (b : Int)), some (vI last), some (vI (be : Int)), some (vI (en : Int)), some (vI ((S.V 0) (((o be)).toNat))), some (vI (rdy S o be en)), some (vI ((S.T (((last + 1)).toNat)) ((((S.V 0) (((o be)).toNat))).toNat))), some (vI (max free (rdy S o be en))), some (vI ((max free (rdy S o be en)) + ((S.T (((last + 1)).toNat)) ((((S.V 0) (((o be)).toNat))).toNat)))), none, none]) (dk_at dkX4_followBatch 48 rfl) (by decide) rfl rfl ?_
    refine q_aload_n (pc' := 89) (dk_at dkX4_followBatch 49 rfl) rfl rfl ?_
    refine q_iload (pc' := 91) (dk_at dkX4_followBatch 50 rfl) rfl rfl ?_
    refine q_iload (pc' := 93) (dk_at dkX4_followBatch 51 rfl) rfl rfl ?_
    refine q_max (pc' := 96) jk_RX4_71 (dk_at dkX4_followBatch 52 rfl) (by omega) (by omega) (by omega) (Nat.zero_le _) (Nat.zero_le _) (Nat.le_of_ble_eq_true rfl) rfl ?_
    refine r_putf (pc' := 99) fp_RX4_29 (dk_at dkX4_followBatch 53 rfl) hM.obj (Nat.le_of_ble_eq_true rfl) (PT_int _) rfl (fun hh9 ehh9 => ?_)
    have hS := hS.off ehh9 (by omega)
    have hP := hP.off ehh9 (by omega)
    have hM := hM.w_obj ehh9
    have hF := hF.put ehh9 (by omega)
    refine q_aload_n (pc' := 100) (dk_at dkX4_followBatch 54 rfl) rfl rfl ?_
    refine r_getf (pc' := 103) fl_RX4_29 (dk_at dkX4_followBatch 55 rfl) hM.obj rfl rfl ?_
    refine q_istore (pc' := 105) (L' := [some (vR t), some (vR s), some (vR p), some (vI (b : Int)), some (vI last), some (vI (be : Int)), some (vI (en : Int)), some (vI ((S.V 0) (((o be)).toNat))), some (vI (rdy S o be en)), some (vI ((S.T (((last + 1)).toNat)) ((((S.V 0) (((o be)).toNat))).toNat))), some (vI (max free (rdy S o be en))), some (vI ((max free (rdy S o be en)) + ((S.T (((last + 1)).toNat)) ((((S.V 0) (((o be)).toNat))).toNat)))), some (vI (max ((max free (rdy S o be en)) + ((S.T (((last + 1)).toNat)) ((((S.V 0) (((o be)).toNat))).toNat))) (rdy S o be en))), none]) (dk_at dkX4_followBatch 56 rfl) (by decide) rfl rfl ?_
    refine q_iload (pc' := 107) (dk_at dkX4_followBatch 57 rfl) rfl rfl ?_
    refine q_istore (pc' := 109) (L' := [some (vR t), some (vR s), some (vR p), some (vI (b : Int)), some (vI last), some (vI (be : Int)), some (vI (en : Int)), some (vI ((S.V 0) (((o be)).toNat))), some (vI (rdy S o be en)), some (vI ((S.T (((last + 1)).toNat)) ((((S.V 0) (((o be)).toNat))).toNat))), some (vI (max free (rdy S o be en))), some (vI ((max free (rdy S o be en)) + ((S.T (((last + 1)).toNat)) ((((S.V 0) (((o be)).toNat))).toNat)))), some (vI (max ((max free (rdy S o be en)) + ((S.T (((last + 1)).toNat)) ((((S.V 0) (((o be)).toNat))).toNat))) (rdy S o be en))), some (vI (be : Int))]) (dk_at dkX4_followBatch 58 rfl) (by decide) rfl rfl ?_
    have hf0e : (max ((max free (rdy S o be en)) + ((S.T (((last + 1)).toNat)) ((((S.V 0) (((o be)).toNat))).toNat))) (rdy S o be en)) = fst0 S o be en last free := by
      unfold fst0 sst
      first | rw [if_pos (by omega)] | rw [if_neg (by omega)]
      rfl
    have hf0r := fst0_r hV hT o be en last hfree.1
    rw [hf0e] at hM
    rw [hf0e]
    refine l_fb1 (h := h) (BV := BV) (JV := JV) (tot := tot) (f0 := fst0 S o be en last free) hd hk hO hbe hen hb8 hin hts htp (by omega) ?_ (en - be) 0 JV tot _ _ (by omega) ⟨fun i hi => by omega, fun j _ w => rfl⟩ rfl (upz_self (by show _ = tot 1 + 0; omega)).symm hM hS hP hF
    intro JV1 h1 pl hJ hM hS hP hF
    refine q_iload (pc' := 137) (dk_at dkX4_followBatch 72 rfl) rfl rfl ?_
    refine q_istore (pc' := 139) (L' := [some (vR t), some (vR s), some (vR p), some (vI (b : Int)), some (vI last), some (vI (be : Int)), some (vI (en : Int)), some (vI ((S.V 0) (((o be)).toNat))), some (vI (rdy S o be en)), some (vI ((S.T (((last + 1)).toNat)) ((((S.V 0) (((o be)).toNat))).toNat))), some (vI (max free (rdy S o be en))), some (vI ((max free (rdy S o be en)) + ((S.T (((last + 1)).toNat)) ((((S.V 0) (((o be)).toNat))).toNat)))), some (vI (fst0 S o be en last free)), some (vI (be : Int))]) (dk_at dkX4_followBatch 73 rfl) (by decide) rfl rfl ?_
    have hpr := ptm_r hV o hf0r.1 be (en - be)
    refine l_fb2 (h := h) (BV := BV) (JV := JV) (f0 := fst0 S o be en last free) hd hk hO hbe hen hb8 hin hts htp (by omega) (by omega) ?_ (en - be) 0 JV1 h1 (by omega) (FJ2_of hJ) hM hS hP hF
    intro JV2 h2 pl2 hJ2 hM hS hP hF
    refine q_aload_n (pc' := 165) (dk_at dkX4_followBatch 86 rfl) rfl rfl ?_
    refine r_getf (pc' := 168) fl_RX4_13 (dk_at dkX4_followBatch 87 rfl) hM.obj rfl rfl ?_
    refine q_iconst (pc' := 169) (dk_at dkX4_followBatch 88 rfl) rfl ?_
    refine r_aald1 (pc' := 170) (dk_at dkX4_followBatch 89 rfl) hM.batchValues 0 (by omega) (by omega) (by decide) rfl ?_
    refine q_iload_n (pc' := 171) (dk_at dkX4_followBatch 90 rfl) rfl rfl ?_
    refine q_iload (pc' := 173) (dk_at dkX4_followBatch 91 rfl) rfl rfl ?_
    refine r_iast (pc' := 174) (dk_at dkX4_followBatch 92 rfl) (hM.batchValues_at 0 (by omega)) b (by omega) (by omega) (by decide) rfl (fun hh10 ehh10 => ?_)
    have hS := hS.off ehh10 (by omega)
    have hP := hP.off ehh10 (by omega)
    have hM := isTiming.w_batchValues (by omega) hM ehh10
    have hF := hF.put ehh10 (by omega)
    refine q_aload_n (pc' := 175) (dk_at dkX4_followBatch 93 rfl) rfl rfl ?_
    refine r_getf (pc' := 178) fl_RX4_13 (dk_at dkX4_followBatch 94 rfl) hM.obj rfl rfl ?_
    refine q_iconst (pc' := 179) (dk_at dkX4_followBatch 95 rfl) rfl ?_
    refine r_aald1 (pc' := 180) (dk_at dkX4_followBatch 96 rfl) hM.batchValues 1 (by omega) (by omega) (by decide) rfl ?_
    refine q_iload_n (pc' := 181) (dk_at dkX4_followBatch 97 rfl) rfl rfl ?_
    refine q_iload (pc' := 183) (dk_at dkX4_followBatch 98 rfl) rfl rfl ?_
    refine q_iload (pc' := 185) (dk_at dkX4_followBatch 99 rfl) rfl rfl ?_
    refine q_isub (pc' := 186) (dk_at dkX4_followBatch 100 rfl) rfl ?_
    refine r_iast (pc' := 187) (dk_at dkX4_followBatch 101 rfl) (hM.batchValues_at 1 (by omega)) b (by omega) (by omega) (by decide) rfl (fun hh11 ehh11 => ?_)
    have hS := hS.off ehh11 (by omega)
    have hP := hP.off ehh11 (by omega)
    have hM := isTiming.w_batchValues (by omega) hM ehh11
    have hF := hF.put ehh11 (by omega)
    refine q_aload_n (pc' := 188) (dk_at dkX4_followBatch 102 rfl) rfl rfl ?_
    refine r_getf (pc' := 191) fl_RX4_13 (dk_at dkX4_followBatch 103 rfl) hM.obj rfl rfl ?_
    refine q_iconst (pc' := 192) (dk_at dkX4_followBatch 104 rfl) rfl ?_
    refine r_aald1 (pc' := 193) (dk_at dkX4_followBatch 105 rfl) hM.batchValues 2 (by omega) (by omega) (by decide) rfl ?_
    refine q_iload_n (pc' := 194) (dk_at dkX4_followBatch 106 rfl) rfl rfl ?_
    refine q_iload (pc' := 196) (dk_at dkX4_followBatch 107 rfl) rfl rfl ?_
    refine r_iast (pc' := 197) (dk_at dkX4_followBatch 108 rfl) (hM.batchValues_at 2 (by omega)) b (by omega) (by omega) (by decide) rfl (fun hh12 ehh12 => ?_)
    have hS := hS.off ehh12 (by omega)
    have hP := hP.off ehh12 (by omega)
    have hM := isTiming.w_batchValues (by omega) hM ehh12
    have hF := hF.put ehh12 (by omega)
    refine q_aload_n (pc' := 198) (dk_at dkX4_followBatch 109 rfl) rfl rfl ?_
    refine r_getf (pc' := 201) fl_RX4_13 (dk_at dkX4_followBatch 110 rfl) hM.obj rfl rfl ?_
    refine q_iconst (pc' := 202) (dk_at dkX4_followBatch 111 rfl) rfl ?_
    refine r_aald1 (pc' := 203) (dk_at dkX4_followBatch 112 rfl) hM.batchValues 3 (by omega) (by omega) (by decide) rfl ?_
    refine q_iload_n (pc' := 204) (dk_at dkX4_followBatch 113 rfl) rfl rfl ?_
    refine q_iload (pc' := 206) (dk_at dkX4_followBatch 114 rfl) rfl rfl ?_
    refine r_iast (pc' := 207) (dk_at dkX4_followBatch 115 rfl) (hM.batchValues_at 3 (by omega)) b (by omega) (by omega) (by decide) rfl (fun hh13 ehh13 => ?_)
    have hS := hS.off ehh13 (by omega)
    have hP := hP.off ehh13 (by omega)
    have hM := isTiming.w_batchValues (by omega) hM ehh13
    have hF := hF.put ehh13 (by omega)
    refine q_aload_n (pc' := 208) (dk_at dkX4_followBatch 116 rfl) rfl rfl ?_
    refine r_getf (pc' := 211) fl_RX4_13 (dk_at dkX4_followBatch 117 rfl) hM.obj rfl rfl ?_
    refine q_iconst (pc' := 212) (dk_at dkX4_followBatch 118 rfl) rfl ?_
    refine r_aald1 (pc' := 213) (dk_at dkX4_followBatch 119 rfl) hM.batchValues 4 (by omega) (by omega) (by decide) rfl ?_
    refine q_iload_n (pc' := 214) (dk_at dkX4_followBatch_1 0 rfl) rfl rfl ?_
    refine q_iload (pc' := 216) (dk_at dkX4_followBatch_1 1 rfl) rfl rfl ?_
    refine r_iast (pc' := 217) (dk_at dkX4_followBatch_1 2 rfl) (hM.batchValues_at 4 (by omega)) b (by omega) (by omega) (by decide) rfl (fun hh14 ehh14 => ?_)
    have hS := hS.off ehh14 (by omega)
    have hP := hP.off ehh14 (by omega)
    have hM := isTiming.w_batchValues (by omega) hM ehh14
    have hF := hF.put ehh14 (by omega)
    refine q_aload_n (pc' := 218) (dk_at dkX4_followBatch_1 3 rfl) rfl rfl ?_
    refine r_getf (pc' := 221) fl_RX4_13 (dk_at dkX4_followBatch_1 4 rfl) hM.obj rfl rfl ?_
    refine q_iconst (pc' := 222) (dk_at dkX4_followBatch_1 5 rfl) rfl ?_
    refine r_aald1 (pc' := 223) (dk_at dkX4_followBatch_1 6 rfl) hM.batchValues 5 (by omega) (by omega) (by decide) rfl ?_
    refine q_iload_n (pc' := 224) (dk_at dkX4_followBatch_1 7 rfl) rfl rfl ?_
    refine q_aload_n (pc' := 225) (dk_at dkX4_followBatch_1 8 rfl) rfl rfl ?_
    refine r_getf (pc' := 228) fl_RX4_29 (dk_at dkX4_followBatch_1 9 rfl) hM.obj rfl rfl ?_
    refine r_iast (pc' := 229) (dk_at dkX4_followBatch_1 10 rfl) (hM.batchValues_at 5 (by omega)) b (by omega) (by omega) (by decide) rfl (fun hh15 ehh15 => ?_)
    have hS := hS.off ehh15 (by omega)
    have hP := hP.off ehh15 (by omega)
    have hM := isTiming.w_batchValues (by omega) hM ehh15
    have hF := hF.put ehh15 (by omega)
    refine q_aload_n (pc' := 230) (dk_at dkX4_followBatch_1 11 rfl) rfl rfl ?_
    refine r_getf (pc' := 233) fl_RX4_19 (dk_at dkX4_followBatch_1 12 rfl) hM.obj rfl rfl ?_
    refine q_iconst (pc' := 234) (dk_at dkX4_followBatch_1 13 rfl) rfl ?_
    refine q_dup2 (pc' := 235) (fun _ => rfl) (fun _ => rfl) (dk_at dkX4_followBatch_1 14 rfl) rfl ?_
    refine r_iald (pc' := 236) (dk_at dkX4_followBatch_1 15 rfl) hM.totals 0 (by omega) (by omega) (by decide) rfl ?_
    refine q_iload (pc' := 238) (dk_at dkX4_followBatch_1 16 rfl) rfl rfl ?_
    refine q_iadd (pc' := 239) (dk_at dkX4_followBatch_1 17 rfl) rfl ?_
    refine r_iast (pc' := 240) (dk_at dkX4_followBatch_1 18 rfl) hM.totals 0 (by omega) (by omega) (by decide) rfl (fun hh16 ehh16 => ?_)
    have hS := hS.off ehh16 (by omega)
    have hP := hP.off ehh16 (by omega)
    have hM := hM.w_totals ehh16
    have hF := hF.put ehh16 (by omega)
    refine q_iload (pc' := 242) (dk_at dkX4_followBatch_1 19 rfl) rfl rfl ?_
    refine r_iret rfl (dk_at dkX4_followBatch_1 20 rfl) ?_
    refine ⟨rfl, _, _, _, hM, ⟨?_, ?_, ?_, ?_, ?_, ?_, ?_⟩, hF⟩
    · intro w k hw hk2
      rcases (show w = 0 ∨ w = 1 ∨ w = 2 ∨ w = 3 ∨ w = 4 ∨ w = 5 by omega) with rfl | rfl | rfl | rfl | rfl | rfl <;> simp [upf, upz, hk2]
    · have hss : (max free (rdy S o be en)) = sst S o be en free := by unfold sst; first | rw [if_pos (by omega)] | rw [if_neg (by omega)]
      refine ⟨?_, ?_, ?_, ?_, ?_, ?_⟩
      · simp [upf, upz]; rfl
      · simp [upf, upz]
      · simp only [upf, upz]; simp; rw [upz_eq]; exact hss
      · simp only [upf, upz]; simp; rw [upz_eq, ← hss]; rfl
      · simp [upf, upz]
      · simp only [upf, upz]; simp; rw [upz_eq]; rfl
    · intro i hi
      have a1 := hJ2.1 i hi
      have a2 := hJ2.2.1 i hi
      exact ⟨a1.1, a2.1, a2.2, a1.2⟩
    · intro j hj w _
      exact hJ2.2.2.2 j hj w
    · simp [upz]; rfl
    · simp [upz]
    · simp [upz]
  · refine q_aload_n (pc' := 64) (dk_at dkX4_followBatch 37 rfl) rfl rfl ?_
    refine r_getf (pc' := 67) fl_RX4_29 (dk_at dkX4_followBatch 38 rfl) hM.obj rfl rfl ?_
    refine q_goto (tgt := 79) (dk_at dkX4_followBatch 39 rfl) rfl ?_
    refine q_istore (pc' := 81) (L' := [some (vR t), some (vR s), some (vR p), some (vI (b : Int)), some (vI last), some (vI (be : Int)), some (vI (en : Int)), some (vI ((S.V 0) (((o be)).toNat))), some (vI (rdy S o be en)), some (vI ((S.T (((last + 1)).toNat)) ((((S.V 0) (((o be)).toNat))).toNat))), some (vI free), none, none, none]) (dk_at dkX4_followBatch 44 rfl) (by decide) rfl rfl ?_
    refine q_iload (pc' := 83) (dk_at dkX4_followBatch 45 rfl) rfl rfl ?_
    refine q_iload (pc' := 85) (dk_at dkX4_followBatch 46 rfl) rfl rfl ?_
    refine q_iadd (pc' := 86) (dk_at dkX4_followBatch 47 rfl) rfl ?_
    refine q_istore (pc' := 88) (L' := [some (vR t), some (vR s), some (vR p), some (vI (b : Int)), some (vI last), some (vI (be : Int)), some (vI (en : Int)), some (vI ((S.V 0) (((o be)).toNat))), some (vI (rdy S o be en)), some (vI ((S.T (((last + 1)).toNat)) ((((S.V 0) (((o be)).toNat))).toNat))), some (vI free), some (vI (free + ((S.T (((last + 1)).toNat)) ((((S.V 0) (((o be)).toNat))).toNat)))), none, none]) (dk_at dkX4_followBatch 48 rfl) (by decide) rfl rfl ?_
    refine q_aload_n (pc' := 89) (dk_at dkX4_followBatch 49 rfl) rfl rfl ?_
    refine q_iload (pc' := 91) (dk_at dkX4_followBatch 50 rfl) rfl rfl ?_
    refine q_iload (pc' := 93) (dk_at dkX4_followBatch 51 rfl) rfl rfl ?_
    refine q_max (pc' := 96) jk_RX4_71 (dk_at dkX4_followBatch 52 rfl) (by omega) (by omega) (by omega) (Nat.zero_le _) (Nat.zero_le _) (Nat.le_of_ble_eq_true rfl) rfl ?_
    refine r_putf (pc' := 99) fp_RX4_29 (dk_at dkX4_followBatch 53 rfl) hM.obj (Nat.le_of_ble_eq_true rfl) (PT_int _) rfl (fun hh17 ehh17 => ?_)
    have hS := hS.off ehh17 (by omega)
    have hP := hP.off ehh17 (by omega)
    have hM := hM.w_obj ehh17
    have hF := hF.put ehh17 (by omega)
    refine q_aload_n (pc' := 100) (dk_at dkX4_followBatch 54 rfl) rfl rfl ?_
    refine r_getf (pc' := 103) fl_RX4_29 (dk_at dkX4_followBatch 55 rfl) hM.obj rfl rfl ?_
    refine q_istore (pc' := 105) (L' := [some (vR t), some (vR s), some (vR p), some (vI (b : Int)), some (vI last), some (vI (be : Int)), some (vI (en : Int)), some (vI ((S.V 0) (((o be)).toNat))), some (vI (rdy S o be en)), some (vI ((S.T (((last + 1)).toNat)) ((((S.V 0) (((o be)).toNat))).toNat))), some (vI free), some (vI (free + ((S.T (((last + 1)).toNat)) ((((S.V 0) (((o be)).toNat))).toNat)))), some (vI (max (free + ((S.T (((last + 1)).toNat)) ((((S.V 0) (((o be)).toNat))).toNat))) (rdy S o be en))), none]) (dk_at dkX4_followBatch 56 rfl) (by decide) rfl rfl ?_
    refine q_iload (pc' := 107) (dk_at dkX4_followBatch 57 rfl) rfl rfl ?_
    refine q_istore (pc' := 109) (L' := [some (vR t), some (vR s), some (vR p), some (vI (b : Int)), some (vI last), some (vI (be : Int)), some (vI (en : Int)), some (vI ((S.V 0) (((o be)).toNat))), some (vI (rdy S o be en)), some (vI ((S.T (((last + 1)).toNat)) ((((S.V 0) (((o be)).toNat))).toNat))), some (vI free), some (vI (free + ((S.T (((last + 1)).toNat)) ((((S.V 0) (((o be)).toNat))).toNat)))), some (vI (max (free + ((S.T (((last + 1)).toNat)) ((((S.V 0) (((o be)).toNat))).toNat))) (rdy S o be en))), some (vI (be : Int))]) (dk_at dkX4_followBatch 58 rfl) (by decide) rfl rfl ?_
    have hf0e : (max (free + ((S.T (((last + 1)).toNat)) ((((S.V 0) (((o be)).toNat))).toNat))) (rdy S o be en)) = fst0 S o be en last free := by
      unfold fst0 sst
      first | rw [if_pos (by omega)] | rw [if_neg (by omega)]
      rfl
    have hf0r := fst0_r hV hT o be en last hfree.1
    rw [hf0e] at hM
    rw [hf0e]
    refine l_fb1 (h := h) (BV := BV) (JV := JV) (tot := tot) (f0 := fst0 S o be en last free) hd hk hO hbe hen hb8 hin hts htp (by omega) ?_ (en - be) 0 JV tot _ _ (by omega) ⟨fun i hi => by omega, fun j _ w => rfl⟩ rfl (upz_self (by show _ = tot 1 + 0; omega)).symm hM hS hP hF
    intro JV1 h1 pl hJ hM hS hP hF
    refine q_iload (pc' := 137) (dk_at dkX4_followBatch 72 rfl) rfl rfl ?_
    refine q_istore (pc' := 139) (L' := [some (vR t), some (vR s), some (vR p), some (vI (b : Int)), some (vI last), some (vI (be : Int)), some (vI (en : Int)), some (vI ((S.V 0) (((o be)).toNat))), some (vI (rdy S o be en)), some (vI ((S.T (((last + 1)).toNat)) ((((S.V 0) (((o be)).toNat))).toNat))), some (vI free), some (vI (free + ((S.T (((last + 1)).toNat)) ((((S.V 0) (((o be)).toNat))).toNat)))), some (vI (fst0 S o be en last free)), some (vI (be : Int))]) (dk_at dkX4_followBatch 73 rfl) (by decide) rfl rfl ?_
    have hpr := ptm_r hV o hf0r.1 be (en - be)
    refine l_fb2 (h := h) (BV := BV) (JV := JV) (f0 := fst0 S o be en last free) hd hk hO hbe hen hb8 hin hts htp (by omega) (by omega) ?_ (en - be) 0 JV1 h1 (by omega) (FJ2_of hJ) hM hS hP hF
    intro JV2 h2 pl2 hJ2 hM hS hP hF
    refine q_aload_n (pc' := 165) (dk_at dkX4_followBatch 86 rfl) rfl rfl ?_
    refine r_getf (pc' := 168) fl_RX4_13 (dk_at dkX4_followBatch 87 rfl) hM.obj rfl rfl ?_
    refine q_iconst (pc' := 169) (dk_at dkX4_followBatch 88 rfl) rfl ?_
    refine r_aald1 (pc' := 170) (dk_at dkX4_followBatch 89 rfl) hM.batchValues 0 (by omega) (by omega) (by decide) rfl ?_
    refine q_iload_n (pc' := 171) (dk_at dkX4_followBatch 90 rfl) rfl rfl ?_
    refine q_iload (pc' := 173) (dk_at dkX4_followBatch 91 rfl) rfl rfl ?_
    refine r_iast (pc' := 174) (dk_at dkX4_followBatch 92 rfl) (hM.batchValues_at 0 (by omega)) b (by omega) (by omega) (by decide) rfl (fun hh18 ehh18 => ?_)
    have hS := hS.off ehh18 (by omega)
    have hP := hP.off ehh18 (by omega)
    have hM := isTiming.w_batchValues (by omega) hM ehh18
    have hF := hF.put ehh18 (by omega)
    refine q_aload_n (pc' := 175) (dk_at dkX4_followBatch 93 rfl) rfl rfl ?_
    refine r_getf (pc' := 178) fl_RX4_13 (dk_at dkX4_followBatch 94 rfl) hM.obj rfl rfl ?_
    refine q_iconst (pc' := 179) (dk_at dkX4_followBatch 95 rfl) rfl ?_
    refine r_aald1 (pc' := 180) (dk_at dkX4_followBatch 96 rfl) hM.batchValues 1 (by omega) (by omega) (by decide) rfl ?_
    refine q_iload_n (pc' := 181) (dk_at dkX4_followBatch 97 rfl) rfl rfl ?_
    refine q_iload (pc' := 183) (dk_at dkX4_followBatch 98 rfl) rfl rfl ?_
    refine q_iload (pc' := 185) (dk_at dkX4_followBatch 99 rfl) rfl rfl ?_
    refine q_isub (pc' := 186) (dk_at dkX4_followBatch 100 rfl) rfl ?_
    refine r_iast (pc' := 187) (dk_at dkX4_followBatch 101 rfl) (hM.batchValues_at 1 (by omega)) b (by omega) (by omega) (by decide) rfl (fun hh19 ehh19 => ?_)
    have hS := hS.off ehh19 (by omega)
    have hP := hP.off ehh19 (by omega)
    have hM := isTiming.w_batchValues (by omega) hM ehh19
    have hF := hF.put ehh19 (by omega)
    refine q_aload_n (pc' := 188) (dk_at dkX4_followBatch 102 rfl) rfl rfl ?_
    refine r_getf (pc' := 191) fl_RX4_13 (dk_at dkX4_followBatch 103 rfl) hM.obj rfl rfl ?_
    refine q_iconst (pc' := 192) (dk_at dkX4_followBatch 104 rfl) rfl ?_
    refine r_aald1 (pc' := 193) (dk_at dkX4_followBatch 105 rfl) hM.batchValues 2 (by omega) (by omega) (by decide) rfl ?_
    refine q_iload_n (pc' := 194) (dk_at dkX4_followBatch 106 rfl) rfl rfl ?_
    refine q_iload (pc' := 196) (dk_at dkX4_followBatch 107 rfl) rfl rfl ?_
    refine r_iast (pc' := 197) (dk_at dkX4_followBatch 108 rfl) (hM.batchValues_at 2 (by omega)) b (by omega) (by omega) (by decide) rfl (fun hh20 ehh20 => ?_)
    have hS := hS.off ehh20 (by omega)
    have hP := hP.off ehh20 (by omega)
    have hM := isTiming.w_batchValues (by omega) hM ehh20
    have hF := hF.put ehh20 (by omega)
    refine q_aload_n (pc' := 198) (dk_at dkX4_followBatch 109 rfl) rfl rfl ?_
    refine r_getf (pc' := 201) fl_RX4_13 (dk_at dkX4_followBatch 110 rfl) hM.obj rfl rfl ?_
    refine q_iconst (pc' := 202) (dk_at dkX4_followBatch 111 rfl) rfl ?_
    refine r_aald1 (pc' := 203) (dk_at dkX4_followBatch 112 rfl) hM.batchValues 3 (by omega) (by omega) (by decide) rfl ?_
    refine q_iload_n (pc' := 204) (dk_at dkX4_followBatch 113 rfl) rfl rfl ?_
    refine q_iload (pc' := 206) (dk_at dkX4_followBatch 114 rfl) rfl rfl ?_
    refine r_iast (pc' := 207) (dk_at dkX4_followBatch 115 rfl) (hM.batchValues_at 3 (by omega)) b (by omega) (by omega) (by decide) rfl (fun hh21 ehh21 => ?_)
    have hS := hS.off ehh21 (by omega)
    have hP := hP.off ehh21 (by omega)
    have hM := isTiming.w_batchValues (by omega) hM ehh21
    have hF := hF.put ehh21 (by omega)
    refine q_aload_n (pc' := 208) (dk_at dkX4_followBatch 116 rfl) rfl rfl ?_
    refine r_getf (pc' := 211) fl_RX4_13 (dk_at dkX4_followBatch 117 rfl) hM.obj rfl rfl ?_
    refine q_iconst (pc' := 212) (dk_at dkX4_followBatch 118 rfl) rfl ?_
    refine r_aald1 (pc' := 213) (dk_at dkX4_followBatch 119 rfl) hM.batchValues 4 (by omega) (by omega) (by decide) rfl ?_
    refine q_iload_n (pc' := 214) (dk_at dkX4_followBatch_1 0 rfl) rfl rfl ?_
    refine q_iload (pc' := 216) (dk_at dkX4_followBatch_1 1 rfl) rfl rfl ?_
    refine r_iast (pc' := 217) (dk_at dkX4_followBatch_1 2 rfl) (hM.batchValues_at 4 (by omega)) b (by omega) (by omega) (by decide) rfl (fun hh22 ehh22 => ?_)
    have hS := hS.off ehh22 (by omega)
    have hP := hP.off ehh22 (by omega)
    have hM := isTiming.w_batchValues (by omega) hM ehh22
    have hF := hF.put ehh22 (by omega)
    refine q_aload_n (pc' := 218) (dk_at dkX4_followBatch_1 3 rfl) rfl rfl ?_
    refine r_getf (pc' := 221) fl_RX4_13 (dk_at dkX4_followBatch_1 4 rfl) hM.obj rfl rfl ?_
    refine q_iconst (pc' := 222) (dk_at dkX4_followBatch_1 5 rfl) rfl ?_
    refine r_aald1 (pc' := 223) (dk_at dkX4_followBatch_1 6 rfl) hM.batchValues 5 (by omega) (by omega) (by decide) rfl ?_
    refine q_iload_n (pc' := 224) (dk_at dkX4_followBatch_1 7 rfl) rfl rfl ?_
    refine q_aload_n (pc' := 225) (dk_at dkX4_followBatch_1 8 rfl) rfl rfl ?_
    refine r_getf (pc' := 228) fl_RX4_29 (dk_at dkX4_followBatch_1 9 rfl) hM.obj rfl rfl ?_
    refine r_iast (pc' := 229) (dk_at dkX4_followBatch_1 10 rfl) (hM.batchValues_at 5 (by omega)) b (by omega) (by omega) (by decide) rfl (fun hh23 ehh23 => ?_)
    have hS := hS.off ehh23 (by omega)
    have hP := hP.off ehh23 (by omega)
    have hM := isTiming.w_batchValues (by omega) hM ehh23
    have hF := hF.put ehh23 (by omega)
    refine q_aload_n (pc' := 230) (dk_at dkX4_followBatch_1 11 rfl) rfl rfl ?_
    refine r_getf (pc' := 233) fl_RX4_19 (dk_at dkX4_followBatch_1 12 rfl) hM.obj rfl rfl ?_
    refine q_iconst (pc' := 234) (dk_at dkX4_followBatch_1 13 rfl) rfl ?_
    refine q_dup2 (pc' := 235) (fun _ => rfl) (fun _ => rfl) (dk_at dkX4_followBatch_1 14 rfl) rfl ?_
    refine r_iald (pc' := 236) (dk_at dkX4_followBatch_1 15 rfl) hM.totals 0 (by omega) (by omega) (by decide) rfl ?_
    refine q_iload (pc' := 238) (dk_at dkX4_followBatch_1 16 rfl) rfl rfl ?_
    refine q_iadd (pc' := 239) (dk_at dkX4_followBatch_1 17 rfl) rfl ?_
    refine r_iast (pc' := 240) (dk_at dkX4_followBatch_1 18 rfl) hM.totals 0 (by omega) (by omega) (by decide) rfl (fun hh24 ehh24 => ?_)
    have hS := hS.off ehh24 (by omega)
    have hP := hP.off ehh24 (by omega)
    have hM := hM.w_totals ehh24
    have hF := hF.put ehh24 (by omega)
    refine q_iload (pc' := 242) (dk_at dkX4_followBatch_1 19 rfl) rfl rfl ?_
    refine r_iret rfl (dk_at dkX4_followBatch_1 20 rfl) ?_
    refine ⟨rfl, _, _, _, hM, ⟨?_, ?_, ?_, ?_, ?_, ?_, ?_⟩, hF⟩
    · intro w k hw hk2
      rcases (show w = 0 ∨ w = 1 ∨ w = 2 ∨ w = 3 ∨ w = 4 ∨ w = 5 by omega) with rfl | rfl | rfl | rfl | rfl | rfl <;> simp [upf, upz, hk2]
    · have hss : free = sst S o be en free := by unfold sst; first | rw [if_pos (by omega)] | rw [if_neg (by omega)]
      refine ⟨?_, ?_, ?_, ?_, ?_, ?_⟩
      · simp [upf, upz]; rfl
      · simp [upf, upz]
      · simp only [upf, upz]; simp; rw [upz_eq]; exact hss
      · simp only [upf, upz]; simp; rw [upz_eq, ← hss]; rfl
      · simp [upf, upz]
      · simp only [upf, upz]; simp; rw [upz_eq]; rfl
    · intro i hi
      have a1 := hJ2.1 i hi
      have a2 := hJ2.2.1 i hi
      exact ⟨a1.1, a2.1, a2.2, a1.2⟩
    · intro j hj w _
      exact hJ2.2.2.2 j hj w
    · simp [upz]; rfl
    · simp [upz]
    · simp [upz]
