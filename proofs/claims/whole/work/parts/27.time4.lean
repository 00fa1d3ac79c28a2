/-! Timing.follow: all times of a plan: m places of the row o, bc batches that end at e -/
def lstB (S : Shp) (o e : Nat → Int) (b : Nat) : Int := if 0 < b then S.V 0 (jb o (bgn e (b - 1))) else -1
def frB (S : Shp) (o e : Nat → Int) : Nat → Int
  | 0 => 0
  | b + 1 => fre S o (bgn e b) (e b).toNat (lstB S o e b) (frB S o e b)
/-- the batch of a place -/
def bix (e : Nat → Int) (k : Nat) : Nat → Nat
  | 0 => 0
  | b + 1 => if e b ≤ (k : Int) then bix e k b + 1 else bix e k b
/-- start and completion at a place -/
def f0B (S : Shp) (o e : Nat → Int) (b : Nat) : Int := fst0 S o (bgn e b) (e b).toNat (lstB S o e b) (frB S o e b)
def stK (S : Shp) (o e : Nat → Int) (bc k : Nat) : Int := max (ptm S o (f0B S o e (bix e k bc)) (bgn e (bix e k bc)) (k - bgn e (bix e k bc))) (S.V 2 (jb o k))
def cmK (S : Shp) (o e : Nat → Int) (bc k : Nat) : Int := if S.wh = 1 then frB S o e (bix e k bc + 1) else ptm S o (f0B S o e (bix e k bc)) (bgn e (bix e k bc)) (k - bgn e (bix e k bc) + 1)
def stS (S : Shp) (o e : Nat → Int) : Nat → Int
  | 0 => 0
  | b + 1 => stS S o e b + stp S o (bgn e b) (lstB S o e b)
def cstK (S : Shp) (o e : Nat → Int) (bc : Nat) : Nat → Int
  | 0 => neu S
  | i + 1 => jn S (cstK S o e bc i) (pen S (jb o i) (cmK S o e bc i))
def costP (S : Shp) (o e : Nat → Int) (bc m : Nat) : Int := if m = 0 then 0 else cstK S o e bc m
/-- a plan: its rows -/
def Pok (cnt : Nat) (o e : Nat → Int) (bc m : Nat) : Prop := m ≤ 8 ∧ bc ≤ m ∧ (∀ j, 0 ≤ o j ∧ o j ≤ 7) ∧ (∀ b, b < bc → ((bgn e b : Nat) : Int) < e b ∧ e b ≤ (m : Int)) ∧ bgn e bc = m ∧ (∀ k, k < m → o k < (cnt : Int)) ∧ ∀ k k', k < m → k' < m → o k = o k' → k = k'
theorem bgn_succ (e : Nat → Int) (b : Nat) : bgn e (b + 1) = (e b).toNat := by unfold bgn; rw [if_pos (by omega)]; rfl
theorem Pok.bg {cnt : Nat} {o e : Nat → Int} {bc m : Nat} (h : Pok cnt o e bc m) : ∀ b, b ≤ bc → b ≤ bgn e b ∧ bgn e b ≤ m
  | 0, _ => by unfold bgn; rw [if_neg (by omega)]; omega
  | b + 1, hb => by
    have h1 := Pok.bg h b (by omega)
    have h2 := h.2.2.2.1 b (by omega)
    rw [bgn_succ]
    omega
theorem Pok.bgi {cnt : Nat} {o e : Nat → Int} {bc m : Nat} (h : Pok cnt o e bc m) {b : Nat} (hb : b ≤ bc) : (if 0 < b then e (b - 1) else 0) = ((bgn e b : Nat) : Int) := by
  unfold bgn
  by_cases q : 0 < b
  · rw [if_pos q, if_pos q]
    have := h.2.2.2.1 (b - 1) (by omega)
    omega
  · rw [if_neg q, if_neg q]
    rfl
theorem bix_lo {cnt : Nat} {o e : Nat → Int} {bc m : Nat} (h : Pok cnt o e bc m) {k : Nat} : ∀ b, b ≤ bc → bgn e b ≤ k → bix e k b = b
  | 0, _, _ => rfl
  | b + 1, hb, hk => by
    rw [bgn_succ] at hk
    have h2 := h.2.2.2.1 b (by omega)
    unfold bix
    rw [if_pos (by omega), bix_lo h b (by omega) (by omega)]
theorem bix_at {cnt : Nat} {o e : Nat → Int} {bc m : Nat} (h : Pok cnt o e bc m) {k b : Nat} (h1 : bgn e b ≤ k) (h2 : (k : Int) < e b) : ∀ c, b + 1 ≤ c → c ≤ bc → bix e k c = b
  | 0, h3, _ => by omega
  | c + 1, h3, h4 => by
    unfold bix
    by_cases q : c = b
    · subst q
      rw [if_neg (by omega)]
      exact bix_lo h c (by omega) h1
    · have ih := bix_at h h1 h2 c (by omega) (by omega)
      have mono : ∀ i, b + i < bc → e b ≤ e (b + i) := by
        intro i
        induction i with
        | zero => intro _; exact Int.le_refl _
        | succ i ihi =>
          intro hi
          have a1 := ihi (by omega)
          have a2 := h.2.2.2.1 (b + i + 1) (by omega)
          rw [bgn_succ] at a2
          have a3 : b + (i + 1) = b + i + 1 := by omega
          rw [a3]
          omega
      have := mono (c - b) (by omega)
      rw [show b + (c - b) = c by omega] at this
      rw [if_neg (by omega)]
      exact ih
theorem frB_r {S : Shp} (hV : Vok S.V) (hT : Tok S.T) {cnt : Nat} {o e : Nat → Int} {bc m : Nat} (h : Pok cnt o e bc m) : ∀ b, b ≤ bc → 0 ≤ frB S o e b ∧ frB S o e b ≤ 300 + 60 * b + 50 * bgn e b
  | 0, _ => by unfold frB; omega
  | b + 1, hb => by
    have h1 := frB_r hV hT h b (by omega)
    have h2 := h.2.2.2.1 b (by omega)
    have h3 := fst0_r hV hT o (bgn e b) (e b).toNat (lstB S o e b) h1.1
    have h4 := ptm_r hV o h3.1 (bgn e b) ((e b).toNat - bgn e b)
    rw [bgn_succ]
    unfold frB fre
    omega
def TInv (S : Shp) (o e : Nat → Int) (bc b : Nat) (BV JV : Nat → Nat → Int) (tot : Nat → Int) : Prop :=
  (∀ b', b' < b → BV 0 b' = S.V 0 (jb o (bgn e b')) ∧ BV 1 b' = e b' - (bgn e b' : Nat) ∧ BV 2 b' = sst S o (bgn e b') (e b').toNat (frB S o e b') ∧ BV 3 b' = sst S o (bgn e b') (e b').toNat (frB S o e b') + stp S o (bgn e b') (lstB S o e b') ∧ BV 4 b' = f0B S o e b' ∧ BV 5 b' = frB S o e (b' + 1)) ∧
  (∀ k, k < bgn e b → JV 0 (jb o k) = stK S o e bc k ∧ JV 1 (jb o k) = cmK S o e bc k ∧ JV 2 (jb o k) = max 0 (cmK S o e bc k - S.V 3 (jb o k)) ∧ JV 3 (jb o k) = (bix e k bc : Nat)) ∧
  (∀ j, (∀ k, k < bgn e b → jb o k ≠ j) → ∀ w, w < 4 → JV w j = -1) ∧ tot 0 = stS S o e b ∧ tot 1 = tsum S o 0 (bgn e b)
theorem tsum_app (S : Shp) (o : Nat → Int) (be : Nat) : ∀ i, tsum S o 0 (be + i) = tsum S o 0 be + tsum S o be i
  | 0 => by show _ = _ + 0; rw [Int.add_zero]; rfl
  | i + 1 => by
    show tsum S o 0 (be + i) + S.V 1 (jb o (0 + (be + i))) = tsum S o 0 be + (tsum S o be i + S.V 1 (jb o (be + i)))
    rw [tsum_app S o be i, Nat.zero_add]
    omega
theorem TInv_step {S : Shp} {cnt : Nat} {o e : Nat → Int} {bc m b : Nat} (h : Pok cnt o e bc m) (hb : b < bc) {BV JV BV' JV' : Nat → Nat → Int} {tot tot' : Nat → Int} (hI : TInv S o e bc b BV JV tot) (hD : BDone S o (bgn e b) (e b).toNat (lstB S o e b) (frB S o e b) b BV JV tot BV' JV' tot') : TInv S o e bc (b + 1) BV' JV' tot' := by
  obtain ⟨d1, ⟨d2, d3, d4, d5, d6, d7⟩, d8, d9, d10, d11, d12⟩ := hD
  obtain ⟨i1, i2, i3, i4, i5⟩ := hI
  have hv := h.2.2.2.1 b hb
  have hbm := h.bg b (by omega)
  have hbs := bgn_succ e b
  refine ⟨fun b' hb' => ?_, fun k hk => ?_, fun j hj w hw => ?_, ?_, ?_⟩
  · by_cases q : b' = b
    · subst q
      refine ⟨d2, ?_, d4, d5, d6, d7⟩
      rw [d3]
      omega
    · rw [d1 0 b' (by omega) q, d1 1 b' (by omega) q, d1 2 b' (by omega) q, d1 3 b' (by omega) q, d1 4 b' (by omega) q, d1 5 b' (by omega) q]
      exact i1 b' (by omega)
  · rw [hbs] at hk
    by_cases q : bgn e b ≤ k
    · have e1 : bix e k bc = b := bix_at h q (by omega) bc (by omega) (Nat.le_refl _)
      obtain ⟨g1, g2, g3, g4⟩ := d8 (k - bgn e b) (by omega)
      rw [show bgn e b + (k - bgn e b) = k by omega] at g1 g2 g3 g4
      have c1 : JV' 1 (jb o k) = cmK S o e bc k := by
        rw [g2]
        unfold cmK
        rw [e1]
        rfl
      refine ⟨?_, c1, ?_, ?_⟩
      · rw [g1]
        unfold stK
        rw [e1]
        rfl
      · rw [g3, c1]
      · rw [g4, e1]
    · have hne : ∀ i, i < (e b).toNat - bgn e b → jb o (bgn e b + i) ≠ jb o k := fun i hi z => by
        have r1 := h.2.2.1 (bgn e b + i)
        have r2 := h.2.2.1 k
        unfold jb at z
        have := h.2.2.2.2.2.2 (bgn e b + i) k (by omega) (by omega) (by omega)
        omega
      rw [d9 _ hne 0 (by omega), d9 _ hne 1 (by omega), d9 _ hne 2 (by omega), d9 _ hne 3 (by omega)]
      exact i2 k (by omega)
  · rw [hbs] at hj
    rw [d9 j (fun i hi => hj (bgn e b + i) (by omega)) w hw]
    exact i3 j (fun k hk => hj k (by omega)) w hw
  · rw [d10, i4]
    rfl
  · rw [d11, i5, hbs]
    have := tsum_app S o (bgn e b) ((e b).toNat - bgn e b)
    rw [show bgn e b + ((e b).toNat - bgn e b) = (e b).toNat by omega] at this
    omega
theorem cmK_r {S : Shp} (hV : Vok S.V) (hT : Tok S.T) {cnt : Nat} {o e : Nat → Int} {bc m : Nat} (h : Pok cnt o e bc m) {k : Nat} (hk : k < m) : 0 ≤ cmK S o e bc k ∧ cmK S o e bc k ≤ 100000 := by
  have hm := h.1
  have key : ∀ b, b ≤ bc → k < bgn e b → ∃ b', b' < bc ∧ bgn e b' ≤ k ∧ (k : Int) < e b' := by
    intro b
    induction b with
    | zero => intro _ h1; unfold bgn at h1; rw [if_neg (by omega)] at h1; omega
    | succ b ih =>
      intro hb h1
      rw [bgn_succ] at h1
      by_cases q : k < bgn e b
      · exact ih (by omega) q
      · have := h.2.2.2.1 b (by omega)
        exact ⟨b, by omega, by omega, by omega⟩
  obtain ⟨b, hb, h1, h2⟩ := key bc (Nat.le_refl _) (by rw [h.2.2.2.2.1]; exact hk)
  have e1 : bix e k bc = b := bix_at h h1 h2 bc (by omega) (Nat.le_refl _)
  unfold cmK
  rw [e1]
  have f1 := frB_r hV hT h b (by omega)
  have f2 := frB_r hV hT h (b + 1) (by omega)
  have g1 := h.bg b (by omega)
  have g2 := h.bg (b + 1) (by omega)
  have f3 := fst0_r hV hT o (bgn e b) (e b).toNat (lstB S o e b) f1.1
  have f4 := ptm_r hV o f3.1 (bgn e b) (k - bgn e b + 1)
  have f5 : f0B S o e b = fst0 S o (bgn e b) (e b).toNat (lstB S o e b) (frB S o e b) := rfl
  rw [f5]
  have hbc := h.2.1
  split <;> omega
theorem cstK_eq {S : Shp} {o e C : Nat → Int} {bc m : Nat} (hC : ∀ k, k < m → C (jb o k) = cmK S o e bc k) : ∀ i, i ≤ m → cstTo S o C i = cstK S o e bc i
  | 0, _ => rfl
  | i + 1, h => by
    unfold cstTo cstK
    rw [cstK_eq hC i (by omega), hC i (by omega)]
theorem isTiming.row_jv {n : Nat} {h h' : PH} {b : Nat} {BV JV : Nat → Nat → Int} {tot : Nat → Int} {free : Int} {i : Nat} {f1 : Nat → Int} (hi : i < 4) (H : isTiming n h b BV JV tot free) (hA : At1 n h' (b + 9 + i) (cI 8 f1)) (hG : Fr h h' (b + 9 + i) (b + 9 + i + 1)) : isTiming n h' b BV (upf JV i f1) tot free := by
  refine ⟨At1.fr H.1 (hG _ (by omega)), At1.fr H.2.1 (hG _ (by omega)), At1.fr H.2.2.1 (hG _ (by omega)), fun j hj => At1.fr (H.2.2.2.1 j hj) (hG _ (by omega)), At1.fr H.2.2.2.2.1 (hG _ (by omega)), fun j hj => ?_⟩
  by_cases q : j = i
  · subst q
    rw [upf_eq]
    exact hA
  · rw [upf_ne q]
    exact At1.fr (H.2.2.2.2.2 j hj) (hG _ (by omega))
theorem isTiming.row_tot {n : Nat} {h h' : PH} {b : Nat} {BV JV : Nat → Nat → Int} {tot : Nat → Int} {free : Int} {f1 : Nat → Int} (H : isTiming n h b BV JV tot free) (hA : At1 n h' (b + 13) (cI 3 f1)) (hG : Fr h h' (b + 13) (b + 13 + 1)) : isTiming n h' b BV JV f1 free :=
  ⟨At1.fr H.1 (hG _ (by omega)), hA, At1.fr H.2.2.1 (hG _ (by omega)), fun j hj => At1.fr (H.2.2.2.1 j hj) (hG _ (by omega)), At1.fr H.2.2.2.2.1 (hG _ (by omega)), fun j hj => At1.fr (H.2.2.2.2.2 j hj) (hG _ (by omega))⟩
set_option maxHeartbeats 4000000 in
set_option maxRecDepth 100000 in
theorem l_fol1 {d n : Nat} {F : FT} {h : PH} {t s p m bc : Nat} {S : Shp} {BV JV : Nat → Nat → Int} {tot : Nat → Int} {free : Int} {o e : Nat → Int} (hd : 3 ≤ d) (hk : Sok S) (hp : Pok S.cnt o e bc m) (hts : t + 14 ≤ s ∨ s + 13 ≤ t) (htp : t + 14 ≤ p ∨ p + 3 ≤ t) (hex : ∀ (JV1 : Nat → Nat → Int) (h1 : PH) (x : Int), (∀ k, k < 4 → JV1 k = fun _ => -1) → isTiming n h1 t BV JV1 tot free → isShp n h1 s S → isPlan n h1 p (m : Int) (bc : Int) o e → Fr h h1 t (t + 14) → QN mX4_follow d F 23 [some (vR t), some (vR s), some (vR p), some (vI x), none] [] n h1) : ∀ (c : Nat) (w : Nat) (JV1 : Nat → Nat → Int) (h1 : PH), (w + c = 4) → (∀ k, k < w → JV1 k = fun _ => -1) → (isTiming n h1 t BV JV1 tot free) → (isShp n h1 s S) → (isPlan n h1 p (m : Int) (bc : Int) o e) → (Fr h h1 t (t + 14)) → QN mX4_follow d F 2 [some (vR t), some (vR s), some (vR p), some (vI (w : Int)), none] [] n h1 := by
  intro c
  induction c with
  | zero =>
    intro w JV1 h1 hc hj hM hS hP hF
    refine q_iload_n (pc' := 3) (dk_at dkX4_follow 2 rfl) rfl rfl ?_
    refine q_iconst (pc' := 4) (dk_at dkX4_follow 3 rfl) rfl ?_
    refine q_icmp_ge (tgt := 23) (pc' := 7) (dk_at dkX4_follow 4 rfl) rfl rfl (by omega) (by omega) (fun c4 => ?_) (fun c4 => ?_)
    · exact hex JV1 h1 _ (fun k hk2 => hj k (by omega)) hM hS hP hF
    · exfalso
      omega
  | succ c ih =>
    intro w JV1 h1 hc hj hM hS hP hF
    refine q_iload_n (pc' := 3) (dk_at dkX4_follow 2 rfl) rfl rfl ?_
    refine q_iconst (pc' := 4) (dk_at dkX4_follow 3 rfl) rfl ?_
    refine q_icmp_ge (tgt := 23) (pc' := 7) (dk_at dkX4_follow 4 rfl) rfl rfl (by omega) (by omega) (fun c4 => ?_) (fun c4 => ?_)
    · exact hex JV1 h1 _ (fun k hk2 => hj k (by omega)) hM hS hP hF
    · refine q_aload_n (pc' := 8) (dk_at dkX4_follow 5 rfl) rfl rfl ?_
      refine r_getf (pc' := 11) fl_RX4_16 (dk_at dkX4_follow 6 rfl) hM.obj rfl rfl ?_
      refine q_iload_n (pc' := 12) (dk_at dkX4_follow 7 rfl) rfl rfl ?_
      refine r_aald1 (pc' := 13) (dk_at dkX4_follow 8 rfl) hM.jobValues w (by omega) (by omega) (by decide) rfl ?_
      refine q_iconst (pc' := 14) (dk_at dkX4_follow 9 rfl) rfl ?_
      refine r_cSV (pc' := 17) (As := [vR ((t + 9) + w), vI (-1)]) (S := []) cs_RX4_23 (dk_at dkX4_follow 10 rfl) (k_fill (d := 0) (by decide) (hM.jobValues_at w (by omega))) (by omega) (Nat.zero_le _) (Nat.zero_le _) rfl (Nat.le_of_ble_eq_true rfl) rfl (Nat.le_of_ble_eq_true rfl) rfl (fun hh2 hphh2 => ?_)
      obtain ⟨hA, hG⟩ := hphh2
      have hM := isTiming.row_jv (f1 := fun _ => -1) (by omega) hM hA hG
      have hS := isShop.frm hS hG (by omega)
      have hP := hP.frm hG (by omega)
      have hF := hF.tr hG (by omega)
      refine q_iinc (pc' := 20) (L' := [some (vR t), some (vR s), some (vR p), some (vI ((w : Int) + 1)), none]) (dk_at dkX4_follow 11 rfl) (by decide) rfl rfl rfl ?_
      rw [show ((w : Int) + 1) = ((w + 1 : Nat) : Int) by omega]
      refine q_goto (tgt := 2) (dk_at dkX4_follow 12 rfl) rfl ?_
      refine ih (w + 1) _ _ (by omega) (fun k hk2 => ?_) hM hS hP hF
      by_cases q : k = w
      · subst q; rw [upf_eq]
      · rw [upf_ne q]; exact hj k (by omega)

set_option maxHeartbeats 4000000 in
set_option maxRecDepth 100000 in
theorem l_fol2 {d n : Nat} {h : PH} {t s p m bc : Nat} {S : Shp} {o e : Nat → Int} (hd : 3 ≤ d) (hk : Sok S) (hp : Pok S.cnt o e bc m) (hts : t + 14 ≤ s ∨ s + 13 ≤ t) (htp : t + 14 ≤ p ∨ p + 3 ≤ t) : ∀ (c : Nat) (b : Nat) (BV1 JV1 : Nat → Nat → Int) (tot1 : Nat → Int) (h1 : PH), (b + c = bc) → (TInv S o e bc b BV1 JV1 tot1) → (isTiming n h1 t BV1 JV1 tot1 (frB S o e b)) → (isShp n h1 s S) → (isPlan n h1 p (m : Int) (bc : Int) o e) → (Fr h h1 t (t + 14)) → QN mX4_follow d (FJ n (fun x h' => x = costP S o e bc m ∧ ∃ (BV' JV' : Nat → Nat → Int) (tot' : Nat → Int), isTiming n h' t BV' JV' tot' (frB S o e bc) ∧ TInv S o e bc bc BV' JV' tot' ∧ tot' 2 = frB S o e bc - stS S o e bc - tsum S o 0 m ∧ Fr h h' t (t + 14))) 41 [some (vR t), some (vR s), some (vR p), some (vI (lstB S o e b)), some (vI (b : Int))] [] n h1 := by
  intro c
  induction c with
  | zero =>
    intro b BV1 JV1 tot1 h1 hc hI hM hS hP hF
    have hbc8 := hp.2.1
    have hm88 := hp.1
    refine q_iload (pc' := 43) (dk_at dkX4_follow 24 rfl) rfl rfl ?_
    refine q_aload_n (pc' := 44) (dk_at dkX4_follow 25 rfl) rfl rfl ?_
    refine r_getf (pc' := 47) fl_RX4_33 (dk_at dkX4_follow 26 rfl) hP.obj rfl rfl ?_
    refine q_icmp_ge (tgt := 66) (pc' := 50) (dk_at dkX4_follow 27 rfl) rfl rfl (by omega) (by omega) (fun c47 => ?_) (fun c47 => ?_)
    · have ebc : b = bc := by omega
      rw [ebc] at hI
      have hI0 := hI
      have hM : isTiming n h1 t BV1 JV1 tot1 (frB S o e bc) := by rw [← ebc]; exact hM
      refine q_aload_n (pc' := 67) (dk_at dkX4_follow 37 rfl) rfl rfl ?_
      refine r_getf (pc' := 70) fl_RX4_19 (dk_at dkX4_follow 38 rfl) hM.obj rfl rfl ?_
      refine q_iconst (pc' := 71) (dk_at dkX4_follow 39 rfl) rfl ?_
      refine q_aload_n (pc' := 72) (dk_at dkX4_follow 40 rfl) rfl rfl ?_
      refine r_getf (pc' := 75) fl_RX4_29 (dk_at dkX4_follow 41 rfl) hM.obj rfl rfl ?_
      refine q_aload_n (pc' := 76) (dk_at dkX4_follow 42 rfl) rfl rfl ?_
      refine r_getf (pc' := 79) fl_RX4_19 (dk_at dkX4_follow 43 rfl) hM.obj rfl rfl ?_
      refine q_iconst (pc' := 80) (dk_at dkX4_follow 44 rfl) rfl ?_
      refine r_iald (pc' := 81) (dk_at dkX4_follow 45 rfl) hM.totals 0 (by omega) (by omega) (by decide) rfl ?_
      refine q_isub (pc' := 82) (dk_at dkX4_follow 46 rfl) rfl ?_
      refine q_aload_n (pc' := 83) (dk_at dkX4_follow 47 rfl) rfl rfl ?_
      refine r_getf (pc' := 86) fl_RX4_19 (dk_at dkX4_follow 48 rfl) hM.obj rfl rfl ?_
      refine q_iconst (pc' := 87) (dk_at dkX4_follow 49 rfl) rfl ?_
      refine r_iald (pc' := 88) (dk_at dkX4_follow 50 rfl) hM.totals 1 (by omega) (by omega) (by decide) rfl ?_
      refine q_isub (pc' := 89) (dk_at dkX4_follow 51 rfl) rfl ?_
      refine r_iast (pc' := 90) (dk_at dkX4_follow 52 rfl) hM.totals 2 (by omega) (by omega) (by decide) rfl (fun hh1 ehh1 => ?_)
      have hS := hS.off ehh1 (by omega)
      have hP := hP.off ehh1 (by omega)
      have hM := hM.w_totals ehh1
      have hF := hF.put ehh1 (by omega)
      have hI : TInv S o e bc bc BV1 JV1 _ := ⟨hI.1, hI.2.1, hI.2.2.1, (by rw [upz_ne (by omega)]; exact hI.2.2.2.1 : upz tot1 2 (frB S o e bc - tot1 0 - tot1 1) 0 = _), (by rw [upz_ne (by omega)]; exact hI.2.2.2.2 : upz tot1 2 (frB S o e bc - tot1 0 - tot1 1) 1 = _)⟩
      refine q_aload_n (pc' := 91) (dk_at dkX4_follow 53 rfl) rfl rfl ?_
      refine q_aload_n (pc' := 92) (dk_at dkX4_follow 54 rfl) rfl rfl ?_
      refine q_aload_n (pc' := 93) (dk_at dkX4_follow 55 rfl) rfl rfl ?_
      refine r_cVJ (pc' := 96) (As := [vR s, vR p]) (S := []) cv_RX4_42 (dk_at dkX4_follow 56 rfl) hM.obj rfl (k_Timing_costOf (d := 2) (by omega) hk hp.2.2.1 hp.1 (fun i hi => by rw [(hI.2.1 i (by rw [hp.2.2.2.2.1]; exact hi)).2.1]; exact cmK_r hk.v hk.t hp hi) hS hP hM) (by omega) (Nat.zero_le _) (Nat.zero_le _) rfl (Nat.le_of_ble_eq_true rfl) rfl (Nat.le_of_ble_eq_true rfl) rfl (fun xx2 hh3 hphh3 => ?_)
      obtain ⟨qq4, rfl⟩ := hphh3
      rw [qq4]
      refine r_lret rfl (dk_at dkX4_follow 57 rfl) ?_
      refine ⟨?_, BV1, JV1, _, hM, hI, ?_, hF⟩
      · unfold costP
        rw [cstK_eq (e := e) (bc := bc) (fun k hk2 => (hI.2.1 k (by rw [hp.2.2.2.2.1]; exact hk2)).2.1) m (Nat.le_refl _)]
      · rw [upz_eq, hI0.2.2.2.1, hI0.2.2.2.2, hp.2.2.2.2.1]
    · exfalso
      omega
  | succ c ih =>
    intro b BV1 JV1 tot1 h1 hc hI hM hS hP hF
    have hbc8 := hp.2.1
    have hm88 := hp.1
    refine q_iload (pc' := 43) (dk_at dkX4_follow 24 rfl) rfl rfl ?_
    refine q_aload_n (pc' := 44) (dk_at dkX4_follow 25 rfl) rfl rfl ?_
    refine r_getf (pc' := 47) fl_RX4_33 (dk_at dkX4_follow 26 rfl) hP.obj rfl rfl ?_
    refine q_icmp_ge (tgt := 66) (pc' := 50) (dk_at dkX4_follow 27 rfl) rfl rfl (by omega) (by omega) (fun c47 => ?_) (fun c47 => ?_)
    · have ebc : b = bc := by omega
      rw [ebc] at hI
      have hI0 := hI
      have hM : isTiming n h1 t BV1 JV1 tot1 (frB S o e bc) := by rw [← ebc]; exact hM
      refine q_aload_n (pc' := 67) (dk_at dkX4_follow 37 rfl) rfl rfl ?_
      refine r_getf (pc' := 70) fl_RX4_19 (dk_at dkX4_follow 38 rfl) hM.obj rfl rfl ?_
      refine q_iconst (pc' := 71) (dk_at dkX4_follow 39 rfl) rfl ?_
      refine q_aload_n (pc' := 72) (dk_at dkX4_follow 40 rfl) rfl rfl ?_
      refine r_getf (pc' := 75) fl_RX4_29 (dk_at dkX4_follow 41 rfl) hM.obj rfl rfl ?_
      refine q_aload_n (pc' := 76) (dk_at dkX4_follow 42 rfl) rfl rfl ?_
      refine r_getf (pc' := 79) fl_RX4_19 (dk_at dkX4_follow 43 rfl) hM.obj rfl rfl ?_
      refine q_iconst (pc' := 80) (dk_at dkX4_follow 44 rfl) rfl ?_
      refine r_iald (pc' := 81) (dk_at dkX4_follow 45 rfl) hM.totals 0 (by omega) (by omega) (by decide) rfl ?_
      refine q_isub (pc' := 82) (dk_at dkX4_follow 46 rfl) rfl ?_
      refine q_aload_n (pc' := 83) (dk_at dkX4_follow 47 rfl) rfl rfl ?_
      refine r_getf (pc' := 86) fl_RX4_19 (dk_at dkX4_follow 48 rfl) hM.obj rfl rfl ?_
      refine q_iconst (pc' := 87) (dk_at dkX4_follow 49 rfl) rfl ?_
      refine r_iald (pc' := 88) (dk_at dkX4_follow 50 rfl) hM.totals 1 (by omega) (by omega) (by decide) rfl ?_
      refine q_isub (pc' := 89) (dk_at dkX4_follow 51 rfl) rfl ?_
      refine r_iast (pc' := 90) (dk_at dkX4_follow 52 rfl) hM.totals 2 (by omega) (by omega) (by decide) rfl (fun hh1 ehh1 => ?_)
      have hS := hS.off ehh1 (by omega)
      have hP := hP.off ehh1 (by omega)
      have hM := hM.w_totals ehh1
      have hF := hF.put ehh1 (by omega)
      have hI : TInv S o e bc bc BV1 JV1 _ := ⟨hI.1, hI.2.1, hI.2.2.1, (by rw [upz_ne (by omega)]; exact hI.2.2.2.1 : upz tot1 2 (frB S o e bc - tot1 0 - tot1 1) 0 = _), (by rw [upz_ne (by omega)]; exact hI.2.2.2.2 : upz tot1 2 (frB S o e bc - tot1 0 - tot1 1) 1 = _)⟩
      refine q_aload_n (pc' := 91) (dk_at dkX4_follow 53 rfl) rfl rfl ?_
      refine q_aload_n (pc' := 92) (dk_at dkX4_follow 54 rfl) rfl rfl ?_
      refine q_aload_n (pc' := 93) (dk_at dkX4_follow 55 rfl) rfl rfl ?_
      refine r_cVJ (pc' := 96) (As := [vR s, vR p]) (S := []) cv_RX4_42 (dk_at dkX4_follow 56 rfl) hM.obj rfl (k_Timing_costOf (d := 2) (by omega) hk hp.2.2.1 hp.1 (fun i hi => by rw [(hI.2.1 i (by rw [hp.2.2.2.2.1]; exact hi)).2.1]; exact cmK_r hk.v hk.t hp hi) hS hP hM) (by omega) (Nat.zero_le _) (Nat.zero_le _) rfl (Nat.le_of_ble_eq_true rfl) rfl (Nat.le_of_ble_eq_true rfl) rfl (fun xx2 hh3 hphh3 => ?_)
      obtain ⟨qq4, rfl⟩ := hphh3
      rw [qq4]
      refine r_lret rfl (dk_at dkX4_follow 57 rfl) ?_
      refine ⟨?_, BV1, JV1, _, hM, hI, ?_, hF⟩
      · unfold costP
        rw [cstK_eq (e := e) (bc := bc) (fun k hk2 => (hI.2.1 k (by rw [hp.2.2.2.2.1]; exact hk2)).2.1) m (Nat.le_refl _)]
      · rw [upz_eq, hI0.2.2.2.1, hI0.2.2.2.2, hp.2.2.2.2.1]
    · have hv := hp.2.2.2.1 b (by omega)
      have hbg := hp.bg b (by omega)
      have hm8 := hp.1
      have hbm := hp.2.1
      have hlr : -1 ≤ lstB S o e b ∧ lstB S o e b ≤ 3 := by have := hk.v 0 (jb o (bgn e (b - 1))); unfold lstB; split <;> omega
      have hfr : 0 ≤ frB S o e b ∧ frB S o e b ≤ 2000 := by have := frB_r hk.v hk.t hp b (by omega); omega
      have hin : ∀ i i', i < (e b).toNat - bgn e b → i' < (e b).toNat - bgn e b → jb o (bgn e b + i) = jb o (bgn e b + i') → i = i' := fun i i' h1 h2 z => by have r1 := hp.2.2.1 (bgn e b + i); have r2 := hp.2.2.1 (bgn e b + i'); unfold jb at z; have := hp.2.2.2.2.2.2 (bgn e b + i) (bgn e b + i') (by omega) (by omega) (by omega); omega
      refine q_aload_n (pc' := 51) (dk_at dkX4_follow 28 rfl) rfl rfl ?_
      refine q_aload_n (pc' := 52) (dk_at dkX4_follow 29 rfl) rfl rfl ?_
      refine q_aload_n (pc' := 53) (dk_at dkX4_follow 30 rfl) rfl rfl ?_
      refine q_iload (pc' := 55) (dk_at dkX4_follow 31 rfl) rfl rfl ?_
      refine q_iload_n (pc' := 56) (dk_at dkX4_follow 32 rfl) rfl rfl ?_
      refine r_cVI (pc' := 59) (As := [vR s, vR p, vI (b : Int), vI (lstB S o e b)]) (S := []) cv_RX4_38 (dk_at dkX4_follow 33 rfl) hM.obj rfl (k_Timing_followBatch (d := 2) (be := bgn e b) (en := (e b).toNat) (by omega) hk hp.2.2.1 (by omega) (by omega) (by omega) (hp.bgi (by omega)) (by omega) hin hts htp hlr hfr hS hP hM) (by omega) (Nat.zero_le _) (Nat.zero_le _) rfl (Nat.le_of_ble_eq_true rfl) rfl (Nat.le_of_ble_eq_true rfl) rfl (fun xx5 hh6 hphh6 => ?_)
      obtain ⟨hx0, BV2, JV2, tot2, hM, hD, hG⟩ := hphh6
      rw [hx0]
      have hS := isShop.frm hS hG (by omega)
      have hP := hP.frm hG (by omega)
      have hF := hF.tr hG (by omega)
      refine q_istore_n (pc' := 60) (L' := [some (vR t), some (vR s), some (vR p), some (vI (S.V 0 (jb o (bgn e b)))), some (vI (b : Int))]) (dk_at dkX4_follow 34 rfl) (by decide) rfl rfl ?_
      refine q_iinc (pc' := 63) (L' := [some (vR t), some (vR s), some (vR p), some (vI (S.V 0 (jb o (bgn e b)))), some (vI ((b : Int) + 1))]) (dk_at dkX4_follow 35 rfl) (by decide) rfl rfl rfl ?_
      rw [show ((b : Int) + 1) = ((b + 1 : Nat) : Int) by omega]
      refine q_goto (tgt := 41) (dk_at dkX4_follow 36 rfl) rfl ?_
      have hl1 : S.V 0 (jb o (bgn e b)) = lstB S o e (b + 1) := by unfold lstB; rw [if_pos (by omega)]; rfl
      rw [hl1]
      exact ih (b + 1) BV2 JV2 tot2 _ (by omega) (TInv_step hp (by omega) hI hD) hM hS hP hF

set_option maxHeartbeats 4000000 in
set_option maxRecDepth 100000 in
theorem k_Timing_follow {d n : Nat} {h : PH} {t s p m bc : Nat} {S : Shp} {BV JV : Nat → Nat → Int} {tot : Nat → Int} {free : Int} {o e : Nat → Int} (hd : 3 ≤ d) (hk : Sok S) (hp : Pok S.cnt o e bc m) (hts : t + 14 ≤ s ∨ s + 13 ≤ t) (htp : t + 14 ≤ p ∨ p + 3 ≤ t) (hS : isShp n h s S) (hP : isPlan n h p (m : Int) (bc : Int) o e) (hM : isTiming n h t BV JV tot free) :
    CtrJ mX4_follow d [vR t, vR s, vR p] n h (fun x h' => x = costP S o e bc m ∧ ∃ (BV' JV' : Nat → Nat → Int) (tot' : Nat → Int), isTiming n h' t BV' JV' tot' (frB S o e bc) ∧ TInv S o e bc bc BV' JV' tot' ∧ tot' 2 = frB S o e bc - stS S o e bc - tsum S o 0 m ∧ Fr h h' t (t + 14)) := by
  have hF : Fr h h t (t + 14) := Fr.rf
  refine q_beginJ (L := [some (vR t), some (vR s), some (vR p), none, none]) rfl ?_
  refine q_iconst (pc' := 1) (dk_at dkX4_follow 0 rfl) rfl ?_
  refine q_istore_n (pc' := 2) (L' := [some (vR t), some (vR s), some (vR p), some (vI 0), none]) (dk_at dkX4_follow 1 rfl) (by decide) rfl rfl ?_
  refine l_fol1 (h := h) (JV := JV) hd hk hp hts htp ?_ 4 0 JV h (by omega) (fun k hk2 => by omega) hM hS hP hF
  intro JV1 h1 x hj hM hS hP hF
  refine q_aload_n (pc' := 24) (dk_at dkX4_follow 13 rfl) rfl rfl ?_
  refine r_getf (pc' := 27) fl_RX4_19 (dk_at dkX4_follow 14 rfl) hM.obj rfl rfl ?_
  refine q_iconst (pc' := 28) (dk_at dkX4_follow 15 rfl) rfl ?_
  refine r_cSV (pc' := 31) (As := [vR (t + 13), vI 0]) (S := []) cs_RX4_23 (dk_at dkX4_follow 16 rfl) (k_fill (d := 0) (by decide) hM.totals) (by omega) (Nat.zero_le _) (Nat.zero_le _) rfl (Nat.le_of_ble_eq_true rfl) rfl (Nat.le_of_ble_eq_true rfl) rfl (fun hh2 hphh2 => ?_)
  obtain ⟨hA, hG⟩ := hphh2
  have hM := isTiming.row_tot hM hA hG
  have hS := isShop.frm hS hG (by omega)
  have hP := hP.frm hG (by omega)
  have hF := hF.tr hG (by omega)
  refine q_aload_n (pc' := 32) (dk_at dkX4_follow 17 rfl) rfl rfl ?_
  refine q_iconst (pc' := 33) (dk_at dkX4_follow 18 rfl) rfl ?_
  refine r_putf (pc' := 36) fp_RX4_29 (dk_at dkX4_follow 19 rfl) hM.obj (Nat.le_of_ble_eq_true rfl) (PT_int _) rfl (fun hh3 ehh3 => ?_)
  have hS := hS.off ehh3 (by omega)
  have hP := hP.off ehh3 (by omega)
  have hM := hM.w_obj ehh3
  have hF := hF.put ehh3 (by omega)
  refine q_iconst (pc' := 37) (dk_at dkX4_follow 20 rfl) rfl ?_
  refine q_istore_n (pc' := 38) (L' := [some (vR t), some (vR s), some (vR p), some (vI (-1)), none]) (dk_at dkX4_follow 21 rfl) (by decide) rfl rfl ?_
  refine q_iconst (pc' := 39) (dk_at dkX4_follow 22 rfl) rfl ?_
  refine q_istore (pc' := 41) (L' := [some (vR t), some (vR s), some (vR p), some (vI (-1)), some (vI 0)]) (dk_at dkX4_follow 23 rfl) (by decide) rfl rfl ?_
  refine l_fol2 hd hk hp hts htp bc 0 BV JV1 _ _ (by omega) ?_ hM hS hP hF
  refine ⟨fun b hb => by omega, fun k hk2 => ?_, fun j _ w hw => by rw [hj w hw], rfl, ?_⟩
  · unfold bgn at hk2; rw [if_neg (by omega)] at hk2; omega
  · unfold bgn; rw [if_neg (by omega)]; rfl
