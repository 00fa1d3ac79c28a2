/-! Timing: a plan followed, its cost -/
theorem CtrV.norm {M : MD} {d : Nat} {As : List PV} {n : Nat} {h : PH} {post post' : PH → Prop} (H : CtrV M d As n h post) (hi : ∀ h', post h' → ∃ h'', (∀ k, k < n → CEq (h' k) (h'' k)) ∧ post' h'') : CtrV M d As n h post' := by
  intro p l e R s m args below meth c D B K X Hp locs ls O Hl HP Hs HS T hT Xs
  obtain ⟨t, a1, o, b1, b2, ⟨r, n', h', c1, ⟨c2, c3, c4⟩, c5, c7, c8⟩, c6⟩ := H p l e R s m args below meth c D B K X Hp locs ls O Hl HP Hs HS T hT Xs
  subst c3
  obtain ⟨h'', d1, d2⟩ := hi h' c4
  exact ⟨t, a1, o, b1, b2, ⟨r, n', h'', c1, ⟨c2, rfl, d2⟩, HP_norm c5 d1, c7, c8⟩, c6⟩
theorem k_fill {d n : Nat} {h : PH} {r N : Nat} {f : Nat → Int} {x : Int} (hN : N ≤ 100000) (hI : At1 n h r (cI N f)) : CtrV mJ7_fill_53178 d [vR r, vI x] n h (fun h' => At1 n h' r (cI N (fun _ => x)) ∧ Fr h h' r (r + 1)) := by
  refine (k_fill0 hN hI).norm (fun h' q => ⟨hp h' r (cI N (fun _ => x)), fun k hk => ?_, ?_, ?_⟩)
  · by_cases e : k = r
    · subst e
      rw [hp_eq, q.1.2]
      refine CEq.i (fun j hj => ?_)
      unfold fillz
      rw [if_pos hj]
    · rw [hp_ne e]
      exact Or.inl rfl
  · exact q.1.put rfl
  · exact q.2.put rfl (by omega)
/-- the cost of the first i places of a row, the jobs completed at C -/
def cstTo (S : Shp) (o C : Nat → Int) : Nat → Int
  | 0 => neu S
  | i + 1 => jn S (cstTo S o C i) (pen S (jb o i) (C (jb o i)))
theorem jn_r {S : Shp} {a b lo hi lo2 hi2 : Int} (ha : lo ≤ a ∧ a ≤ hi) (hb : lo2 ≤ b ∧ b ≤ hi2) (h1 : lo2 ≤ 0) (h2 : 0 ≤ hi2) (h3 : 0 ≤ hi) : min lo (lo + lo2) ≤ jn S a b ∧ jn S a b ≤ hi + hi2 := by
  unfold jn
  split <;> omega
theorem cstTo_r {S : Shp} (hV : Vok S.V) {o C : Nat → Int} {m : Nat} (hC : ∀ i, i < m → 0 ≤ C (jb o i) ∧ C (jb o i) ≤ 100000) : ∀ i, i ≤ m → -1000000000000 - 500 * i ≤ cstTo S o C i ∧ cstTo S o C i ≤ 100000000000 * i
  | 0, _ => by unfold cstTo neu; split <;> omega
  | i + 1, h => by
    have h1 := cstTo_r hV hC i (by omega)
    have h2 := penz_le (ob := S.ob) (j := jb o i) hV (hC i (by omega))
    have h3 := jn_r (S := S) h1 h2 (by omega) (by omega) (by omega)
    unfold cstTo
    have e : pen S (jb o i) (C (jb o i)) = penz S.ob S.V (jb o i) (C (jb o i)) := rfl
    rw [e]
    omega
set_option maxHeartbeats 4000000 in
set_option maxRecDepth 100000 in
theorem l_cost {d n : Nat} {h : PH} {t s p m : Nat} {S : Shp} {BV JV : Nat → Nat → Int} {tot : Nat → Int} {free bc : Int} {o e : Nat → Int} (hd : 2 ≤ d) (hk : Sok S) (hO : ∀ j, 0 ≤ o j ∧ o j ≤ 7) (hm8 : m ≤ 8) (hm0 : 0 < m) (hC : ∀ i, i < m → 0 ≤ JV 1 (jb o i) ∧ JV 1 (jb o i) ≤ 100000) (hS : isShp n h s S) (hP : isPlan n h p (m : Int) bc o e) (hM : isTiming n h t BV JV tot free) : ∀ (c : Nat) (i : Nat) (z : Int) (x6 : Option PV), (i + c = m) → (z = cstTo S o (JV 1) i) → QN mX4_costOf d (FJ n (fun x h' => h' = h ∧ x = if m = 0 then 0 else cstTo S o (JV 1) m)) 17 [some (vR t), some (vR s), some (vR p), some (vJ z), none, some (vI (i : Int)), x6] [] n h := by
  intro c
  induction c with
  | zero =>
    intro i z x6 hc hz
    have hzr := cstTo_r (S := S) hk.v hC i (by omega)
    rw [← hz] at hzr
    refine q_iload (pc' := 19) (dk_at dkX4_costOf 10 rfl) rfl rfl ?_
    refine q_aload_n (pc' := 20) (dk_at dkX4_costOf 11 rfl) rfl rfl ?_
    refine r_getf (pc' := 23) fl_RX4_88 (dk_at dkX4_costOf 12 rfl) hP.obj rfl rfl ?_
    refine q_icmp_ge (tgt := 62) (pc' := 26) (dk_at dkX4_costOf 13 rfl) rfl rfl (by omega) (by omega) (fun c23 => ?_) (fun c23 => ?_)
    · refine q_lload_n (pc' := 63) (dk_at dkX4_costOf 34 rfl) rfl rfl ?_
      refine r_lret rfl (dk_at dkX4_costOf 35 rfl) ?_
      exact ⟨rfl, by rw [hz, show i = m by omega, if_neg (by omega)]⟩
    · exfalso
      omega
  | succ c ih =>
    intro i z x6 hc hz
    have hzr := cstTo_r (S := S) hk.v hC i (by omega)
    rw [← hz] at hzr
    refine q_iload (pc' := 19) (dk_at dkX4_costOf 10 rfl) rfl rfl ?_
    refine q_aload_n (pc' := 20) (dk_at dkX4_costOf 11 rfl) rfl rfl ?_
    refine r_getf (pc' := 23) fl_RX4_88 (dk_at dkX4_costOf 12 rfl) hP.obj rfl rfl ?_
    refine q_icmp_ge (tgt := 62) (pc' := 26) (dk_at dkX4_costOf 13 rfl) rfl rfl (by omega) (by omega) (fun c23 => ?_) (fun c23 => ?_)
    · refine q_lload_n (pc' := 63) (dk_at dkX4_costOf 34 rfl) rfl rfl ?_
      refine r_lret rfl (dk_at dkX4_costOf 35 rfl) ?_
      exact ⟨rfl, by rw [hz, show i = m by omega, if_neg (by omega)]⟩
    · refine q_aload_n (pc' := 27) (dk_at dkX4_costOf 14 rfl) rfl rfl ?_
      refine r_getf (pc' := 30) fl_RX4_58 (dk_at dkX4_costOf 15 rfl) hP.obj rfl rfl ?_
      refine q_iload (pc' := 32) (dk_at dkX4_costOf 16 rfl) rfl rfl ?_
      refine r_iald (pc' := 33) (dk_at dkX4_costOf 17 rfl) hP.order i (by omega) (by omega) (by decide) rfl ?_
      have bb1 := hO i
      rw [show o i = ((jb o i : Nat) : Int) by unfold jb; omega]
      have hj8 : jb o i < 8 := by unfold jb; omega
      refine q_istore (pc' := 35) (L' := [some (vR t), some (vR s), some (vR p), some (vJ z), none, some (vI (i : Int)), some (vI ((jb o i : Nat) : Int))]) (dk_at dkX4_costOf 18 rfl) (by decide) rfl rfl ?_
      refine q_aload_n (pc' := 36) (dk_at dkX4_costOf 19 rfl) rfl rfl ?_
      refine q_lload_n (pc' := 37) (dk_at dkX4_costOf 20 rfl) rfl rfl ?_
      refine q_aload_n (pc' := 38) (dk_at dkX4_costOf 21 rfl) rfl rfl ?_
      refine q_iload (pc' := 40) (dk_at dkX4_costOf 22 rfl) rfl rfl ?_
      refine q_aload_n (pc' := 41) (dk_at dkX4_costOf 23 rfl) rfl rfl ?_
      refine r_getf (pc' := 44) fl_RX4_16 (dk_at dkX4_costOf 24 rfl) hM.obj rfl rfl ?_
      refine q_iconst (pc' := 45) (dk_at dkX4_costOf 25 rfl) rfl ?_
      refine r_aald1 (pc' := 46) (dk_at dkX4_costOf 26 rfl) hM.jobValues 1 (by omega) (by omega) (by decide) rfl ?_
      refine q_iload (pc' := 48) (dk_at dkX4_costOf 27 rfl) rfl rfl ?_
      refine r_iald (pc' := 49) (dk_at dkX4_costOf 28 rfl) (hM.jobValues_at 1 (by omega)) (jb o i) (by omega) (by omega) (by decide) rfl ?_
      refine r_cVJ (pc' := 52) (As := [vI ((jb o i : Nat) : Int), vI ((JV 1) (jb o i))]) (S := [vJ z, vR s]) cv_RX4_95 (dk_at dkX4_costOf 29 rfl) hS.obj rfl (k_Shop_penaltyOf (d := 0) (j := jb o i) hS hk.v hk.o (by unfold jb; omega) (hC i (by omega))) (by omega) (Nat.zero_le _) (Nat.zero_le _) rfl (Nat.le_of_ble_eq_true rfl) rfl (Nat.le_of_ble_eq_true rfl) rfl (fun xx2 hh3 hphh3 => ?_)
      obtain ⟨qq4, rfl⟩ := hphh3
      rw [qq4]
      have hpn := penz_le (ob := S.ob) (j := jb o i) hk.v (hC i (by omega))
      have hpe : pen S (jb o i) (JV 1 (jb o i)) = penz S.ob S.V (jb o i) (JV 1 (jb o i)) := rfl
      refine r_cVJ (pc' := 55) (As := [vJ z, vJ (pen S (jb o i) (JV 1 (jb o i)))]) (S := []) cv_RX4_99 (dk_at dkX4_costOf 30 rfl) hS.obj rfl (k_Shop_joined (d := 1) (by omega) hS hk.o (by omega) (by omega)) (by omega) (Nat.zero_le _) (Nat.zero_le _) rfl (Nat.le_of_ble_eq_true rfl) rfl (Nat.le_of_ble_eq_true rfl) rfl (fun xx5 hh6 hphh6 => ?_)
      obtain ⟨qq7, rfl⟩ := hphh6
      rw [qq7]
      refine q_lstore_n (pc' := 56) (L' := [some (vR t), some (vR s), some (vR p), some (vJ (jn S z (pen S (jb o i) (JV 1 (jb o i))))), none, some (vI (i : Int)), some (vI ((jb o i : Nat) : Int))]) (dk_at dkX4_costOf 31 rfl) (by decide) rfl rfl ?_
      refine q_iinc (pc' := 59) (L' := [some (vR t), some (vR s), some (vR p), some (vJ (jn S z (pen S (jb o i) (JV 1 (jb o i))))), none, some (vI ((i : Int) + 1)), some (vI ((jb o i : Nat) : Int))]) (dk_at dkX4_costOf 32 rfl) (by decide) rfl rfl rfl ?_
      rw [show ((i : Int) + 1) = ((i + 1 : Nat) : Int) by omega]
      refine q_goto (tgt := 17) (dk_at dkX4_costOf 33 rfl) rfl ?_
      exact ih (i + 1) _ _ (by omega) (by rw [hz]; rfl)

set_option maxHeartbeats 4000000 in
set_option maxRecDepth 100000 in
theorem k_Timing_costOf {d n : Nat} {h : PH} {t s p m : Nat} {S : Shp} {BV JV : Nat → Nat → Int} {tot : Nat → Int} {free bc : Int} {o e : Nat → Int} (hd : 2 ≤ d) (hk : Sok S) (hO : ∀ j, 0 ≤ o j ∧ o j ≤ 7) (hm8 : m ≤ 8) (hC : ∀ i, i < m → 0 ≤ JV 1 (jb o i) ∧ JV 1 (jb o i) ≤ 100000) (hS : isShp n h s S) (hP : isPlan n h p (m : Int) bc o e) (hM : isTiming n h t BV JV tot free) : CtrJ mX4_costOf d [vR t, vR s, vR p] n h (fun x h' => h' = h ∧ x = if m = 0 then 0 else cstTo S o (JV 1) m) := by
  refine q_beginJ (L := [some (vR t), some (vR s), some (vR p), none, none, none, none]) rfl ?_
  refine q_aload_n (pc' := 1) (dk_at dkX4_costOf 0 rfl) rfl rfl ?_
  refine r_getf (pc' := 4) fl_RX4_88 (dk_at dkX4_costOf 1 rfl) hP.obj rfl rfl ?_
  refine q_if_ne (tgt := 9) (pc' := 7) (dk_at dkX4_costOf 2 rfl) rfl rfl (by omega) (fun c4 => ?_) (fun c4 => ?_)
  · refine q_aload_n (pc' := 10) (dk_at dkX4_costOf 5 rfl) rfl rfl ?_
    refine r_cVJ (pc' := 13) (As := []) (S := []) cv_RX4_91 (dk_at dkX4_costOf 6 rfl) hS.obj rfl (k_Shop_startingSum (d := 0) hS hk.o) (by omega) (Nat.zero_le _) (Nat.zero_le _) rfl (Nat.le_of_ble_eq_true rfl) rfl (Nat.le_of_ble_eq_true rfl) rfl (fun xx1 hh2 hphh2 => ?_)
    obtain ⟨qq3, rfl⟩ := hphh2
    rw [qq3]
    refine q_lstore_n (pc' := 14) (L' := [some (vR t), some (vR s), some (vR p), some (vJ (neu S)), none, none, none]) (dk_at dkX4_costOf 7 rfl) (by decide) rfl rfl ?_
    refine q_iconst (pc' := 15) (dk_at dkX4_costOf 8 rfl) rfl ?_
    refine q_istore (pc' := 17) (L' := [some (vR t), some (vR s), some (vR p), some (vJ (neu S)), none, some (vI 0), none]) (dk_at dkX4_costOf 9 rfl) (by decide) rfl rfl ?_
    exact l_cost hd hk hO hm8 (by omega) hC hS hP hM m 0 _ none (by omega) rfl
  · refine q_lconst0 (pc' := 8) (dk_at dkX4_costOf 3 rfl) rfl ?_
    refine r_lret rfl (dk_at dkX4_costOf 4 rfl) ?_
    exact ⟨rfl, by rw [if_pos (by omega)]⟩
