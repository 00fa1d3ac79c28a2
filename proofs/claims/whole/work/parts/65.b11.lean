/-! BatchMachine: the text is read -/
abbrev RdT : Type := PlS × Int × Nat
def rdG (S : Shp) (r : RdT) (c : Int) : Prop := if c = 47 then r.2.1 = 0 else (jOk S (c - 48) ∧ ¬ (r.2.2 / 2 ^ (c - 48).toNat % 2 = 1) ∧ (r.2.1 = 1 ∨ (0 < r.1.sz ∧ S.V 0 (jb r.1.od (r.1.sz - 1)) = S.V 0 (c - 48).toNat)))
def rdN (r : RdT) (c : Int) : RdT := if c = 47 then (r.1, 1, r.2.2) else (addL r.1 (c - 48).toNat r.2.1, 0, r.2.2 ||| 2 ^ (c - 48).toNat)
def rdS (tx : Nat → Int) (o e : Nat → Int) : Nat → RdT
  | 0 => ((0, 0, o, e), 1, 0)
  | i + 1 => rdN (rdS tx o e i) (tx i)
def rdR (S : Shp) (tx : Nat → Int) (tl : Nat) (o e : Nat → Int) (v : Int) : Prop := (∃ i, i < tl ∧ (∀ k, k < i → rdG S (rdS tx o e k) (tx k)) ∧ ¬ rdG S (rdS tx o e i) (tx i) ∧ v = (i : Int)) ∨ ((∀ k, k < tl → rdG S (rdS tx o e k) (tx k)) ∧ v = if (rdS tx o e tl).2.1 = 1 ∧ 0 < tl then (tl : Int) else -1)
def RdOk (S : Shp) (r : RdT) : Prop := PlOk S.cnt r.1 ∧ (r.2.1 = 0 ∨ r.2.1 = 1) ∧ r.2.2 = stO r.1.od 0 r.1.sz ∧ (r.2.1 = 0 → 0 < r.1.sz)
theorem rdG_s {S : Shp} {D : PlS} {f c : Int} {us : Nat} (h : c = 47) : rdG S (D, f, us) c ↔ f = 0 := by unfold rdG; rw [if_pos h]
theorem rdG_j {S : Shp} {D : PlS} {f c : Int} {us jn : Nat} (h : ¬ c = 47) (hj : c - 48 = (jn : Int)) : rdG S (D, f, us) c ↔ (jOk S (jn : Int) ∧ ¬ (us / 2 ^ jn % 2 = 1) ∧ (f = 1 ∨ (0 < D.sz ∧ S.V 0 (jb D.od (D.sz - 1)) = S.V 0 jn))) := by
  unfold rdG
  rw [if_neg h, hj]
  exact Iff.rfl
theorem rdN_s {D : PlS} {f c : Int} {us : Nat} (h : c = 47) : rdN (D, f, us) c = (D, 1, us) := by unfold rdN; rw [if_pos h]
theorem rdN_j {D : PlS} {f c : Int} {us jn : Nat} (h : ¬ c = 47) (hj : c - 48 = (jn : Int)) : rdN (D, f, us) c = (addL D jn f, 0, us ||| 2 ^ jn) := by
  unfold rdN
  rw [if_neg h, hj]
  rfl
theorem Inj.le {c m : Nat} {o : Nat → Int} (h : Inj c m o) : m ≤ c := by
  have := rm_st h m (Nat.le_refl _)
  omega
theorem jb_upz {o : Nat → Int} {i j : Nat} : jb (upz o i (j : Int)) i = j := by unfold jb; rw [upz_eq]; rfl
theorem jb_upz_ne {o : Nat → Int} {i j : Nat} {x : Int} (h : j ≠ i) : jb (upz o i x) j = jb o j := by unfold jb; rw [upz_ne h]
theorem addB_c {P : PlS} {fr : Int} : addB P fr = P.bc + 1 ∨ (addB P fr = P.bc ∧ 0 < P.bc) := by
  unfold addB
  split
  · exact Or.inl rfl
  · exact Or.inr ⟨rfl, by omega⟩
/-- a new job behind a plan -/
theorem PlOk.add {c : Nat} (hc : c ≤ 8) {D : PlS} (h : PlOk c D) {jn : Nat} (hj : jn < c) (hn : ∀ k, k < D.sz → jb D.od k ≠ jn) (f : Int) : D.sz < 8 ∧ PlOk c (addL D jn f) := by
  obtain ⟨h1, h2, h3, h4, h5, h6, h7⟩ := h
  have hI : Inj c (D.sz + 1) (upz D.od D.sz (jn : Int)) := by
    refine ⟨fun k hk => ?_, fun k k' hk hk' e => ?_⟩
    · by_cases z : k = D.sz
      · rw [z, jb_upz]; exact hj
      · rw [jb_upz_ne z]; have a := h6 k (by omega); have b := h3 k; unfold jb; omega
    · by_cases z : k = D.sz <;> by_cases z' : k' = D.sz
      · omega
      · rw [z, jb_upz, jb_upz_ne z'] at e; exact absurd e.symm (hn k' (by omega))
      · rw [z', jb_upz, jb_upz_ne z] at e; exact absurd e (hn k (by omega))
      · rw [jb_upz_ne z, jb_upz_ne z'] at e
        have a := h3 k; have b := h3 k'
        unfold jb at e
        exact h7 k k' (by omega) (by omega) (by omega)
  have hle := hI.le
  refine ⟨by omega, ?_⟩
  have hB := addB_r (fr := f) h2
  have e1 : (addL D jn f).sz = D.sz + 1 := rfl
  have e2 : (addL D jn f).bc = addB D f := rfl
  have e3 : (addL D jn f).od = upz D.od D.sz (jn : Int) := rfl
  have e4 : (addL D jn f).en = upz D.en (addB D f - 1) ((D.sz : Int) + 1) := rfl
  have hp : ∀ b, b ≤ addB D f - 1 → bgn (addL D jn f).en b = bgn D.en b := fun b hb => by rw [e4]; exact bgn_upz hb
  refine ⟨by rw [e1]; omega, by rw [e1, e2]; omega, fun j => ?_, fun b hb => ?_, ?_, fun k hk => ?_, fun k k' hk hk' e => ?_⟩
  · rw [e3]; unfold upz; split
    · omega
    · exact h3 j
  · rw [e2] at hb
    rw [hp b (by omega), e4, e1]
    by_cases z : b = addB D f - 1
    · rw [z, upz_eq]
      have : bgn D.en (addB D f - 1) ≤ D.sz := by
        by_cases y : addB D f = D.bc + 1
        · rw [y, show D.bc + 1 - 1 = D.bc by omega, h5]; exact Nat.le_refl _
        · have y2 : addB D f = D.bc := by have := addB_c (P := D) (fr := f); omega
          rw [y2]
          have := h4 (D.bc - 1) (by omega)
          omega
      omega
    · rw [upz_ne z]
      have y2 : b < D.bc := by have := addB_c (P := D) (fr := f); omega
      have := h4 b y2
      omega
  · rw [e2, e1]
    obtain ⟨B, hB'⟩ : ∃ B, addB D f = B + 1 := ⟨addB D f - 1, by omega⟩
    rw [hB', bgn_succ, e4, hB', show B + 1 - 1 = B by omega, upz_eq]
    omega
  · rw [e1] at hk
    have a := hI.1 k hk
    rw [e3]
    have b : 0 ≤ upz D.od D.sz (jn : Int) k := by unfold upz; split; omega; exact (h3 k).1
    unfold jb at a
    omega
  · rw [e1] at hk hk'
    exact hI.2 k k' hk hk' (by rw [e3] at e; unfold jb; rw [e])
theorem rd_ok {S : Shp} (hc : S.cnt ≤ 8) {D : PlS} {f c : Int} {us : Nat} (h : RdOk S (D, f, us)) (hg : rdG S (D, f, us) c) : RdOk S (rdN (D, f, us) c) := by
  obtain ⟨h1, h2, h3, h4⟩ := h
  dsimp only at h1 h2 h3 h4
  by_cases q : c = 47
  · rw [rdN_s q]
    exact ⟨h1, Or.inr rfl, h3, fun z => by dsimp only at z; omega⟩
  · have hg' := hg
    unfold rdG at hg'
    rw [if_neg q] at hg'
    have hj0 := hg'.1
    unfold jOk at hj0
    obtain ⟨jn, ej⟩ : ∃ jn : Nat, c - 48 = (jn : Int) := ⟨(c - 48).toNat, by omega⟩
    rw [rdN_j q ej]
    obtain ⟨g1, g2, g3⟩ := (rdG_j q ej).mp hg
    unfold jOk at g1
    have hn : ∀ k, k < D.sz → jb D.od k ≠ jn := fun k hk e => g2 (by rw [h3]; exact (stO_bit D.sz).mpr ⟨k, hk, by rw [Nat.zero_add]; exact e⟩)
    have ha := (PlOk.add hc h1 (jn := jn) (by omega) hn f).2
    refine ⟨ha, Or.inl rfl, ?_, fun _ => ?_⟩
    · show us ||| 2 ^ jn = stO (upz D.od D.sz (jn : Int)) 0 (D.sz + 1)
      show us ||| 2 ^ jn = stO (upz D.od D.sz (jn : Int)) 0 D.sz ||| 2 ^ (jb (upz D.od D.sz (jn : Int)) (0 + D.sz))
      rw [Nat.zero_add, jb_upz, h3]
      congr 1
      exact stO_congr D.sz (fun k hk => by rw [Nat.zero_add, upz_ne (by omega)])
    · show 0 < D.sz + 1
      omega
set_option maxHeartbeats 4000000 in
set_option maxRecDepth 100000 in
theorem k_BM_fitsDraft {d n : Nat} {h : PH} {b jn : Nat} {S : Shp} {D : PlS} {sv tl kn bs : Int} {tx : Nat → Int} (hV : Vok S.V) (hO : ∀ k, 0 ≤ D.od k ∧ D.od k ≤ 7) (hs : D.sz ≤ 8) (hj : jn < 8) (hB : isBM n h b sv tx tl) (hN : isState n h (b + 1) kn bs) (hQ : isShp n h (b + 2) S) (hD : isPlS n h (b + 88) D) : CtrI mX5_fitsDraft d [vR b, vI (jn : Int)] n h (fun x h' => h' = h ∧ YN x (0 < D.sz ∧ S.V 0 (jb D.od (D.sz - 1)) = S.V 0 jn)) := by
  refine q_beginI (L := [some (vR b), some (vI (jn : Int)), none]) rfl ?_
  refine q_aload_n (pc' := 1) (dk_at dkX5_fitsDraft 0 rfl) rfl rfl ?_
  refine r_getf (pc' := 4) fl_RX5_10 (dk_at dkX5_fitsDraft 1 rfl) hB.obj rfl rfl ?_
  refine r_getf (pc' := 7) fl_RX5_63 (dk_at dkX5_fitsDraft 2 rfl) hN.obj rfl rfl ?_
  refine r_getf (pc' := 10) fl_RX5_78 (dk_at dkX5_fitsDraft 3 rfl) hQ.obj rfl rfl ?_
  refine q_iconst (pc' := 11) (dk_at dkX5_fitsDraft 4 rfl) rfl ?_
  refine r_aald1 (pc' := 12) (dk_at dkX5_fitsDraft 5 rfl) hQ.values 0 (by omega) (by omega) (by decide) rfl ?_
  refine q_astore_n (pc' := 13) (L' := [some (vR b), some (vI (jn : Int)), some (vR (((b + 2) + 2) + 0))]) (dk_at dkX5_fitsDraft 6 rfl) (by decide) rfl rfl ?_
  refine q_aload_n (pc' := 14) (dk_at dkX5_fitsDraft 7 rfl) rfl rfl ?_
  refine r_getf (pc' := 17) fl_RX5_27 (dk_at dkX5_fitsDraft 8 rfl) hB.obj rfl rfl ?_
  refine r_getf (pc' := 20) fl_RX5_252 (dk_at dkX5_fitsDraft 9 rfl) hD.obj rfl rfl ?_
  refine q_if_le (tgt := 52) (pc' := 23) (dk_at dkX5_fitsDraft 10 rfl) rfl rfl (by omega) (fun c20 => ?_) (fun c20 => ?_)
  · refine q_iconst (pc' := 53) (dk_at dkX5_fitsDraft 28 rfl) rfl ?_
    refine r_zret rfl (by omega) (dk_at dkX5_fitsDraft 29 rfl) ?_
    refine ⟨rfl, Or.inr ⟨rfl, fun z => ?_⟩⟩
    have z1 := z.1
    have z2 := z.2
    unfold jb at z2
    omega
  · refine q_aload_n (pc' := 24) (dk_at dkX5_fitsDraft 11 rfl) rfl rfl ?_
    refine q_aload_n (pc' := 25) (dk_at dkX5_fitsDraft 12 rfl) rfl rfl ?_
    refine r_getf (pc' := 28) fl_RX5_27 (dk_at dkX5_fitsDraft 13 rfl) hB.obj rfl rfl ?_
    refine r_getf (pc' := 31) fl_RX5_184 (dk_at dkX5_fitsDraft 14 rfl) hD.obj rfl rfl ?_
    refine q_aload_n (pc' := 32) (dk_at dkX5_fitsDraft 15 rfl) rfl rfl ?_
    refine r_getf (pc' := 35) fl_RX5_27 (dk_at dkX5_fitsDraft 16 rfl) hB.obj rfl rfl ?_
    refine r_getf (pc' := 38) fl_RX5_252 (dk_at dkX5_fitsDraft 17 rfl) hD.obj rfl rfl ?_
    refine q_iconst (pc' := 39) (dk_at dkX5_fitsDraft 18 rfl) rfl ?_
    refine q_isub (pc' := 40) (dk_at dkX5_fitsDraft 19 rfl) rfl ?_
    have bo := hO (D.sz - 1)
    refine r_iald (pc' := 41) (dk_at dkX5_fitsDraft 20 rfl) hD.order (D.sz - 1) (by omega) (by omega) (by decide) rfl ?_
    refine r_iald (pc' := 42) (dk_at dkX5_fitsDraft 21 rfl) (hQ.values_at 0 (by omega)) (((D.od (D.sz - 1))).toNat) (by omega) (by omega) (by decide) rfl ?_
    have bb1 := hV 0 (((D.od (D.sz - 1))).toNat)
    refine q_aload_n (pc' := 43) (dk_at dkX5_fitsDraft 22 rfl) rfl rfl ?_
    refine q_iload_n (pc' := 44) (dk_at dkX5_fitsDraft 23 rfl) rfl rfl ?_
    refine r_iald (pc' := 45) (dk_at dkX5_fitsDraft 24 rfl) (hQ.values_at 0 (by omega)) jn (by omega) (by omega) (by decide) rfl ?_
    have bb2 := hV 0 jn
    refine q_icmp_ne (tgt := 52) (pc' := 48) (dk_at dkX5_fitsDraft 25 rfl) rfl rfl (by omega) (by omega) (fun c45 => ?_) (fun c45 => ?_)
    · refine q_iconst (pc' := 53) (dk_at dkX5_fitsDraft 28 rfl) rfl ?_
      refine r_zret rfl (by omega) (dk_at dkX5_fitsDraft 29 rfl) ?_
      refine ⟨rfl, Or.inr ⟨rfl, fun z => ?_⟩⟩
      have z1 := z.1
      have z2 := z.2
      unfold jb at z2
      omega
    · refine q_iconst (pc' := 49) (dk_at dkX5_fitsDraft 26 rfl) rfl ?_
      refine q_goto (tgt := 53) (dk_at dkX5_fitsDraft 27 rfl) rfl ?_
      refine r_zret rfl (by omega) (dk_at dkX5_fitsDraft 29 rfl) ?_
      exact ⟨rfl, Or.inl ⟨rfl, by omega, by unfold jb; omega⟩⟩

set_option maxHeartbeats 4000000 in
set_option maxRecDepth 100000 in
theorem l_read {d n : Nat} {h : PH} {b tl : Nat} {S : Shp} {sv kn bs : Int} {tx o e : Nat → Int} (hd : 2 ≤ d) (hc8 : S.cnt ≤ 8) (hV : Vok S.V) (htl : tl ≤ 60) (htx : ∀ i, 0 ≤ tx i ∧ tx i ≤ 127) : ∀ (c : Nat) (i : Nat) (h1 : PH) (D : PlS) (f : Int) (us : Nat) (x4 : Option PV), (i + c = tl) → (rdS tx o e i = (D, f, us)) → (RdOk S (D, f, us)) → (∀ k, k < i → rdG S (rdS tx o e k) (tx k)) → (isBM n h1 b sv tx (tl : Int)) → (isState n h1 (b + 1) kn bs) → (isShp n h1 (b + 2) S) → (isPlS n h1 (b + 88) D) → (Fr h h1 (b + 88) (b + 91)) → QN mX5_readText d (FI n (fun v h' => rdR S tx tl o e v ∧ ∃ D f us, (∃ i, i ≤ tl ∧ rdS tx o e i = (D, f, us) ∧ (v = -1 → i = tl)) ∧ RdOk S (D, f, us) ∧ isBM n h' b sv tx (tl : Int) ∧ isState n h' (b + 1) kn bs ∧ isShp n h' (b + 2) S ∧ isPlS n h' (b + 88) D ∧ Fr h h' (b + 88) (b + 91))) 13 [some (vR b), some (vI f), some (vI (us : Int)), some (vI (i : Int)), x4] [] n h1 := by
  intro c
  induction c with
  | zero =>
    intro i h1 D f us x4 hc hr hok hgo hB hN hQ hD hF
    have hf : f = 0 ∨ f = 1 := hok.2.1
    have hod : ∀ k, 0 ≤ D.od k ∧ D.od k ≤ 7 := hok.1.2.2.1
    have hu1 : us = stO D.od 0 D.sz := hok.2.2.1
    have hus : us < 256 := by
      have e2 : stO D.od 0 D.sz < 2 ^ 8 := stO_lt D.sz (fun k _ => by have := hod (0 + k); unfold jb; omega)
      omega
    have htxi := htx i
    refine q_iload_n (pc' := 14) (dk_at dkX5_readText 9 rfl) rfl rfl ?_
    refine q_aload_n (pc' := 15) (dk_at dkX5_readText 10 rfl) rfl rfl ?_
    refine r_getf (pc' := 18) fl_RX5_130 (dk_at dkX5_readText 11 rfl) hB.obj rfl rfl ?_
    refine q_icmp_ge (tgt := 112) (pc' := 21) (dk_at dkX5_readText 12 rfl) rfl rfl (by omega) (by omega) (fun c18 => ?_) (fun c18 => ?_)
    · refine q_iload_n (pc' := 113) (dk_at dkX5_readText 66 rfl) rfl rfl ?_
      refine q_if_eq (tgt := 130) (pc' := 116) (dk_at dkX5_readText 67 rfl) rfl rfl (by omega) (fun c113 => ?_) (fun c113 => ?_)
      · refine q_iconst (pc' := 131) (dk_at dkX5_readText 74 rfl) rfl ?_
        refine r_iret rfl (dk_at dkX5_readText 75 rfl) ?_
        have ei : i = tl := by omega
        subst ei
        refine ⟨Or.inr ⟨hgo, ?_⟩, D, f, us, ⟨i, by omega, hr, by omega⟩, hok, hB, hN, hQ, hD, hF⟩
        rw [hr]
        rw [if_neg (by dsimp only; omega)]
      · refine q_aload_n (pc' := 117) (dk_at dkX5_readText 68 rfl) rfl rfl ?_
        refine r_getf (pc' := 120) fl_RX5_130 (dk_at dkX5_readText 69 rfl) hB.obj rfl rfl ?_
        refine q_if_le (tgt := 130) (pc' := 123) (dk_at dkX5_readText 70 rfl) rfl rfl (by omega) (fun c120 => ?_) (fun c120 => ?_)
        · refine q_iconst (pc' := 131) (dk_at dkX5_readText 74 rfl) rfl ?_
          refine r_iret rfl (dk_at dkX5_readText 75 rfl) ?_
          have ei : i = tl := by omega
          subst ei
          refine ⟨Or.inr ⟨hgo, ?_⟩, D, f, us, ⟨i, by omega, hr, by omega⟩, hok, hB, hN, hQ, hD, hF⟩
          rw [hr]
          rw [if_neg (by dsimp only; omega)]
        · refine q_aload_n (pc' := 124) (dk_at dkX5_readText 71 rfl) rfl rfl ?_
          refine r_getf (pc' := 127) fl_RX5_130 (dk_at dkX5_readText 72 rfl) hB.obj rfl rfl ?_
          refine q_goto (tgt := 131) (dk_at dkX5_readText 73 rfl) rfl ?_
          refine r_iret rfl (dk_at dkX5_readText 75 rfl) ?_
          have ei : i = tl := by omega
          subst ei
          refine ⟨Or.inr ⟨hgo, ?_⟩, D, f, us, ⟨i, by omega, hr, by omega⟩, hok, hB, hN, hQ, hD, hF⟩
          rw [hr]
          rw [if_pos ⟨by dsimp only; omega, by omega⟩]
    · exfalso
      omega
  | succ c ih =>
    intro i h1 D f us x4 hc hr hok hgo hB hN hQ hD hF
    have hf : f = 0 ∨ f = 1 := hok.2.1
    have hod : ∀ k, 0 ≤ D.od k ∧ D.od k ≤ 7 := hok.1.2.2.1
    have hu1 : us = stO D.od 0 D.sz := hok.2.2.1
    have hus : us < 256 := by
      have e2 : stO D.od 0 D.sz < 2 ^ 8 := stO_lt D.sz (fun k _ => by have := hod (0 + k); unfold jb; omega)
      omega
    have htxi := htx i
    refine q_iload_n (pc' := 14) (dk_at dkX5_readText 9 rfl) rfl rfl ?_
    refine q_aload_n (pc' := 15) (dk_at dkX5_readText 10 rfl) rfl rfl ?_
    refine r_getf (pc' := 18) fl_RX5_130 (dk_at dkX5_readText 11 rfl) hB.obj rfl rfl ?_
    refine q_icmp_ge (tgt := 112) (pc' := 21) (dk_at dkX5_readText 12 rfl) rfl rfl (by omega) (by omega) (fun c18 => ?_) (fun c18 => ?_)
    · refine q_iload_n (pc' := 113) (dk_at dkX5_readText 66 rfl) rfl rfl ?_
      refine q_if_eq (tgt := 130) (pc' := 116) (dk_at dkX5_readText 67 rfl) rfl rfl (by omega) (fun c113 => ?_) (fun c113 => ?_)
      · refine q_iconst (pc' := 131) (dk_at dkX5_readText 74 rfl) rfl ?_
        refine r_iret rfl (dk_at dkX5_readText 75 rfl) ?_
        have ei : i = tl := by omega
        subst ei
        refine ⟨Or.inr ⟨hgo, ?_⟩, D, f, us, ⟨i, by omega, hr, by omega⟩, hok, hB, hN, hQ, hD, hF⟩
        rw [hr]
        rw [if_neg (by dsimp only; omega)]
      · refine q_aload_n (pc' := 117) (dk_at dkX5_readText 68 rfl) rfl rfl ?_
        refine r_getf (pc' := 120) fl_RX5_130 (dk_at dkX5_readText 69 rfl) hB.obj rfl rfl ?_
        refine q_if_le (tgt := 130) (pc' := 123) (dk_at dkX5_readText 70 rfl) rfl rfl (by omega) (fun c120 => ?_) (fun c120 => ?_)
        · refine q_iconst (pc' := 131) (dk_at dkX5_readText 74 rfl) rfl ?_
          refine r_iret rfl (dk_at dkX5_readText 75 rfl) ?_
          have ei : i = tl := by omega
          subst ei
          refine ⟨Or.inr ⟨hgo, ?_⟩, D, f, us, ⟨i, by omega, hr, by omega⟩, hok, hB, hN, hQ, hD, hF⟩
          rw [hr]
          rw [if_neg (by dsimp only; omega)]
        · refine q_aload_n (pc' := 124) (dk_at dkX5_readText 71 rfl) rfl rfl ?_
          refine r_getf (pc' := 127) fl_RX5_130 (dk_at dkX5_readText 72 rfl) hB.obj rfl rfl ?_
          refine q_goto (tgt := 131) (dk_at dkX5_readText 73 rfl) rfl ?_
          refine r_iret rfl (dk_at dkX5_readText 75 rfl) ?_
          have ei : i = tl := by omega
          subst ei
          refine ⟨Or.inr ⟨hgo, ?_⟩, D, f, us, ⟨i, by omega, hr, by omega⟩, hok, hB, hN, hQ, hD, hF⟩
          rw [hr]
          rw [if_pos ⟨by dsimp only; omega, by omega⟩]
    · refine q_aload_n (pc' := 22) (dk_at dkX5_readText 13 rfl) rfl rfl ?_
      refine r_getf (pc' := 25) fl_RX5_20 (dk_at dkX5_readText 14 rfl) hB.obj rfl rfl ?_
      refine q_iload_n (pc' := 26) (dk_at dkX5_readText 15 rfl) rfl rfl ?_
      refine r_iald (pc' := 27) (dk_at dkX5_readText 16 rfl) hB.text i (by omega) (by omega) (by decide) rfl ?_
      have bb1 := htx i
      refine q_bipush (pc' := 29) (dk_at dkX5_readText 17 rfl) (by decide +kernel) rfl ?_
      refine q_icmp_ne (tgt := 43) (pc' := 32) (dk_at dkX5_readText 18 rfl) rfl rfl (by omega) (by omega) (fun c29 => ?_) (fun c29 => ?_)
      · refine q_aload_n (pc' := 44) (dk_at dkX5_readText 26 rfl) rfl rfl ?_
        refine r_getf (pc' := 47) fl_RX5_20 (dk_at dkX5_readText 27 rfl) hB.obj rfl rfl ?_
        refine q_iload_n (pc' := 48) (dk_at dkX5_readText 28 rfl) rfl rfl ?_
        refine r_iald (pc' := 49) (dk_at dkX5_readText 29 rfl) hB.text i (by omega) (by omega) (by decide) rfl ?_
        have bb2 := htx i
        refine q_bipush (pc' := 51) (dk_at dkX5_readText 30 rfl) (by decide +kernel) rfl ?_
        refine q_isub (pc' := 52) (dk_at dkX5_readText 31 rfl) rfl ?_
        refine q_istore (pc' := 54) (L' := [some (vR b), some (vI f), some (vI (us : Int)), some (vI (i : Int)), some (vI ((tx i) - 48))]) (dk_at dkX5_readText 32 rfl) (by decide) rfl rfl ?_
        refine q_aload_n (pc' := 55) (dk_at dkX5_readText 33 rfl) rfl rfl ?_
        refine q_iload (pc' := 57) (dk_at dkX5_readText 34 rfl) rfl rfl ?_
        refine r_cVI (pc' := 60) (As := [vI ((tx i) - 48)]) (S := []) cv_RX5_86 (dk_at dkX5_readText 35 rfl) hB.obj rfl (k_BM_isJobY (d := 0) hc8 (by omega) hB hN hQ) (by omega) (Nat.zero_le _) (Nat.zero_le _) rfl (Nat.le_of_ble_eq_true rfl) rfl (Nat.le_of_ble_eq_true rfl) rfl (fun xx3 hh4 hphh4 => ?_)
        obtain ⟨qq5, y57⟩ := hphh4
        subst qq5
        have yr57 := y57.r
        refine q_if_eq (tgt := 85) (pc' := 63) (dk_at dkX5_readText 36 rfl) rfl rfl (by omega) (fun c60 => ?_) (fun c60 => ?_)
        · refine q_iload_n (pc' := 86) (dk_at dkX5_readText 49 rfl) rfl rfl ?_
          refine r_iret rfl (dk_at dkX5_readText 50 rfl) ?_
          exact ⟨Or.inl ⟨i, by omega, hgo, by rw [hr]; intro z; unfold rdG at z; rw [if_neg (by omega)] at z; exact y57.f c60 z.1, rfl⟩, D, f, us, ⟨i, by omega, hr, by omega⟩, hok, hB, hN, hQ, hD, hF⟩
        · have yj := y57.t c60
          unfold jOk at yj
          obtain ⟨jn, ej⟩ : ∃ jn : Nat, tx i - 48 = (jn : Int) := ⟨(tx i - 48).toNat, by omega⟩
          rw [ej]
          rw [ej] at yj
          refine q_iload_n (pc' := 64) (dk_at dkX5_readText 37 rfl) rfl rfl ?_
          refine q_iload (pc' := 66) (dk_at dkX5_readText 38 rfl) rfl rfl ?_
          refine q_ishr (pc' := 67) (dk_at dkX5_readText 39 rfl) (by omega) (by omega) rfl ?_
          have bb6 := nt_shr_r us jn
          rw [show ((us : Int) / 2 ^ ((jn : Int)).toNat) = ((us / 2 ^ jn : Nat) : Int) from nt_shr us jn]
          refine q_iconst (pc' := 68) (dk_at dkX5_readText 40 rfl) rfl ?_
          refine q_iand (pc' := 69) (dk_at dkX5_readText 41 rfl) (by omega) (by omega) rfl ?_
          rw [show (((((us / 2 ^ jn : Nat) : Int)).toNat &&& (1 : Int).toNat : Nat) : Int) = (((us / 2 ^ jn) % 2 : Nat) : Int) from nt_bit (us / 2 ^ jn)]
          refine q_if_ne (tgt := 85) (pc' := 72) (dk_at dkX5_readText 42 rfl) rfl rfl (by omega) (fun c69 => ?_) (fun c69 => ?_)
          · refine q_iload_n (pc' := 86) (dk_at dkX5_readText 49 rfl) rfl rfl ?_
            refine r_iret rfl (dk_at dkX5_readText 50 rfl) ?_
            exact ⟨Or.inl ⟨i, by omega, hgo, by rw [hr]; intro z; have z2 := ((rdG_j (by omega) ej).mp z).2.1; omega, rfl⟩, D, f, us, ⟨i, by omega, hr, by omega⟩, hok, hB, hN, hQ, hD, hF⟩
          · refine q_iload_n (pc' := 73) (dk_at dkX5_readText 43 rfl) rfl rfl ?_
            refine q_if_ne (tgt := 87) (pc' := 76) (dk_at dkX5_readText 44 rfl) rfl rfl (by omega) (fun c73 => ?_) (fun c73 => ?_)
            · have hgd : rdG S (D, f, us) (tx i) := (rdG_j (by omega) ej).mpr ⟨yj, by omega, (Or.inl (by omega))⟩
              have hpa := PlOk.add hc8 hok.1 (jn := jn) (by omega) (fun k hk e => (show ¬ us / 2 ^ jn % 2 = 1 by omega) (by rw [hu1]; exact (stO_bit D.sz).mpr ⟨k, hk, by rw [Nat.zero_add]; exact e⟩)) f
              refine q_aload_n (pc' := 88) (dk_at dkX5_readText 51 rfl) rfl rfl ?_
              refine r_getf (pc' := 91) fl_RX5_27 (dk_at dkX5_readText 52 rfl) hB.obj rfl rfl ?_
              refine q_iload (pc' := 93) (dk_at dkX5_readText 53 rfl) rfl rfl ?_
              refine q_iload_n (pc' := 94) (dk_at dkX5_readText 54 rfl) rfl rfl ?_
              refine r_cVV (pc' := 97) (As := [vI (jn : Int), vI f]) (S := []) cv_RX5_248 (dk_at dkX5_readText 55 rfl) hD.obj rfl (k_Plan_addL (d := 0) (j := jn) hD hpa.1 hok.1.2.1 hf) (by omega) (Nat.zero_le _) (Nat.zero_le _) rfl (Nat.le_of_ble_eq_true rfl) rfl (Nat.le_of_ble_eq_true rfl) rfl (fun hh8 hphh8 => ?_)
              obtain ⟨hD, hGf⟩ := hphh8
              have hB := isBM.frm hB hGf (by omega)
              have hN := isState.frm hN hGf (by omega)
              have hQ := isShop.frm hQ hGf (by omega)
              have hF := hF.tr hGf (by omega)
              refine q_iload_n (pc' := 98) (dk_at dkX5_readText 56 rfl) rfl rfl ?_
              refine q_iconst (pc' := 99) (dk_at dkX5_readText 57 rfl) rfl ?_
              refine q_iload (pc' := 101) (dk_at dkX5_readText 58 rfl) rfl rfl ?_
              refine q_ishl (pc' := 102) (dk_at dkX5_readText 59 rfl) (by omega) (by omega) rfl ?_
              have bb9 := nt_pow_r (j := jn) (by omega)
              rw [show ((1 : Int) * 2 ^ ((jn : Int)).toNat) = ((2 ^ jn : Nat) : Int) from nt_shl1 jn]
              refine q_ior (pc' := 103) (dk_at dkX5_readText 60 rfl) (by omega) (by omega) rfl ?_
              rw [show ((((us : Int)).toNat ||| (((2 ^ jn : Nat) : Int)).toNat : Nat) : Int) = ((us ||| (2 ^ jn) : Nat) : Int) from nt_or us (2 ^ jn)]
              refine q_istore_n (pc' := 104) (L' := [some (vR b), some (vI f), some (vI ((us ||| (2 ^ jn) : Nat) : Int)), some (vI (i : Int)), some (vI (jn : Int))]) (dk_at dkX5_readText 61 rfl) (by decide) rfl rfl ?_
              refine q_iconst (pc' := 105) (dk_at dkX5_readText 62 rfl) rfl ?_
              refine q_istore_n (pc' := 106) (L' := [some (vR b), some (vI 0), some (vI ((us ||| (2 ^ jn) : Nat) : Int)), some (vI (i : Int)), some (vI (jn : Int))]) (dk_at dkX5_readText 63 rfl) (by decide) rfl rfl ?_
              refine q_iinc (pc' := 109) (L' := [some (vR b), some (vI 0), some (vI ((us ||| (2 ^ jn) : Nat) : Int)), some (vI ((i : Int) + 1)), some (vI (jn : Int))]) (dk_at dkX5_readText 64 rfl) (by decide) rfl rfl rfl ?_
              rw [show ((i : Int) + 1) = ((i + 1 : Nat) : Int) by omega]
              refine q_goto (tgt := 13) (dk_at dkX5_readText 65 rfl) rfl ?_
              refine ih (i + 1) _ (addL D jn f) 0 (us ||| 2 ^ jn) _ (by omega) (by show rdN (rdS tx o e i) (tx i) = _; rw [hr]; exact rdN_j (by omega) ej) (by have z := rd_ok hc8 hok hgd; rw [rdN_j (by omega) ej] at z; exact z) (fun k hk => ?_) hB hN hQ hD hF
              by_cases z : k = i
              · rw [z, hr]; exact hgd
              · exact hgo k (by omega)
            · refine q_aload_n (pc' := 77) (dk_at dkX5_readText 45 rfl) rfl rfl ?_
              refine q_iload (pc' := 79) (dk_at dkX5_readText 46 rfl) rfl rfl ?_
              refine r_cVI (pc' := 82) (As := [vI (jn : Int)]) (S := []) cv_RX5_245 (dk_at dkX5_readText 47 rfl) hB.obj rfl (k_BM_fitsDraft (d := 0) (jn := jn) hV hod hok.1.1 (by omega) hB hN hQ hD) (by omega) (Nat.zero_le _) (Nat.zero_le _) rfl (Nat.le_of_ble_eq_true rfl) rfl (Nat.le_of_ble_eq_true rfl) rfl (fun xx10 hh11 hphh11 => ?_)
              obtain ⟨qq12, y79⟩ := hphh11
              subst qq12
              have yr79 := y79.r
              refine q_if_ne (tgt := 87) (pc' := 85) (dk_at dkX5_readText 48 rfl) rfl rfl (by omega) (fun c82 => ?_) (fun c82 => ?_)
              · have hgd : rdG S (D, f, us) (tx i) := (rdG_j (by omega) ej).mpr ⟨yj, by omega, (Or.inr (y79.t (by omega)))⟩
                have hpa := PlOk.add hc8 hok.1 (jn := jn) (by omega) (fun k hk e => (show ¬ us / 2 ^ jn % 2 = 1 by omega) (by rw [hu1]; exact (stO_bit D.sz).mpr ⟨k, hk, by rw [Nat.zero_add]; exact e⟩)) f
                refine q_aload_n (pc' := 88) (dk_at dkX5_readText 51 rfl) rfl rfl ?_
                refine r_getf (pc' := 91) fl_RX5_27 (dk_at dkX5_readText 52 rfl) hB.obj rfl rfl ?_
                refine q_iload (pc' := 93) (dk_at dkX5_readText 53 rfl) rfl rfl ?_
                refine q_iload_n (pc' := 94) (dk_at dkX5_readText 54 rfl) rfl rfl ?_
                refine r_cVV (pc' := 97) (As := [vI (jn : Int), vI f]) (S := []) cv_RX5_248 (dk_at dkX5_readText 55 rfl) hD.obj rfl (k_Plan_addL (d := 0) (j := jn) hD hpa.1 hok.1.2.1 hf) (by omega) (Nat.zero_le _) (Nat.zero_le _) rfl (Nat.le_of_ble_eq_true rfl) rfl (Nat.le_of_ble_eq_true rfl) rfl (fun hh14 hphh14 => ?_)
                obtain ⟨hD, hGf⟩ := hphh14
                have hB := isBM.frm hB hGf (by omega)
                have hN := isState.frm hN hGf (by omega)
                have hQ := isShop.frm hQ hGf (by omega)
                have hF := hF.tr hGf (by omega)
                refine q_iload_n (pc' := 98) (dk_at dkX5_readText 56 rfl) rfl rfl ?_
                refine q_iconst (pc' := 99) (dk_at dkX5_readText 57 rfl) rfl ?_
                refine q_iload (pc' := 101) (dk_at dkX5_readText 58 rfl) rfl rfl ?_
                refine q_ishl (pc' := 102) (dk_at dkX5_readText 59 rfl) (by omega) (by omega) rfl ?_
                have bb15 := nt_pow_r (j := jn) (by omega)
                rw [show ((1 : Int) * 2 ^ ((jn : Int)).toNat) = ((2 ^ jn : Nat) : Int) from nt_shl1 jn]
                refine q_ior (pc' := 103) (dk_at dkX5_readText 60 rfl) (by omega) (by omega) rfl ?_
                rw [show ((((us : Int)).toNat ||| (((2 ^ jn : Nat) : Int)).toNat : Nat) : Int) = ((us ||| (2 ^ jn) : Nat) : Int) from nt_or us (2 ^ jn)]
                refine q_istore_n (pc' := 104) (L' := [some (vR b), some (vI f), some (vI ((us ||| (2 ^ jn) : Nat) : Int)), some (vI (i : Int)), some (vI (jn : Int))]) (dk_at dkX5_readText 61 rfl) (by decide) rfl rfl ?_
                refine q_iconst (pc' := 105) (dk_at dkX5_readText 62 rfl) rfl ?_
                refine q_istore_n (pc' := 106) (L' := [some (vR b), some (vI 0), some (vI ((us ||| (2 ^ jn) : Nat) : Int)), some (vI (i : Int)), some (vI (jn : Int))]) (dk_at dkX5_readText 63 rfl) (by decide) rfl rfl ?_
                refine q_iinc (pc' := 109) (L' := [some (vR b), some (vI 0), some (vI ((us ||| (2 ^ jn) : Nat) : Int)), some (vI ((i : Int) + 1)), some (vI (jn : Int))]) (dk_at dkX5_readText 64 rfl) (by decide) rfl rfl rfl ?_
                rw [show ((i : Int) + 1) = ((i + 1 : Nat) : Int) by omega]
                refine q_goto (tgt := 13) (dk_at dkX5_readText 65 rfl) rfl ?_
                refine ih (i + 1) _ (addL D jn f) 0 (us ||| 2 ^ jn) _ (by omega) (by show rdN (rdS tx o e i) (tx i) = _; rw [hr]; exact rdN_j (by omega) ej) (by have z := rd_ok hc8 hok hgd; rw [rdN_j (by omega) ej] at z; exact z) (fun k hk => ?_) hB hN hQ hD hF
                by_cases z : k = i
                · rw [z, hr]; exact hgd
                · exact hgo k (by omega)
              · refine q_iload_n (pc' := 86) (dk_at dkX5_readText 49 rfl) rfl rfl ?_
                refine r_iret rfl (dk_at dkX5_readText 50 rfl) ?_
                exact ⟨Or.inl ⟨i, by omega, hgo, by rw [hr]; intro z; rcases ((rdG_j (by omega) ej).mp z).2.2 with z3 | z3; omega; exact y79.f (by omega) z3, rfl⟩, D, f, us, ⟨i, by omega, hr, by omega⟩, hok, hB, hN, hQ, hD, hF⟩
      · refine q_iload_n (pc' := 33) (dk_at dkX5_readText 19 rfl) rfl rfl ?_
        refine q_if_eq (tgt := 38) (pc' := 36) (dk_at dkX5_readText 20 rfl) rfl rfl (by omega) (fun c33 => ?_) (fun c33 => ?_)
        · refine q_iconst (pc' := 39) (dk_at dkX5_readText 23 rfl) rfl ?_
          refine q_istore_n (pc' := 40) (L' := [some (vR b), some (vI 1), some (vI (us : Int)), some (vI (i : Int)), x4]) (dk_at dkX5_readText 24 rfl) (by decide) rfl rfl ?_
          refine q_goto (tgt := 106) (dk_at dkX5_readText 25 rfl) rfl ?_
          refine q_iinc (pc' := 109) (L' := [some (vR b), some (vI 1), some (vI (us : Int)), some (vI ((i : Int) + 1)), x4]) (dk_at dkX5_readText 64 rfl) (by decide) rfl rfl rfl ?_
          rw [show ((i : Int) + 1) = ((i + 1 : Nat) : Int) by omega]
          refine q_goto (tgt := 13) (dk_at dkX5_readText 65 rfl) rfl ?_
          refine ih (i + 1) _ D 1 us _ (by omega) (by show rdN (rdS tx o e i) (tx i) = _; rw [hr]; exact rdN_s (by omega)) (by have z := rd_ok hc8 hok ((rdG_s (c := tx i) (by omega)).mpr (by omega)); rw [rdN_s (by omega)] at z; exact z) (fun k hk => ?_) hB hN hQ hD hF
          by_cases z : k = i
          · rw [z, hr]; exact (rdG_s (by omega)).mpr (by omega)
          · exact hgo k (by omega)
        · refine q_iload_n (pc' := 37) (dk_at dkX5_readText 21 rfl) rfl rfl ?_
          refine r_iret rfl (dk_at dkX5_readText 22 rfl) ?_
          exact ⟨Or.inl ⟨i, by omega, hgo, by rw [hr]; exact fun z => by have := (rdG_s (by omega)).mp z; omega, rfl⟩, D, f, us, ⟨i, by omega, hr, by omega⟩, hok, hB, hN, hQ, hD, hF⟩

set_option maxHeartbeats 4000000 in
set_option maxRecDepth 100000 in
theorem k_BM_readText {d n : Nat} {h : PH} {b tl : Nat} {S : Shp} {sv kn bs size bc : Int} {tx o e : Nat → Int} (hd : 2 ≤ d) (hc8 : S.cnt ≤ 8) (hV : Vok S.V) (htl : tl ≤ 60) (htx : ∀ i, 0 ≤ tx i ∧ tx i ≤ 127) (hO : ∀ j, 0 ≤ o j ∧ o j ≤ 7) (hB : isBM n h b sv tx (tl : Int)) (hN : isState n h (b + 1) kn bs) (hQ : isShp n h (b + 2) S) (hD : isPlan n h (b + 88) size bc o e) : CtrI mX5_readText d [vR b] n h (fun v h' => rdR S tx tl o e v ∧ ∃ D f us, (∃ i, i ≤ tl ∧ rdS tx o e i = (D, f, us) ∧ (v = -1 → i = tl)) ∧ RdOk S (D, f, us) ∧ isBM n h' b sv tx (tl : Int) ∧ isState n h' (b + 1) kn bs ∧ isShp n h' (b + 2) S ∧ isPlS n h' (b + 88) D ∧ Fr h h' (b + 88) (b + 91)) := by
  have hF : Fr h h (b + 88) (b + 91) := Fr.rf
  refine q_beginI (L := [some (vR b), none, none, none, none]) rfl ?_
  refine q_aload_n (pc' := 1) (dk_at dkX5_readText 0 rfl) rfl rfl ?_
  refine r_getf (pc' := 4) fl_RX5_27 (dk_at dkX5_readText 1 rfl) hB.obj rfl rfl ?_
  refine r_cVV (pc' := 7) (As := []) (S := []) cv_RX5_105 (dk_at dkX5_readText 2 rfl) hD.obj rfl (k_Plan_makeEmpty (d := 0) hD) (by omega) (Nat.zero_le _) (Nat.zero_le _) rfl (Nat.le_of_ble_eq_true rfl) rfl (Nat.le_of_ble_eq_true rfl) rfl (fun hh2 hphh2 => ?_)
  obtain ⟨hD, hGf⟩ := hphh2
  have hB := isBM.frm hB hGf (by omega)
  have hN := isState.frm hN hGf (by omega)
  have hQ := isShop.frm hQ hGf (by omega)
  have hF := hF.tr hGf (by omega)
  refine q_iconst (pc' := 8) (dk_at dkX5_readText 3 rfl) rfl ?_
  refine q_istore_n (pc' := 9) (L' := [some (vR b), some (vI 1), none, none, none]) (dk_at dkX5_readText 4 rfl) (by decide) rfl rfl ?_
  refine q_iconst (pc' := 10) (dk_at dkX5_readText 5 rfl) rfl ?_
  refine q_istore_n (pc' := 11) (L' := [some (vR b), some (vI 1), some (vI 0), none, none]) (dk_at dkX5_readText 6 rfl) (by decide) rfl rfl ?_
  refine q_iconst (pc' := 12) (dk_at dkX5_readText 7 rfl) rfl ?_
  refine q_istore_n (pc' := 13) (L' := [some (vR b), some (vI 1), some (vI 0), some (vI 0), none]) (dk_at dkX5_readText 8 rfl) (by decide) rfl rfl ?_
  refine l_read (h := h) hd hc8 hV htl htx tl 0 _ (0, 0, o, e) 1 0 none (by omega) rfl ?_ (fun k hk => absurd hk (Nat.not_lt_zero _)) hB hN hQ hD hF
  exact ⟨⟨Nat.zero_le _, Nat.le_refl _, hO, fun b hb => absurd hb (Nat.not_lt_zero _), rfl, fun k hk => absurd hk (Nat.not_lt_zero _), fun k k' hk => absurd hk (Nat.not_lt_zero _)⟩, Or.inr rfl, rfl, fun z => by dsimp only at z; omega⟩
