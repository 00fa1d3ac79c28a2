/-! later releases: no schedule gets cheaper -/
def RelLe (S S' : Shp) : Prop := S'.cnt = S.cnt ∧ (∀ w j, w ≠ 2 → S'.V w j = S.V w j) ∧ (∀ j, S.V 2 j ≤ S'.V 2 j) ∧ S'.T = S.T ∧ S'.wh = S.wh ∧ S'.er = S.er ∧ S'.ob = S.ob
section REL
variable {S S' : Shp}
theorem sfT_rel (h : RelLe S S') (s : Nat) : ∀ c, sfT S'.V s c = sfT S.V s c
  | 0 => rfl
  | c + 1 => by unfold sfT; rw [sfT_rel h s c, h.2.1 0 c (by decide)]
theorem swT_rel (h : RelLe S S') (s : Nat) : ∀ c, swT S'.V s c = swT S.V s c
  | 0 => rfl
  | c + 1 => by unfold swT; rw [swT_rel h s c, h.2.1 1 c (by decide)]
theorem srT_rel (h : RelLe S S') (s : Nat) : ∀ c, srT S.V s c ≤ srT S'.V s c
  | 0 => Int.le_refl _
  | c + 1 => by
    have h1 := srT_rel h s c
    have h2 := h.2.2.1 c
    unfold srT
    split <;> omega
theorem gapS_rel (h : RelLe S S') (r t : Nat) : gapS S' r t = gapS S r t := by unfold gapS; rw [h.2.2.2.1, h.2.2.2.2.1]
theorem endS_rel (h : RelLe S S') (t : Nat) (l : Int) {f f' : Int} (hf : f ≤ f') : endS S t l f ≤ endS S' t l f' := by
  unfold endS
  rw [gapS_rel h, h.1, sfT_rel h, swT_rel h, h.2.2.2.2.2.1]
  have := srT_rel h t S.cnt
  split <;> omega
theorem pen_rel (h : RelLe S S') (j : Nat) (C : Int) : pen S' j C = pen S j C := by
  unfold pen penz
  rw [h.2.1 3 j (by decide), h.2.1 4 j (by decide), h.2.2.2.2.2.2]
theorem jn_rel (h : RelLe S S') (a b : Int) : jn S' a b = jn S a b := by unfold jn; rw [h.2.2.2.2.2.2]
theorem neu_rel (h : RelLe S S') : neu S' = neu S := by unfold neu; rw [h.2.2.2.2.2.2]
theorem smT_rel (hV : Vok S.V) (h : RelLe S S') (t : Nat) {en en' s s' : Int} (he : en ≤ en') (hs : s ≤ s') : ∀ c, smT S t en s c ≤ smT S' t en' s' c
  | 0 => hs
  | c + 1 => by
    have h1 := smT_rel hV h t he hs c
    unfold smT
    split
    · rw [jn_rel h, pen_rel h]; exact jn_mono h1 (pen_mono hV c he)
    · exact h1
theorem okS_rel (h : RelLe S S') (s : Nat) : okS S' s = okS S s := by unfold okS; rw [h.1, sfT_rel h, h.2.2.2.2.1]
theorem alw_rel (h : RelLe S S') (fi : Int) (dn : Nat) : alw S' fi dn = alw S fi dn := by funext s; unfold alw; rw [okS_rel h]
theorem alS_rel (h : RelLe S S') : alS S' = alS S := by unfold alS; rw [h.1]
theorem fin_rel (hV : Vok S.V) (h : RelLe S S') {fi : Int} : ∀ k dn l f s f' s', f ≤ f' → s ≤ s' → fin S fi k dn l f s ≤ fin S' fi k dn l f' s'
  | 0, dn, l, f, s, f', s', h1, h2 => by unfold fin; rw [alS_rel h]; split <;> omega
  | k + 1, dn, l, f, s, f', s', h1, h2 => by
    show (if _ then _ else _) ≤ (if _ then _ else _)
    rw [alS_rel h]
    split
    · exact h2
    · rw [alw_rel h, h.1]
      refine mnS_ge _ (mnS_inf _) (fun t ht hp => Int.le_trans (mnS_le _ ht hp) ?_)
      rw [sfT_rel h]
      have e := endS_rel h t l h1
      exact fin_rel hV h k _ _ _ _ _ _ e (smT_rel hV h t e h2 S.cnt)
theorem fnS_rel (hV : Vok S.V) (h : RelLe S S') (fi : Int) : fnS S fi ≤ fnS S' fi := by
  unfold fnS fn
  rw [neu_rel h]
  exact fin_rel hV h 8 _ _ _ _ _ _ (Int.le_refl _) (Int.le_refl _)
theorem lcS_rel (hV : Vok S.V) (h : RelLe S S') (fi : Int) : lcS S fi ≤ lcS S' fi := by
  unfold lcS
  rw [h.1]
  split
  · exact Int.le_refl _
  · exact fnS_rel hV h fi
theorem rdW_rel (h : RelLe S S') {o : Nat → Int} {be : Nat} : ∀ i, rdW S o be i ≤ rdW S' o be i
  | 0 => h.2.2.1 _
  | i + 1 => by
    have h1 := rdW_rel h (o := o) (be := be) i
    have h2 := h.2.2.1 (jb o (be + 1 + i))
    unfold rdW
    omega
theorem rdy_rel (h : RelLe S S') {o : Nat → Int} {be en : Nat} : rdy S o be en ≤ rdy S' o be en := by
  unfold rdy
  rw [h.2.2.2.2.1]
  split
  · exact rdW_rel h _
  · exact h.2.2.1 _
theorem ptm_rel (h : RelLe S S') {o : Nat → Int} {t t' : Int} (ht : t ≤ t') {be : Nat} : ∀ i, ptm S o t be i ≤ ptm S' o t' be i
  | 0 => ht
  | i + 1 => by
    have h1 := ptm_rel h ht (o := o) (be := be) i
    have h2 := h.2.2.1 (jb o (be + i))
    have h3 := h.2.1 1 (jb o (be + i)) (by decide)
    unfold ptm
    omega
theorem fst0_rel (h : RelLe S S') {o : Nat → Int} {be en : Nat} {l f f' : Int} (hf : f ≤ f') : fst0 S o be en l f ≤ fst0 S' o be en l f' := by
  have h1 := rdy_rel h (o := o) (be := be) (en := en)
  unfold fst0 sst stp
  rw [h.2.2.2.1, h.2.1 0 _ (by decide), h.2.2.2.2.2.1]
  split <;> omega
theorem lstB_rel (h : RelLe S S') {o e : Nat → Int} {b : Nat} : lstB S' o e b = lstB S o e b := by
  unfold lstB
  rw [h.2.1 0 _ (by decide)]
theorem frB_rel (h : RelLe S S') {o e : Nat → Int} : ∀ b, frB S o e b ≤ frB S' o e b
  | 0 => Int.le_refl _
  | b + 1 => by
    show fre S o (bgn e b) (e b).toNat (lstB S o e b) (frB S o e b) ≤ fre S' o (bgn e b) (e b).toNat (lstB S' o e b) (frB S' o e b)
    rw [lstB_rel h]
    unfold fre
    exact ptm_rel h (fst0_rel h (frB_rel h b)) _
theorem cmK_rel (h : RelLe S S') {o e : Nat → Int} {bc k : Nat} : cmK S o e bc k ≤ cmK S' o e bc k := by
  unfold cmK
  rw [h.2.2.2.2.1]
  split
  · exact frB_rel h _
  · refine ptm_rel h ?_ _
    unfold f0B
    rw [lstB_rel h]
    exact fst0_rel h (frB_rel h _)
theorem cstK_rel (hV : Vok S.V) (h : RelLe S S') {o e : Nat → Int} {bc : Nat} : ∀ i, cstK S o e bc i ≤ cstK S' o e bc i
  | 0 => by show neu S ≤ neu S'; rw [neu_rel h]; exact Int.le_refl _
  | i + 1 => by
    show jn S (cstK S o e bc i) (pen S (jb o i) (cmK S o e bc i)) ≤ jn S' (cstK S' o e bc i) (pen S' (jb o i) (cmK S' o e bc i))
    rw [jn_rel h, pen_rel h]
    exact jn_mono (cstK_rel hV h i) (pen_mono hV _ (cmK_rel h))
theorem costP_rel (hV : Vok S.V) (h : RelLe S S') {o e : Nat → Int} {bc m : Nat} : costP S o e bc m ≤ costP S' o e bc m := by
  unfold costP
  split
  · exact Int.le_refl _
  · exact cstK_rel hV h m
end REL
/-- a shop with another release -/
def Shp.rls (S : Shp) (j : Nat) (r : Int) : Shp := S.setV 2 j r
theorem rls_V2 (S : Shp) (j : Nat) (r : Int) : (S.rls j r).V 2 = upz (S.V 2) j r := by
  show upf S.V 2 (upz (S.V 2) j r) 2 = _
  exact upf_eq _ _ _
theorem rls_V (S : Shp) (j : Nat) (r : Int) {w : Nat} (h : w ≠ 2) : (S.rls j r).V w = S.V w := by
  show upf S.V 2 (upz (S.V 2) j r) w = _
  exact upf_ne h
theorem rls_rel (S : Shp) (j : Nat) {r r' : Int} (h : r ≤ r') : RelLe (S.rls j r) (S.rls j r') := by
  refine ⟨rfl, fun w k hw => by rw [rls_V S j r hw, rls_V S j r' hw], fun k => ?_, rfl, rfl, rfl, rfl⟩
  rw [rls_V2, rls_V2]
  unfold upz
  split <;> omega
theorem rls_self (S : Shp) (j : Nat) : S.rls j (S.V 2 j) = S := by
  show (S.cnt, upf S.V 2 (upz (S.V 2) j (S.V 2 j)), S.T, S.wh, S.er, S.ob) = S
  rw [upz_self rfl, upf_self rfl]
  rfl
theorem rls_rls (S : Shp) (j : Nat) (r r' : Int) : (S.rls j r).rls j r' = S.rls j r' := by
  show (S.cnt, upf (upf S.V 2 (upz (S.V 2) j r)) 2 (upz (upf S.V 2 (upz (S.V 2) j r) 2) j r'), S.T, S.wh, S.er, S.ob) = (S.cnt, upf S.V 2 (upz (S.V 2) j r'), S.T, S.wh, S.er, S.ob)
  rw [upf_upf, upf_eq, upz_upz]
theorem rls_ok {S : Shp} (hk : Sok S) (j : Nat) {r : Int} (hr : 0 ≤ r ∧ r ≤ 300) : Sok (S.rls j r) := by
  refine ⟨hk.c, fun w k => ?_, hk.t, hk.w, hk.e, hk.o, fun k h => ?_⟩
  · have hv := hk.v w k
    by_cases q : w = 2
    · subst q
      rw [rls_V2]
      unfold upz
      split
      · exact ⟨hr.1, by omega, by omega, by omega, fun _ => hr.2, by omega⟩
      · exact hv
    · rw [rls_V S j r q]; exact hv
  · rw [rls_V S j r (by decide), rls_V S j r (by decide)]; exact hk.p k h
/-- the plan of the best schedule, at any release: it costs no less than the best there -/
theorem wr_ge {S S' : Shp} (hk : Sok S) (hk' : Sok S') (hc : S'.cnt = S.cnt) (hf : ∀ j, S'.V 0 j = S.V 0 j) (hw : S'.wh = S.wh) {fl : Int} {ts : List Nat} (h : Gp S (-1) fl 0 (-1) 0 (neu S) ts) (h0 : 0 < S.cnt) {o e : Nat → Int} (hO : ∀ k, 0 ≤ o k ∧ o k ≤ 7) : fnS S' (-1) ≤ cvS S' (wrP S (fun i => ts.getD i 0) ts.length o e) := by
  have hQ : WN S.cnt (fun i => ts.getD i 0) ts.length (wpN S.cnt (fun i => ts.getD i 0) (0, 0, o, e) ts.length) := wpN_st ts.length (path_wn (Gp_path ts _ _ _ _ h).1)
  have hO2 := wpN_od hk.c (ts := fun i => ts.getD i 0) (P := (0, 0, o, e)) hO ts.length
  unfold cvS wrP
  dsimp only
  generalize wpN S.cnt (fun i => ts.getD i 0) (0, 0, o, e) ts.length = Q at hQ hO2 ⊢
  by_cases q : S.wh = 1
  · rw [if_pos q]
    obtain ⟨a1, a2, a3, a4⟩ := wr_batch hk q h h0 hQ hO2
    rw [a1, ← hc]
    rw [← hc] at a2
    refine fn_batch hk' (by rw [hw]; exact q) a2 (fun b hb k k1 k2 => ?_) (Or.inl rfl) (by omega)
    rw [hf, hf]
    exact a4 b hb k k1 k2
  · rw [if_neg q]
    obtain ⟨a1, a2, a3, a4⟩ := wr_item hk q h h0 hQ hO2
    have e1 : (fun k => S.V 0 (Q.od k).toNat) = fmG S' Q.od := by
      funext k
      unfold fmG
      rw [hf]
    rw [e1, a1, ← hc]
    rw [← hc] at a2
    exact sqC_ge hk' a2 (Or.inl rfl) (by omega)
