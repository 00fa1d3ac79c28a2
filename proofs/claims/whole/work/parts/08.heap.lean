/-! RULES THAT READ AND WRITE CELLS -/
/-- at o, o + 1 .. stand the cells cs -/
def Blk (n : Nat) (h : PH) (o : Nat) (cs : List PC) : Prop := o + cs.length ≤ n ∧ ∀ (j : Nat) (c : PC), cs[j]? = some c → h (o + j) = c
theorem Blk.lt {n : Nat} {h : PH} {o : Nat} {cs : List PC} (H : Blk n h o cs) {j : Nat} {c : PC} (hj : cs[j]? = some c) : o + j < n := by
  have := (List.getElem?_eq_some_iff.mp hj).1
  have := H.1
  omega
theorem Blk.ws {n : Nat} {h : PH} {o : Nat} {cs : List PC} (H : Blk n h o cs) {j : Nat} {c : PC} (hj : cs[j]? = some c) (B : Nat) (K : Nat → ClassId) : (wsO B K n h)[o + j]? = some (B + (o + j), te B K c) := by
  rw [wsO_get (H.lt hj), H.2 j c hj]
/-- a cell of the block is written -/
theorem Blk.set {n : Nat} {h : PH} {o : Nat} {cs : List PC} (H : Blk n h o cs) {j : Nat} (hj : j < cs.length) (c : PC) : Blk n (hp h (o + j) c) o (cs.set j c) := by
  refine ⟨by rw [List.length_set]; exact H.1, fun i x hi => ?_⟩
  by_cases e : i = j
  · subst e
    rw [List.getElem?_set_self hj] at hi
    rw [hp_eq]
    exact Option.some.inj hi
  · rw [List.getElem?_set_ne (Ne.symm e)] at hi
    rw [hp_ne (by omega)]
    exact H.2 i x hi
/-- a cell elsewhere is written -/
theorem Blk.off {n : Nat} {h : PH} {o : Nat} {cs : List PC} (H : Blk n h o cs) {k : Nat} {c : PC} (hk : k < o ∨ o + cs.length ≤ k) : Blk n (hp h k c) o cs := by
  refine ⟨H.1, fun i x hi => ?_⟩
  have := (List.getElem?_eq_some_iff.mp hi).1
  rw [hp_ne (by omega)]
  exact H.2 i x hi
/-- the same cells in another heap -/
theorem Blk.eqv {n n' : Nat} {h h' : PH} {o : Nat} {cs : List PC} (H : Blk n h o cs) (hn : n ≤ n') (he : ∀ k, o ≤ k → k < o + cs.length → h' k = h k) : Blk n' h' o cs := by
  refine ⟨Nat.le_trans H.1 hn, fun i x hi => ?_⟩
  have := (List.getElem?_eq_some_iff.mp hi).1
  rw [he (o + i) (by omega) (by omega)]
  exact H.2 i x hi
theorem HP_set {D : va_G} {B : Nat} {K : Nat → ClassId} {n : Nat} {h : PH} {H H1 : Heap} (hP : va_P D vwCl (wsO B K n h) H) {k : Nat} (hk : k < n) {c : PC} (he : va_at D vwCl (B + k, te B K c) H1) (oq : ∀ q : Nat, q ≠ B + k → H1[q]? = H[q]?) : va_P D vwCl (wsO B K n (hp h k c)) H1 := by
  have h1 := va_P.set (e := te B K c) hP wsO_D (wsO_get (h := h) hk) he oq
  rw [wsO_set c hk] at h1
  exact h1
/-- a field's link: in class own, the pool's place i is field q of class ci -/
def FLk (own : String) (i ci q : Nat) : Prop := ∃ (C : String) (T : u_T) (N : Nat), vwCl[ci]? = some (C, T, N) ∧ q < N ∧ (∀ w ∈ u_ws C T N, w ∈ TB) ∧ Cond.fieldLink own i (T q).1 (T q).2.1 (T q).2.2.1 ∈ TB
def FPk (own : String) (i ci q : Nat) (fin : Bool) (ty : FieldType) : Prop := ∃ (C : String) (T : u_T) (N : Nat) (ty0 : Nat → FieldType), vwCl[ci]? = some (C, T, N) ∧ q < N ∧ (∀ w ∈ u_ws C T N, w ∈ TB) ∧ Cond.fieldLink own i (T q).1 (T q).2.1 (T q).2.2.1 ∈ TB ∧
  (∀ k, k < N → parseFieldDescriptor (T k).2.2.1 = some (ty0 k)) ∧ (∀ a, a < N → ∀ b, b < N → a ≠ b → (T a).2.1 ≠ (T b).2.1) ∧ (T q).2.2.2 = fin ∧ parseFieldDescriptor (T q).2.2.1 = some ty ∧ (fin = true → (T q).1 = own)
/-- a value that a field of a type keeps as it is -/
def PT (ty : FieldType) (v : PV) : Prop := ∀ B, narrow ty (tv B v) = tv B v ∧ fits ty (tv B v) = true
theorem PT_int (z : Int) : PT .int (vI z) := fun _ => ⟨rfl, rfl⟩
theorem PT_long (z : Int) : PT .long (vJ z) := fun _ => ⟨rfl, rfl⟩
theorem PT_obj (C : String) (k : Nat) : PT (.object C) (vR k) := fun _ => ⟨rfl, rfl⟩
theorem PT_arr (t : FieldType) (k : Nat) : PT (.array t) (vR k) := fun _ => ⟨rfl, rfl⟩
theorem PT_bool {z : Int} (h : z = 0 ∨ z = 1) : PT .boolean (vI z) := by
  intro B
  rcases h with rfl | rfl
  · exact ⟨(by decide +kernel : narrow .boolean (.int (Int32.ofInt 0)) = .int (Int32.ofInt 0)), (by decide +kernel : fits .boolean (.int (Int32.ofInt 0)) = true)⟩
  · exact ⟨(by decide +kernel : narrow .boolean (.int (Int32.ofInt 1)) = .int (Int32.ofInt 1)), (by decide +kernel : fits .boolean (.int (Int32.ofInt 1)) = true)⟩
def upz (f : Nat → Int) (i : Nat) (x : Int) : Nat → Int := fun j => if j = i then x else f j
def upr (f : Nat → Option Nat) (i : Nat) (x : Option Nat) : Nat → Option Nat := fun j => if j = i then x else f j
section QHEAP
variable {M : MD} {d mc ms : Nat} {F : FT} {k u pc pc' : Nat} {L : List (Option PV)} {S : List PV} {a : Bool} {n : Nat} {h : PH}
theorem q_getf {i ci q o : Nat} {cs : List PC} {fs : List PV} {v : PV} (hf : FLk M.1 i ci q) (hdg : decode M.2.2.1 pc = .ok (.getfield i, 3)) (hB : Blk n h o cs) (j : Nat) (hj : cs[j]? = some (cO ci fs)) (hv : fs[q]? = some v) (hq : pc + 3 = pc') (kk : QW M d mc ms F k u pc' L (v :: S) a n h) : QW M d mc ms F k u pc L (vR (o + j) :: S) a n h := by
  subst hq
  intro p l e R s m args below meth c D B K X H locs ls O Hl HP Hs HS
  obtain ⟨C, T, N, h1, h2, h3, h4⟩ := hf
  exact va_get (D := D) (ci := ci) (v := tv B v) (fs := fs.map (tv B)) (C := C) (T := T) (N := N) O.1 O.2.1 O.2.2.2.2.2.1 h3 O.2.2.2.2.1 O.2.2.2.2.2.2.2.2.2.1.1 HP (o + j) (hB.ws hj B K) h1 q h2 (O.2.2.2.2.2.1 _ h4) (fun _ h9 => h9) (by rw [List.getElem?_map, hv]; rfl) hdg (kk p l e R s m args below meth c D B K X H locs ls O Hl HP Hs HS)
theorem q_putf {i ci q o : Nat} {ty : FieldType} {cs : List PC} {fs : List PV} {v : PV} (hf : FPk M.1 i ci q false ty) (hdg : decode M.2.2.1 pc = .ok (.putfield i, 3)) (hB : Blk n h o cs) (j : Nat) (hj : cs[j]? = some (cO ci fs)) (hl : q < fs.length) (ht : PT ty v) (hq : pc + 3 = pc') (kk : QW M d mc ms F k u pc' L S a n (hp h (o + j) (cO ci (fs.set q v)))) : QW M d mc ms F k u pc L (v :: vR (o + j) :: S) a n h := by
  subst hq
  intro p l e R s m args below meth c D B K X H locs ls O Hl HP Hs HS
  obtain ⟨C, T, N, ty0, hc, hk, hin, hlk, hty, hnm, hfin, hd, -⟩ := hf
  have hts := O.2.2.2.2.2.1
  have hK := O.2.2.2.2.2.2.2.2.2.1.1
  have hap := va_apart (own := M.1) hts hin ty0 hty hnm hK hc
  obtain ⟨r, h1, cell, q1, q2, q3, q4⟩ := HP (o + j) _ (hB.ws hj B K)
  have hr : r = (C, T, N) := Option.some.inj (h1.symm.trans hc)
  subst hr
  obtain ⟨hSl, hfc, kC, hkC, hkind⟩ := hK.1 ci _ hc
  obtain ⟨cf, kf, fi, f, hi, hsl⟩ := hSl q hk
  have hlay := hts _ (hin _ (u_in_lay hk))
  unfold u_lay at hlay
  rw [if_neg (by rw [hfin]; decide)] at hlay
  have hst := (u_facts hfc hkC (u_lays hts hin hk) hi).1
  have h6 := u_store hfc hkC hkind hlay hi hd (ht B).1 (ht B).2
  refine W.putK O.1 O.2.1 (f := f) ⟨O.2.2.2.2.1, hts _ hlk, ⟨_, _, _, hi⟩, hst⟩ (by rw [q2]; exact h6) q1 q3 (by rw [hsl]; exact k2_hasslot (q4 q hk)) rfl rfl hdg fun H' e1 e2 e3 => ?_
  rw [hsl] at e1
  refine kk p l e R s m args below meth c D B K X H' _ ls O Hl (HP_set HP (hB.lt hj) ⟨_, hc, t_OB.to (V := updV (vp_V (fs.map (tv B))) q (tv B v)) ⟨_, e1, q2, q3, t_set q4 hap hk (tv B v)⟩ (fun j _ => ?_)⟩ e3) (fun z => e2.trans (Hs z)) (HS.put e2 e3 (Nat.le_add_right B _))
  rw [vp_updV_set (by rw [List.length_map]; exact hl), ← List.map_set]
theorem q_putF {i ci q o : Nat} {ty : FieldType} {cs : List PC} {fs : List PV} {v : PV} (hf : FPk M.1 i ci q true ty) (hin2 : M.2.1.name = "<init>") (hdg : decode M.2.2.1 pc = .ok (.putfield i, 3)) (hB : Blk n h o cs) (j : Nat) (hj : cs[j]? = some (cO ci fs)) (hl : q < fs.length) (ht : PT ty v) (hq : pc + 3 = pc') (kk : QW M d mc ms F k u pc' L S a n (hp h (o + j) (cO ci (fs.set q v)))) : QW M d mc ms F k u pc L (v :: vR (o + j) :: S) a n h := by
  subst hq
  intro p l e R s m args below meth c D B K X H locs ls O Hl HP Hs HS
  obtain ⟨C, T, N, ty0, hc, hk, hin, hlk, hty, hnm, hfin, hd, hdecl⟩ := hf
  have hdecl := hdecl rfl
  have hts := O.2.2.2.2.2.1
  have hown := O.2.2.2.2.1
  have hK := O.2.2.2.2.2.2.2.2.2.1.1
  have hap := va_apart (own := M.1) hts hin ty0 hty hnm hK hc
  obtain ⟨r, h1, cell, q1, q2, q3, q4⟩ := HP (o + j) _ (hB.ws hj B K)
  have hr : r = (C, T, N) := Option.some.inj (h1.symm.trans hc)
  subst hr
  obtain ⟨hSl, hfc, kC, hkC, hkind⟩ := hK.1 ci _ hc
  obtain ⟨cf, kf, fi, f, hi, hsl⟩ := hSl q hk
  have hlay := hts _ (hin _ (u_in_lay hk))
  unfold u_lay at hlay
  rw [if_pos hfin] at hlay
  have hst := (u_facts hfc hkC (u_lays hts hin hk) hi).1
  have hcf : m.cls = cf := by
    obtain ⟨_, _, c', _, _, _, -, -, hf', -, -, -, hown2, -⟩ := Cond.laysFinal_spec hlay
    have e1 : c' = cf := by have := hi.symm.trans hf'; simp at this; exact this.1.symm
    rw [hdecl] at hown2
    rw [← e1]; exact Option.some.inj (hown.symm.trans hown2)
  have h6 := u_fits hfc hkC hkind (Or.inr hlay) hi hd (ht B).1 (ht B).2
  refine W.putFinK O.1 O.2.1 hown (hts _ hlk) hi hst hcf (O.2.2.2.2.2.2.2.1.trans hin2) (by rw [q2]; exact h6) q1 q3 (by rw [hsl]; exact k2_hasslot (q4 q hk)) rfl rfl hdg fun H' e1 e2 e3 => ?_
  rw [hsl] at e1
  refine kk p l e R s m args below meth c D B K X H' _ ls O Hl (HP_set HP (hB.lt hj) ⟨_, hc, t_OB.to (V := updV (vp_V (fs.map (tv B))) q (tv B v)) ⟨_, e1, q2, q3, t_set q4 hap hk (tv B v)⟩ (fun j _ => ?_)⟩ e3) (fun z => e2.trans (Hs z)) (HS.put e2 e3 (Nat.le_add_right B _))
  rw [vp_updV_set (by rw [List.length_map]; exact hl), ← List.map_set]
theorem o32_idx {x : Int} {i N : Nat} (hx : x = (i : Int)) (hi : i < N) (hM : i ≤ 2147483647) : vp_in (Int32.ofInt x) N ∧ (Int32.ofInt x).toNatClampNeg = i := by
  subst hx
  exact ⟨o32_in (by omega) (by omega) (by omega), by rw [o32_nat (by omega)]; rfl⟩
theorem q_iald {o N : Nat} {x : Int} {f : Nat → Int} {cs : List PC} (hdg : decode M.2.2.1 pc = .ok (.iaload, 1)) (hB : Blk n h o cs) (j : Nat) (hj : cs[j]? = some (cI N f)) (i : Nat) (hx : x = (i : Int)) (hi : i < N) (hM : i ≤ 2147483647) (hq : pc + 1 = pc') (kk : QW M d mc ms F k u pc' L (vI (f i) :: S) a n h) : QW M d mc ms F k u pc L (vI x :: vR (o + j) :: S) a n h := by
  subst hq
  intro p l e R s m args below meth c D B K X H locs ls O Hl HP Hs HS
  obtain ⟨h1, h2⟩ := o32_idx hx hi hM
  refine va_iald O.1 O.2.1 O.2.2.2.2.2.2.2.2.2.1.1 HP (o + j) 0 (hB.ws hj B K) rfl h1 hdg ?_
  rw [h2]
  exact kk p l e R s m args below meth c D B K X H locs ls O Hl HP Hs HS
theorem q_lald {o N : Nat} {x : Int} {f : Nat → Int} {cs : List PC} (hdg : decode M.2.2.1 pc = .ok (.laload, 1)) (hB : Blk n h o cs) (j : Nat) (hj : cs[j]? = some (cJ N f)) (i : Nat) (hx : x = (i : Int)) (hi : i < N) (hM : i ≤ 2147483647) (hq : pc + 1 = pc') (kk : QW M d mc ms F k u pc' L (vJ (f i) :: S) a n h) : QW M d mc ms F k u pc L (vI x :: vR (o + j) :: S) a n h := by
  subst hq
  intro p l e R s m args below meth c D B K X H locs ls O Hl HP Hs HS
  obtain ⟨h1, h2⟩ := o32_idx hx hi hM
  refine va_lald O.1 O.2.1 O.2.2.2.2.2.2.2.2.2.1.1 HP (o + j) 1 (hB.ws hj B K) rfl h1 hdg ?_
  rw [h2]
  exact kk p l e R s m args below meth c D B K X H locs ls O Hl HP Hs HS
theorem q_iast {o N : Nat} {x y : Int} {f : Nat → Int} {cs : List PC} (hdg : decode M.2.2.1 pc = .ok (.iastore, 1)) (hB : Blk n h o cs) (j : Nat) (hj : cs[j]? = some (cI N f)) (i : Nat) (hx : x = (i : Int)) (hi : i < N) (hM : i ≤ 2147483647) (hq : pc + 1 = pc') (kk : QW M d mc ms F k u pc' L S a n (hp h (o + j) (cI N (upz f i y)))) : QW M d mc ms F k u pc L (vI y :: vI x :: vR (o + j) :: S) a n h := by
  subst hq
  intro p l e R s m args below meth c D B K X H locs ls O Hl HP Hs HS
  obtain ⟨h1, h2⟩ := o32_idx hx hi hM
  have hK := O.2.2.2.2.2.2.2.2.2.1.1
  refine W.iast O.1 O.2.1 (HP (o + j) _ (hB.ws hj B K)) ((hK.2 0 _ rfl).1 N (fun j => .int (Int32.ofInt (f j)))) (fun q => by cases q) (by show ¬ (_ ∨ (arrV _ _ _).slots.size ≤ _); rw [arrV_size]; exact h1) rfl rfl hdg fun H1 e1 z oq => ?_
  refine kk p l e R s m args below meth c D B K X H1 _ ls O Hl (HP_set HP (hB.lt hj) ?_ oq) (fun y => z.trans (Hs y)) (HS.put z oq (Nat.le_add_right B _))
  show H1[_]? = some (vp_cell _ _)
  rw [e1, h2]
  show some ((vp_cell (K 0) (N, .inl fun j => Int32.ofInt (f j))).setSlot _ _) = _
  rw [vp_cell_i, vp_cell_i, arrV_store]
  congr 2
  funext q
  by_cases hq : q = i
  · subst hq
    simp [updV, upz]
  · simp [updV, upz, hq]
theorem q_last {o N : Nat} {x y : Int} {f : Nat → Int} {cs : List PC} (hdg : decode M.2.2.1 pc = .ok (.lastore, 1)) (hB : Blk n h o cs) (j : Nat) (hj : cs[j]? = some (cJ N f)) (i : Nat) (hx : x = (i : Int)) (hi : i < N) (hM : i ≤ 2147483647) (hq : pc + 1 = pc') (kk : QW M d mc ms F k u pc' L S a n (hp h (o + j) (cJ N (upz f i y)))) : QW M d mc ms F k u pc L (vJ y :: vI x :: vR (o + j) :: S) a n h := by
  subst hq
  intro p l e R s m args below meth c D B K X H locs ls O Hl HP Hs HS
  obtain ⟨h1, h2⟩ := o32_idx hx hi hM
  have hK := O.2.2.2.2.2.2.2.2.2.1.1
  refine W.last O.1 O.2.1 (HP (o + j) _ (hB.ws hj B K)) ((hK.2 1 _ rfl).1 N (fun j => .long (Int64.ofInt (f j)))) (fun q => by cases q) (by show ¬ (_ ∨ (arrV _ _ _).slots.size ≤ _); rw [arrV_size]; exact h1) rfl rfl hdg fun H1 e1 z oq => ?_
  refine kk p l e R s m args below meth c D B K X H1 _ ls O Hl (HP_set HP (hB.lt hj) ?_ oq) (fun y => z.trans (Hs y)) (HS.put z oq (Nat.le_add_right B _))
  show H1[_]? = some (vp_cell _ _)
  rw [e1, h2]
  show some ((vp_cell (K 1) (N, .inr (.inl fun j => Int64.ofInt (f j)))).setSlot _ _) = _
  rw [vp_cell_l, vp_cell_l, arrV_store]
  congr 2
  funext q
  by_cases hq : q = i
  · subst hq
    simp [updV, upz]
  · simp [updV, upz, hq]
theorem q_aald0 {o N r : Nat} {x : Int} {f : Nat → Option Nat} {cs : List PC} (hdg : decode M.2.2.1 pc = .ok (.aaload, 1)) (hB : Blk n h o cs) (j : Nat) (hj : cs[j]? = some (cR 0 N f)) (i : Nat) (hx : x = (i : Int)) (hi : i < N) (hM : i ≤ 2147483647) (hr : f i = some r) (hq : pc + 1 = pc') (kk : QW M d mc ms F k u pc' L (vR r :: S) a n h) : QW M d mc ms F k u pc L (vI x :: vR (o + j) :: S) a n h := by
  subst hq
  intro p l e R s m args below meth c D B K X H locs ls O Hl HP Hs HS
  obtain ⟨h1, h2⟩ := o32_idx hx hi hM
  refine va_aldq O.1 O.2.1 O.2.2.2.2.2.2.2.2.2.1.1 HP (o + j) 2 (hB.ws hj B K) rfl h1 hdg ?_
  rw [h2, hr]
  exact kk p l e R s m args below meth c D B K X H locs ls O Hl HP Hs HS
theorem q_aald1 {o N r : Nat} {x : Int} {f : Nat → Option Nat} {cs : List PC} (hdg : decode M.2.2.1 pc = .ok (.aaload, 1)) (hB : Blk n h o cs) (j : Nat) (hj : cs[j]? = some (cR 1 N f)) (i : Nat) (hx : x = (i : Int)) (hi : i < N) (hM : i ≤ 2147483647) (hr : f i = some r) (hq : pc + 1 = pc') (kk : QW M d mc ms F k u pc' L (vR r :: S) a n h) : QW M d mc ms F k u pc L (vI x :: vR (o + j) :: S) a n h := by
  subst hq
  intro p l e R s m args below meth c D B K X H locs ls O Hl HP Hs HS
  obtain ⟨h1, h2⟩ := o32_idx hx hi hM
  have hK := O.2.2.2.2.2.2.2.2.2.1.1
  refine W.aald (v := va_rf ((f i).map (fun i => B + i))) (ty := .array .int) O.1 O.2.1 (HP (o + j) _ (hB.ws hj B K)) ((hK.2 3 _ rfl).1 N (fun j => va_rf ((f j).map (fun i => B + i)))) rfl (fun q => by cases q) (by show ¬ (_ ∨ (arrV _ _ _).slots.size ≤ _); rw [arrV_size]; exact h1) (by show (arrV _ _ _).slots[_]? = _; rw [h2, arrV_read _ _ hi]) rfl rfl hdg ?_
  rw [hr]
  exact kk p l e R s m args below meth c D B K X H locs ls O Hl HP Hs HS
theorem q_aast {o N r : Nat} {x : Int} {f : Nat → Option Nat} {cs cs2 : List PC} {fs : List PV} {o2 : Nat} (hdg : decode M.2.2.1 pc = .ok (.aastore, 1)) (hB : Blk n h o cs) (j : Nat) (hj : cs[j]? = some (cR 0 N f)) (i : Nat) (hx : x = (i : Int)) (hi : i < N) (hM : i ≤ 2147483647) (hB2 : Blk n h o2 cs2) (j2 : Nat) (hj2 : cs2[j2]? = some (cO 3 fs)) (hr : o2 + j2 = r) (hq : pc + 1 = pc') (kk : QW M d mc ms F k u pc' L S a n (hp h (o + j) (cR 0 N (upr f i (some r))))) : QW M d mc ms F k u pc L (vR r :: vI x :: vR (o + j) :: S) a n h := by
  subst hq
  subst hr
  intro p l e R s m args below meth c D B K X H locs ls O Hl HP Hs HS
  obtain ⟨h1, h2⟩ := o32_idx hx hi hM
  have hK := O.2.2.2.2.2.2.2.2.2.1.1
  have h0 : ¬ Int32.ofInt x < 0 := fun q => h1 (Or.inl q)
  obtain ⟨r', hr', cellV, g1, g2, g3, -⟩ := HP (o2 + j2) _ (hB2.ws hj2 B K)
  have hcls := (hK.1 3 _ rfl).2
  obtain ⟨kA, comp, k1, k2, k3, -⟩ := (hK.2 2 _ rfl).2
  have hcomp : comp = D.1 3 := Option.some.inj (k3.symm.trans hcls.1)
  subst hcomp
  obtain ⟨kC, hkC, -⟩ := hcls.2
  refine W.aast O.1 O.2.1 (HP (o + j) _ (hB.ws hj B K)) (fun q h => by cases h) (fun h => by cases h) k1 k2 rfl hkC ⟨h0, by show _ < (arrV _ _ _).slots.size; rw [arrV_size, h2]; exact hi⟩ g1 (fun q h => by rw [g3] at h; cases h) (by rw [g2]; exact hkC) (by rw [g2]; exact va_assign hcls) rfl rfl hdg fun H1 e1 z oq => ?_
  refine kk p l e R s m args below meth c D B K X H1 _ ls O Hl (HP_set HP (hB.lt hj) ?_ oq) (fun y => z.trans (Hs y)) (HS.put z oq (Nat.le_add_right B _))
  show H1[_]? = some (vp_cell _ _)
  rw [e1, h2]
  show some ((vp_cell (K 2) (N, .inr (.inr (.inr (.inr (fun j => (f j).map (fun i => B + i))))))).setSlot _ _) = _
  rw [vp_cell_q, vp_cell_q, arrV_store]
  congr 2
  funext q
  by_cases hq : q = i
  · subst hq
    simp [updV, upr, va_rf]
  · simp [updV, upr, hq]
theorem q_alen {o N : Nat} {f : Nat → Int} {cs : List PC} (hdg : decode M.2.2.1 pc = .ok (.arraylength, 1)) (hB : Blk n h o cs) (j : Nat) (hj : cs[j]? = some (cI N f)) (hq : pc + 1 = pc') (kk : QW M d mc ms F k u pc' L (vI (N : Int) :: S) a n h) : QW M d mc ms F k u pc L (vR (o + j) :: S) a n h := by
  subst hq
  intro p l e R s m args below meth c D B K X H locs ls O Hl HP Hs HS
  exact va_alen O.1 O.2.1 O.2.2.2.2.2.2.2.2.2.1.1 HP (o + j) 0 (hB.ws hj B K) (ty := .int) rfl (v := Int32.ofInt (N : Int)) (o32_ofNat N).symm hdg (kk p l e R s m args below meth c D B K X H locs ls O Hl HP Hs HS)
/-! RETURNS -/
theorem q_iret {x : Int} {post : Option PV → Nat → PH → Prop} (hr : M.2.2.2.2.1 = some .int) (hdg : decode M.2.2.1 pc = .ok (.ireturn, 1)) (hk : k ≤ mc) (hu : u ≤ ms) (hp : post (some (vI x)) n h) : QW M d mc ms (FR a mc ms post) k u pc L [vI x] a n h := by
  intro p l e R s m args below meth c D B K X H locs ls O Hl HP Hs HS
  refine W.widen hk hu ?_
  exact W.iret O.1 O.2.1 (O.2.2.1.trans hr) (fun t ht hW => ⟨some (vI x), n, h, rfl, hp, by rw [ht]; exact HP, fun z => by rw [ht]; exact Hs z, HS.F ht⟩) HS.2.2 hdg O.2.2.2.2.2.2.1
theorem q_zret {x : Int} {post : Option PV → Nat → PH → Prop} (hr : M.2.2.2.2.1 = some .boolean) (hx : x = 0 ∨ x = 1) (hdg : decode M.2.2.1 pc = .ok (.ireturn, 1)) (hk : k ≤ mc) (hu : u ≤ ms) (hp : post (some (vI x)) n h) : QW M d mc ms (FR a mc ms post) k u pc L [vI x] a n h := by
  intro p l e R s m args below meth c D B K X H locs ls O Hl HP Hs HS
  refine W.widen hk hu ?_
  exact W.zret O.1 O.2.1 (O.2.2.1.trans hr) ((PT_bool hx B).1) (fun t ht hW => ⟨some (vI x), n, h, rfl, hp, by rw [ht]; exact HP, fun z => by rw [ht]; exact Hs z, HS.F ht⟩) HS.2.2 hdg O.2.2.2.2.2.2.1
theorem q_lret {x : Int} {post : Option PV → Nat → PH → Prop} (hr : M.2.2.2.2.1 = some .long) (hdg : decode M.2.2.1 pc = .ok (.lreturn, 1)) (hk : k ≤ mc) (hu : u ≤ ms) (hp : post (some (vJ x)) n h) : QW M d mc ms (FR a mc ms post) k u pc L [vJ x] a n h := by
  intro p l e R s m args below meth c D B K X H locs ls O Hl HP Hs HS
  refine W.widen hk hu ?_
  exact W.lret O.1 O.2.1 (O.2.2.1.trans hr) (fun t ht hW => ⟨some (vJ x), n, h, rfl, hp, by rw [ht]; exact HP, fun z => by rw [ht]; exact Hs z, HS.F ht⟩) HS.2.2 hdg O.2.2.2.2.2.2.1
theorem q_vret {post : Option PV → Nat → PH → Prop} (hr : M.2.2.2.2.1 = none) (hdg : decode M.2.2.1 pc = .ok (.return_, 1)) (hk : k ≤ mc) (hu : u ≤ ms) (hp : post none n h) : QW M d mc ms (FR a mc ms post) k u pc L [] a n h := by
  intro p l e R s m args below meth c D B K X H locs ls O Hl HP Hs HS
  refine W.widen hk hu ?_
  exact W.vret O.1 O.2.1 (O.2.2.1.trans hr) (fun t ht hW => ⟨none, n, h, rfl, hp, by rw [ht]; exact HP, fun z => by rw [ht]; exact Hs z, HS.F ht⟩) HS.2.2 hdg O.2.2.2.2.2.2.1
end QHEAP
