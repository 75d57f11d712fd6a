/-! the reference's working out of a term (own text) -/
abbrev wS : Type := Nat × (Nat → Int32) × (Nat → Int32)
def jI (w : Nat) (s x v : Int32) : Int32 := (if s = nI 43 then x + v else if s = nI 45 then x - v else if s = nI 42 then x * v else if s = nI 38 then x &&& v else if s = nI 94 then x ^^^ v else v) &&& nI (2 ^ w - 1)
def stW (w q : Nat) (ch : Int32) (a : wS) : wS :=
  if ch = nI 40 then (a.1 + 1, a.2.1, upd a.2.2 (a.1 + 1) (nI 0)) else if ch = nI 41 then (a.1 - 1, upd a.2.1 (a.1 - 1) (jI w (a.2.2 (a.1 - 1)) (a.2.1 (a.1 - 1)) (a.2.1 a.1)), a.2.2)
  else if isOp ch = true then (a.1, a.2.1, upd a.2.2 a.1 ch) else (a.1, upd a.2.1 a.1 (jI w (a.2.2 a.1) (a.2.1 a.1) (nI (leafV w q ch))), a.2.2)
def rnW (w q : Nat) (f : Nat → Int32) : Nat → Nat → wS → wS → Prop
  | 0, _, a, b => a = b
  | m + 1, i, a, b => ((f i = nI 40 ∧ a.1 < 4) ∨ (f i = nI 41 ∧ 0 < a.1) ∨ isOp (f i) = true ∨ isDig (f i) = true ∨ isVar (f i) = true) ∧ rnW w q f m (i + 1) (stW w q (f i) a) b
theorem rnW_add {w q : Nat} {f : Nat → Int32} : ∀ (m k i : Nat) (a b c : wS), rnW w q f m i a b → rnW w q f k (i + m) b c → rnW w q f (m + k) i a c
  | 0, k, i, a, b, c, h1, h2 => by
    have h1 : a = b := h1
    subst h1
    rw [Nat.zero_add]
    exact h2
  | m + 1, k, i, a, b, c, h1, h2 => by
    rw [show m + 1 + k = (m + k) + 1 by omega]
    refine ⟨h1.1, rnW_add m k (i + 1) _ b c h1.2 ?_⟩
    rw [show i + 1 + m = i + (m + 1) by omega]
    exact h2
theorem upd_at {f : Nat → Int32} {k : Nat} {v : Int32} : upd f k v k = v := by simp [upd]
theorem upd_ne {f : Nat → Int32} {k j : Nat} {v : Int32} (h : ¬ j = k) : upd f k v j = f j := by simp [upd, h]
theorem jI_op {w a b : Nat} (hw : w < 4) (h0 : 0 < w) (ha : a < 2 ^ w) (hb : b < 2 ^ w) {ch : Int32} (h : isOp ch = true) : jI w ch (nI a) (nI b) = nI (opV w ch a b) := by
  rw [← cmb_mask hw h0 ha hb ch]
  unfold jI cmb
  unfold isOp at h
  simp only [Bool.or_eq_true, decide_eq_true_eq] at h
  congr 1
  by_cases c1 : ch = nI 43
  · rw [if_pos c1, if_pos c1]
  · rw [if_neg c1, if_neg c1]
    by_cases c2 : ch = nI 45
    · rw [if_pos c2, if_pos c2]
    · rw [if_neg c2, if_neg c2]
      by_cases c3 : ch = nI 42
      · rw [if_pos c3, if_pos c3]
      · rw [if_neg c3, if_neg c3]
        by_cases c4 : ch = nI 38
        · rw [if_pos c4, if_pos c4]
        · rw [if_neg c4, if_neg c4]
          by_cases c5 : ch = nI 94
          · rw [if_pos c5, if_pos c5]
          · rcases h with (((h | h) | h) | h) | h
            · exact absurd h c1
            · exact absurd h c2
            · exact absurd h c3
            · exact absurd h c4
            · exact absurd h c5
theorem jI_0 {w v : Nat} (hw : w < 4) (hv : v < 2 ^ w) (x : Int32) : jI w (nI 0) x (nI v) = nI v := by
  have h8 : v < 8 := Nat.lt_of_lt_of_le hv (pu_p8 w hw)
  unfold jI
  rw [if_neg (by decide), if_neg (by decide), if_neg (by decide), if_neg (by decide), if_neg (by decide), pk_andN (Nat.lt_trans h8 (by decide)) w (pu_mask w hw), Nat.mod_eq_of_lt hv]
/-- a part worked out at the depth d -/
def WP (w q n : Nat) (f : Nat → Int32) (d : Nat) (s r : pS) : Prop := ∃ (tail : List Int32) (v : Nat), r.2 = s.2 ++ tail ∧ tail.length + s.1 ≤ r.1 ∧ s.1 < r.1 ∧ r.1 ≤ n ∧ v < 2 ^ w ∧ (∀ st, evC w q tail st = v :: st) ∧ ∀ (V O : Nat → Int32), ∃ V' O', rnW w q f (r.1 - s.1) s.1 (d, V, O) (d, V', O') ∧ (∀ j, j < d → V' j = V j ∧ O' j = O j) ∧ O' d = O d ∧ V' d = jI w (O d) (V d) (nI v)
/-- a term worked out at the depth d -/
def WQ (w q n : Nat) (f : Nat → Int32) (d : Nat) (s r : pS) : Prop := ∃ (tail : List Int32) (v : Nat), r.2 = s.2 ++ tail ∧ tail.length + s.1 ≤ r.1 ∧ s.1 < r.1 ∧ r.1 ≤ n ∧ v < 2 ^ w ∧ (∀ st, evC w q tail st = v :: st) ∧ ∀ (V O : Nat → Int32), O d = nI 0 → ∃ V' O', rnW w q f (r.1 - s.1) s.1 (d, V, O) (d, V', O') ∧ (∀ j, j < d → V' j = V j ∧ O' j = O j) ∧ V' d = nI v
section
variable {w q n : Nat} {f : Nat → Int32}
theorem ln_f {i : Nat} (h : i < n) : lnAt n f i = f i := by unfold lnAt; rw [if_pos h]
theorem leaf_no {ch : Int32} (h : isVar ch = true ∨ isDig ch = true) : ¬ ch = nI 40 ∧ ¬ ch = nI 41 ∧ ¬ isOp ch = true := by
  refine ⟨fun z => ?_, fun z => ?_, fun z => ?_⟩
  · subst z; rcases h with h | h <;> exact absurd h (by decide)
  · subst z; rcases h with h | h <;> exact absurd h (by decide)
  · obtain ⟨h1, h2⟩ := isOp_not z
    rcases h with h | h
    · rw [h1] at h; cases h
    · rw [h2] at h; cases h
theorem op_no {ch : Int32} (h : isOp ch = true) : ¬ ch = nI 40 ∧ ¬ ch = nI 41 := by
  refine ⟨fun z => ?_, fun z => ?_⟩ <;> (subst z; exact absurd h (by decide))
theorem WP.leaf (hn : n ≤ 24) {d : Nat} {s : pS} (hs : s.2.length ≤ s.1) (h : ptLeaf n f s = true) : WP w q n f d s (s.1 + 1, addC (lnAt n f s.1) s.2) := by
  have hlt : s.1 < n := lnAt_lt (fun z => by
    unfold ptLeaf at h
    rw [z, isVar0, isDig0] at h
    cases h)
  unfold ptLeaf at h
  rw [ln_f hlt] at h ⊢
  have h2 : isVar (f s.1) = true ∨ isDig (f s.1) = true := by simpa using h
  obtain ⟨c1, c2, c3⟩ := leaf_no h2
  refine ⟨[f s.1], leafV w q (f s.1), ?_, by simp; omega, Nat.lt_succ_self _, hlt, leafV_lt _, fun st => ?_, fun V O => ⟨upd V d (jI w (O d) (V d) (nI (leafV w q (f s.1)))), O, ?_, fun j hj => ⟨upd_ne (by omega), rfl⟩, rfl, upd_at⟩⟩
  · show addC _ _ = _
    unfold addC
    rw [if_pos (by omega)]
  · show evS w q _ st = _
    unfold evS
    rw [if_pos h2]
  · rw [show (s.1 + 1, addC (f s.1) s.2).1 - s.1 = 0 + 1 from by show s.1 + 1 - s.1 = 0 + 1; omega]
    refine ⟨Or.inr (Or.inr (Or.inr h2.symm)), ?_⟩
    unfold stW
    rw [if_neg c1, if_neg c2, if_neg c3]
    rfl
theorem WP.term (hw : w < 4) {d : Nat} {s r : pS} (h : WP w q n f d s r) : WQ w q n f d s r := by
  obtain ⟨tail, v, a1, a2, a3, a4, a5, a6, a7⟩ := h
  refine ⟨tail, v, a1, a2, a3, a4, a5, a6, fun V O hO => ?_⟩
  obtain ⟨V', O', b1, b2, b3, b4⟩ := a7 V O
  exact ⟨V', O', b1, b2, by rw [b4, hO, jI_0 hw a5]⟩
theorem WQ.op (hw : w < 4) (h0 : 0 < w) (hn : n ≤ 24) {d : Nat} {s s1 s2 : pS} (hs : s.2.length ≤ s.1) (h1 : WQ w q n f d s s1) (hop : isOp (lnAt n f s1.1) = true) (h2 : WP w q n f d (s1.1 + 1, s1.2) s2) : WQ w q n f d s (s2.1, addC (lnAt n f s1.1) s2.2) := by
  have hlt : s1.1 < n := op_lt hop
  rw [ln_f hlt] at hop ⊢
  obtain ⟨t1, v1, a1, a2, a3, a4, a5, a6, a7⟩ := h1
  obtain ⟨t2, v2, b1, b2, b3, b4, b5, b6, b7⟩ := h2
  have b1 : s2.2 = s1.2 ++ t2 := b1
  have b2 : t2.length + (s1.1 + 1) ≤ s2.1 := b2
  have b3 : s1.1 + 1 < s2.1 := b3
  have e : s2.2 = s.2 ++ (t1 ++ t2) := by rw [b1, a1, List.append_assoc]
  obtain ⟨c1, c2⟩ := op_no hop
  refine ⟨t1 ++ t2 ++ [f s1.1], opV w (f s1.1) v1 v2, ?_, by simp; omega, by show s.1 < s2.1; omega, b4, opV_lt hw h0 a5 b5 _, fun st => by rw [evC_app, evC_app, a6, b6, evS_op (isOp_not hop)], fun V O hO => ?_⟩
  · show addC _ s2.2 = _
    unfold addC
    rw [e, if_pos (by simp; omega), List.append_assoc, List.append_assoc]
  · obtain ⟨V1, O1, x1, x2, x3⟩ := a7 V O hO
    obtain ⟨V2, O2, y1, y2, y3, y4⟩ := b7 V1 (upd O1 d (f s1.1))
    have y1 : rnW w q f (s2.1 - (s1.1 + 1)) (s1.1 + 1) (d, V1, upd O1 d (f s1.1)) (d, V2, O2) := y1
    refine ⟨V2, O2, ?_, fun j hj => ⟨by rw [(y2 j hj).1, (x2 j hj).1], by rw [(y2 j hj).2, upd_ne (by omega), (x2 j hj).2]⟩, ?_⟩
    · show rnW w q f (s2.1 - s.1) s.1 _ _
      rw [show s2.1 - s.1 = (s1.1 - s.1) + ((s2.1 - (s1.1 + 1)) + 1) by omega]
      refine rnW_add _ _ _ _ _ _ x1 ?_
      rw [show s.1 + (s1.1 - s.1) = s1.1 by omega]
      refine ⟨Or.inr (Or.inr (Or.inl hop)), ?_⟩
      unfold stW
      rw [if_neg c1, if_neg c2, if_pos hop]
      exact y1
    · rw [y4, upd_at, x3, jI_op hw h0 a5 b5 hop]
theorem WQ.len {d : Nat} {s r : pS} (h : WQ w q n f d s r) (hs : s.2.length ≤ s.1) : r.2.length ≤ r.1 := by
  obtain ⟨t, v, a1, a2, -⟩ := h
  rw [a1]
  simp
  omega
theorem wLoop_ok (hw : w < 4) (h0 : 0 < w) (hn : n ≤ 24) {d : Nat} {part : pS → Bool × pS} (hp : ∀ s : pS, s.2.length ≤ s.1 → (part s).1 = true → WP w q n f d s (part s).2) {s0 : pS} (hs0 : s0.2.length ≤ s0.1) : ∀ (k : Nat) (s : pS), WQ w q n f d s0 s → (ptLoop n f part k s).1 = true → WQ w q n f d s0 (ptLoop n f part k s).2 := by
  intro k
  induction k with
  | zero => intro s h _; exact h
  | succ k ih =>
    intro s h hr
    rw [ptLoop] at hr ⊢
    by_cases e : isOp (lnAt n f s.1) = true
    · rw [if_pos e] at hr ⊢
      by_cases e2 : (part (s.1 + 1, s.2)).1 = true
      · rw [if_pos e2] at hr ⊢
        have hl := h.len hs0
        exact ih _ (h.op hw h0 hn hs0 e (hp (s.1 + 1, s.2) (by show s.2.length ≤ s.1 + 1; omega) e2)) hr
      · rw [if_neg e2] at hr
        cases hr
    · rw [if_neg e] at hr ⊢
      exact h
theorem wTerm_ok (hw : w < 4) (h0 : 0 < w) (hn : n ≤ 24) {d : Nat} {part : pS → Bool × pS} (hp : ∀ s : pS, s.2.length ≤ s.1 → (part s).1 = true → WP w q n f d s (part s).2) (s : pS) (hs : s.2.length ≤ s.1) (h : (ptTerm n f part s).1 = true) : WQ w q n f d s (ptTerm n f part s).2 := by
  unfold ptTerm at h ⊢
  by_cases e : (part s).1 = true
  · rw [if_pos e] at h ⊢
    exact wLoop_ok hw h0 hn hp hs 24 _ ((hp s hs e).term hw) h
  · rw [if_neg e] at h
    cases h
theorem wPart_ok (hw : w < 4) (h0 : 0 < w) (hn : n ≤ 24) : ∀ (k d : Nat), d + k = 4 → ∀ s : pS, s.2.length ≤ s.1 → (ptPart n f k s).1 = true → WP w q n f d s (ptPart n f k s).2 := by
  intro k
  induction k with
  | zero =>
    intro d hd s hs h
    rw [ptPart] at h ⊢
    by_cases e : ptLeaf n f s = true
    · rw [if_pos e]; exact WP.leaf hn hs e
    · rw [if_neg e] at h; cases h
  | succ k ih =>
    intro d hd s hs h
    rw [ptPart] at h ⊢
    by_cases e : ptLeaf n f s = true
    · rw [if_pos e]; exact WP.leaf hn hs e
    · rw [if_neg e] at h ⊢
      by_cases e2 : lnAt n f s.1 = nI 40
      · rw [if_pos e2] at h ⊢
        by_cases e3 : (ptTerm n f (ptPart n f k) (s.1 + 1, s.2)).1 = true ∧ lnAt n f (ptTerm n f (ptPart n f k) (s.1 + 1, s.2)).2.1 = nI 41
        · rw [if_pos e3]
          have ht := wTerm_ok (q := q) hw h0 hn (ih (d + 1) (by omega)) (s.1 + 1, s.2) (by show s.2.length ≤ s.1 + 1; omega) e3.1
          have e4 := e3.2
          generalize (ptTerm n f (ptPart n f k) (s.1 + 1, s.2)).2 = r at ht e4 ⊢
          obtain ⟨tail, v, a1, a2, a3, a4, a5, a6, a7⟩ := ht
          have a2 : tail.length + (s.1 + 1) ≤ r.1 := a2
          have a3 : s.1 + 1 < r.1 := a3
          have hl1 : s.1 < n := by omega
          have hl2 : r.1 < n := lnAt_lt (by rw [e4]; decide)
          rw [ln_f hl1] at e2
          rw [ln_f hl2] at e4
          refine ⟨tail, v, a1, by show tail.length + s.1 ≤ r.1 + 1; omega, by show s.1 < r.1 + 1; omega, hl2, a5, a6, fun V O => ?_⟩
          obtain ⟨V1, O1, x1, x2, x3⟩ := a7 V (upd O (d + 1) (nI 0)) upd_at
          have x1 : rnW w q f (r.1 - (s.1 + 1)) (s.1 + 1) (d + 1, V, upd O (d + 1) (nI 0)) (d + 1, V1, O1) := x1
          have xd := x2 d (Nat.lt_succ_self d)
          rw [upd_ne (by omega)] at xd
          refine ⟨upd V1 d (jI w (O1 d) (V1 d) (V1 (d + 1))), O1, ?_, fun j hj => ?_, xd.2, by rw [upd_at, xd.1, xd.2, x3]⟩
          · show rnW w q f (r.1 + 1 - s.1) s.1 _ _
            rw [show r.1 + 1 - s.1 = ((r.1 - (s.1 + 1)) + 1) + 1 by omega]
            refine ⟨Or.inl ⟨e2, by show d < 4; omega⟩, ?_⟩
            unfold stW
            rw [if_pos e2]
            refine rnW_add _ _ _ _ _ _ x1 ?_
            rw [show s.1 + 1 + (r.1 - (s.1 + 1)) = r.1 by omega]
            refine ⟨Or.inr (Or.inl ⟨e4, Nat.succ_pos d⟩), ?_⟩
            unfold stW
            rw [if_neg (by rw [e4]; decide), if_pos e4]
            rfl
          · have := x2 j (by omega)
            rw [upd_ne (by omega)] at this
            exact ⟨by rw [upd_ne (by omega)]; exact this.1, this.2⟩
        · rw [if_neg e3] at h; cases h
      · rw [if_neg e2] at h; cases h
theorem wq_ok (hw : w < 4) (h0 : 0 < w) (hn : n ≤ 24) (s : pS) (hs : s.2.length ≤ s.1) (h : (ptTerm n f (ptPart n f 4) s).1 = true) : WQ w q n f 0 s (ptTerm n f (ptPart n f 4) s).2 := wTerm_ok hw h0 hn (wPart_ok hw h0 hn 4 0 rfl) s hs h
end
section
variable {l : Launch} {D : va_G} {ca : Nat → ClassId} {ks : List Nat} {lay : Nat → gxE} {ad : Nat → Nat} {F : Nat → Nat → Int32} {L : Nat → Nat → Int64} {N w n : Nat}
theorem c_Mo_part (HX : gH ks lay N sM) (hS : MsOK F w) {q : Nat} (hq : q < 512) (ch : Int32) : Con l y_Mo_part (Cond.code y_Mo_part b_Mo_part 3 (some .int) :: WT) rm_Mo_part D vcl ca ks lay ad [xR 40, xI ch, xI (nI q)] F L (fun r F' L' => r = some (xI (nI (leafV w q ch))) ∧ F' = F ∧ L' = L) := by
  have hw : w < 4 := by have := hS.1; omega
  refine Con.ofK (fun post K => ?_)
  refine Con.of (ls := [(0, xR 40), (1, xI ch), (2, xI (nI q))]) (by decide) rfl rfl (Nat.le_of_ble_eq_true rfl) ?_
  intro p e s m args below meth c A X hr hA
  refine gx_iload_n X d_Mo_part_0 rfl rfl ?_
  refine gx_callS X d_Mo_part_1 mf_Mo_isVariable lk_Mo_95 (c_Mo_isVariable ch) rfl rfl (Nat.le_of_ble_eq_true rfl) ⟨by decide, by decide⟩ ⟨rfl, rfl⟩ ⟨Nat.zero_le _, Nat.zero_le _⟩ (fun r1 F1 L1 hp1 => ?_)
  obtain ⟨rfl, rfl, rfl⟩ := hp1
  refine gx_if_eq X d_Mo_part_4 (tgt := 19) (by decide) (fun h4 => ?_) (fun h4 => ?_)
  · have hv := cb_f h4
    refine gx_iload_n X d_Mo_part_19 rfl rfl ?_
    refine gx_bipush X d_Mo_part_20 (v := nI 48) (by decide) ?_
    refine gx_isub X d_Mo_part_22 ?_
    refine gx_aload_n X d_Mo_part_23 rfl rfl ?_
    refine gx_geti X d_Mo_part_24 (gci in_Mo) (HX _ rfl).1 (HX _ rfl).2 rfl 1 (by decide) (gcw X lk_Mo_79) (fun _ h => h) rfl ?_
    refine gx_top hS.2.2.1 ?_
    refine gx_iand X d_Mo_part_27 ?_
    refine gx_top (y := nI (leafV w q ch)) (by rw [pk_and _ w (pu_mask w hw)]; unfold leafV; rw [if_neg (by rw [hv]; decide)]) ?_
    refine gx_iret X hr hA d_Mo_part_28 (K _ _ _ ⟨rfl, rfl, rfl⟩)
  · have hv := cb_t h4
    obtain ⟨k, hk3, hk⟩ := cb_var hv
    refine gx_aload_n X d_Mo_part_7 rfl rfl ?_
    refine gx_iload_n X d_Mo_part_8 rfl rfl ?_
    refine gx_iload_n X d_Mo_part_9 rfl rfl ?_
    refine gx_bipush X d_Mo_part_10 (v := nI 120) (by decide) ?_
    refine gx_isub X d_Mo_part_12 ?_
    refine gx_top hk ?_
    refine gx_callV X d_Mo_part_13 mf_Mo_valueOf lk_Mo_108 (c_Mo_valueOf HX hS (st := q) (v := k) hq hk3) (HX _ rfl).1 (HX _ rfl).2 rfl rfl rfl (Nat.le_of_ble_eq_true rfl) ⟨by decide, by decide⟩ ⟨rfl, rfl⟩ ⟨Nat.zero_le _, Nat.zero_le _⟩ (fun r13 F13 L13 hp13 => ?_)
    obtain ⟨rfl, rfl, rfl⟩ := hp13
    refine gx_goto X d_Mo_part_16 (tgt := 28) (by decide) ?_
    refine gx_iret X hr hA d_Mo_part_28 (K _ _ _ ⟨by unfold leafV; rw [if_pos hv, hk, nI_nat (by omega)], rfl, rfl⟩)
set_option maxHeartbeats 4000000 in
theorem c_Mo_join (HX : gH ks lay N sM) (hS : MsOK F w) {d : Nat} (hd : d < 5) (v : Int32) : Con l y_Mo_join (Cond.code y_Mo_join b_Mo_join 5 none :: WT) rm_Mo_join D vcl ca ks lay ad [xR 40, xI (nI d), xI v] F L (fun r F' L' => r = none ∧ F' = gxu F 58 d (jI w (F 59 d) (F 58 d) v) ∧ L' = L) := by
  refine Con.ofK (fun post K => ?_)
  refine Con.of (ls := [(0, xR 40), (1, xI (nI d)), (2, xI v)]) (by decide) rfl rfl (Nat.le_of_ble_eq_true rfl) ?_
  intro p e s m args below meth c A X hr hA
  generalize hs : F 59 d = s0 at K
  generalize hx : F 58 d = x0 at K
  have tail : ∀ (y : Int32), y &&& nI (2 ^ w - 1) = jI w s0 x0 v → GX p l e rm_Mo_join s m args below meth c (MQ below (gxQ D vcl ca ks lay ad s.heap.size post) args s 0 0 (gxA ks ad s.heap.size)) 5 A D vcl ca ks lay ad 0 0 86 [(4, xI s0), (3, xI x0), (2, xI v), (1, xI (nI d)), (0, xR 40)] [xI y, xI (nI d), xR 58] F L := by
    intro y hy
    refine gx_aload_n X d_Mo_join_86 rfl rfl ?_
    refine gx_geti X d_Mo_join_87 (gci in_Mo) (HX _ rfl).1 (HX _ rfl).2 rfl 1 (by decide) (gcw X lk_Mo_79) (fun _ h => h) rfl ?_
    refine gx_top hS.2.2.1 ?_
    refine gx_iand X d_Mo_join_90 ?_
    refine gx_top hy ?_
    refine gx_iast X d_Mo_join_91 (HX _ rfl).1 (HX _ rfl).2 rfl (by omega) (by omega) ?_
    refine gx_vret X hr hA d_Mo_join_92 (K _ _ _ ⟨rfl, rfl, rfl⟩)
  refine gx_aload_n X d_Mo_join_0 rfl rfl ?_
  refine gx_getr X d_Mo_join_1 (gci in_Mo) (HX _ rfl).1 (HX _ rfl).2 rfl 29 (by decide) (gcw X lk_Mo_70) (fun _ h => h) rfl ?_
  refine gx_iload_n X d_Mo_join_4 rfl rfl ?_
  refine gx_iald X d_Mo_join_5 (HX _ rfl).1 (HX _ rfl).2 rfl (by omega) (by omega) ?_
  refine gx_top hx ?_
  refine gx_istore_n X d_Mo_join_6 rfl (by decide) ?_
  refine gx_aload_n X d_Mo_join_7 rfl rfl ?_
  refine gx_getr X d_Mo_join_8 (gci in_Mo) (HX _ rfl).1 (HX _ rfl).2 rfl 30 (by decide) (gcw X lk_Mo_73) (fun _ h => h) rfl ?_
  refine gx_iload_n X d_Mo_join_11 rfl rfl ?_
  refine gx_iald X d_Mo_join_12 (HX _ rfl).1 (HX _ rfl).2 rfl (by omega) (by omega) ?_
  refine gx_top hs ?_
  refine gx_istore X d_Mo_join_13 (by decide) ?_
  refine gx_aload_n X d_Mo_join_15 rfl rfl ?_
  refine gx_getr X d_Mo_join_16 (gci in_Mo) (HX _ rfl).1 (HX _ rfl).2 rfl 29 (by decide) (gcw X lk_Mo_70) (fun _ h => h) rfl ?_
  refine gx_iload_n X d_Mo_join_19 rfl rfl ?_
  refine gx_iload X d_Mo_join_20 rfl ?_
  refine gx_bipush X d_Mo_join_22 (v := nI 43) (by decide) ?_
  refine gx_icmp_ne X d_Mo_join_24 (tgt := 33) (by decide) (fun h24 => ?_) (fun h24 => ?_)
  · refine gx_iload X d_Mo_join_33 rfl ?_
    refine gx_bipush X d_Mo_join_35 (v := nI 45) (by decide) ?_
    refine gx_icmp_ne X d_Mo_join_37 (tgt := 46) (by decide) (fun h37 => ?_) (fun h37 => ?_)
    · refine gx_iload X d_Mo_join_46 rfl ?_
      refine gx_bipush X d_Mo_join_48 (v := nI 42) (by decide) ?_
      refine gx_icmp_ne X d_Mo_join_50 (tgt := 59) (by decide) (fun h50 => ?_) (fun h50 => ?_)
      · refine gx_iload X d_Mo_join_59 rfl ?_
        refine gx_bipush X d_Mo_join_61 (v := nI 38) (by decide) ?_
        refine gx_icmp_ne X d_Mo_join_63 (tgt := 72) (by decide) (fun h63 => ?_) (fun h63 => ?_)
        · refine gx_iload X d_Mo_join_72 rfl ?_
          refine gx_bipush X d_Mo_join_74 (v := nI 94) (by decide) ?_
          refine gx_icmp_ne X d_Mo_join_76 (tgt := 85) (by decide) (fun h76 => ?_) (fun h76 => ?_)
          · refine gx_iload_n X d_Mo_join_85 rfl rfl ?_
            exact gx_el (tail v (by unfold jI; rw [if_neg h24, if_neg h37, if_neg h50, if_neg h63, if_neg h76])) ⟨rfl, rfl, rfl, rfl, rfl, trivial⟩
          · refine gx_iload_n X d_Mo_join_79 rfl rfl ?_
            refine gx_iload_n X d_Mo_join_80 rfl rfl ?_
            refine gx_ixor X d_Mo_join_81 ?_
            refine gx_goto X d_Mo_join_82 (tgt := 86) (by decide) ?_
            exact gx_el (tail _ (by unfold jI; rw [if_neg h24, if_neg h37, if_neg h50, if_neg h63, if_pos h76])) ⟨rfl, rfl, rfl, rfl, rfl, trivial⟩
        · refine gx_iload_n X d_Mo_join_66 rfl rfl ?_
          refine gx_iload_n X d_Mo_join_67 rfl rfl ?_
          refine gx_iand X d_Mo_join_68 ?_
          refine gx_goto X d_Mo_join_69 (tgt := 86) (by decide) ?_
          exact gx_el (tail _ (by unfold jI; rw [if_neg h24, if_neg h37, if_neg h50, if_pos h63])) ⟨rfl, rfl, rfl, rfl, rfl, trivial⟩
      · refine gx_iload_n X d_Mo_join_53 rfl rfl ?_
        refine gx_iload_n X d_Mo_join_54 rfl rfl ?_
        refine gx_imul X d_Mo_join_55 ?_
        refine gx_goto X d_Mo_join_56 (tgt := 86) (by decide) ?_
        exact gx_el (tail _ (by unfold jI; rw [if_neg h24, if_neg h37, if_pos h50])) ⟨rfl, rfl, rfl, rfl, rfl, trivial⟩
    · refine gx_iload_n X d_Mo_join_40 rfl rfl ?_
      refine gx_iload_n X d_Mo_join_41 rfl rfl ?_
      refine gx_isub X d_Mo_join_42 ?_
      refine gx_goto X d_Mo_join_43 (tgt := 86) (by decide) ?_
      exact gx_el (tail _ (by unfold jI; rw [if_neg h24, if_pos h37])) ⟨rfl, rfl, rfl, rfl, rfl, trivial⟩
  · refine gx_iload_n X d_Mo_join_27 rfl rfl ?_
    refine gx_iload_n X d_Mo_join_28 rfl rfl ?_
    refine gx_iadd X d_Mo_join_29 ?_
    refine gx_goto X d_Mo_join_30 (tgt := 86) (by decide) ?_
    exact gx_el (tail _ (by unfold jI; rw [if_pos h24])) ⟨rfl, rfl, rfl, rfl, rfl, trivial⟩
set_option maxHeartbeats 4000000 in
theorem c_Mo_worked (HX : gH ks lay N sM) (hS : MsOK F w) {i0 m0 e0 q : Nat} (he : i0 + m0 = e0) (hm : e0 ≤ 24) (hq : q < 512) {b0 : wS} (hrn : rnW w q (F 41) m0 i0 (0, F 58, upd (F 59) 0 (nI 0)) b0) : Con l y_Mo_worked (Cond.code y_Mo_worked b_Mo_worked 8 (some .int) :: WT) rm_Mo_worked D vcl ca ks lay ad [xR 40, xI (nI i0), xI (nI e0), xI (nI q)] F L (fun r F' L' => r = some (xI (b0.2.1 0)) ∧ L' = L ∧ ∀ a, a ≠ 58 → a ≠ 59 → F' a = F a) := by
  refine Con.ofK (fun post K => ?_)
  refine Con.of (ls := [(0, xR 40), (1, xI (nI i0)), (2, xI (nI e0)), (3, xI (nI q))]) (by decide) rfl rfl (Nat.le_of_ble_eq_true rfl) ?_
  intro p e s m args below meth c A X hr hA
  have loop : ∀ (k0 i d : Nat) (G : Nat → Nat → Int32), i + k0 = e0 → d ≤ 4 → (∀ a, a ≠ 58 → a ≠ 59 → G a = F a) → rnW w q (F 41) k0 i (d, G 58, G 59) b0 → GX p l e rm_Mo_worked s m args below meth c (MQ below (gxQ D vcl ca ks lay ad s.heap.size post) args s 0 0 (gxA ks ad s.heap.size)) 8 A D vcl ca ks lay ad 0 0 13 [(5, xI (nI i)), (4, xI (nI d)), (3, xI (nI q)), (2, xI (nI e0)), (0, xR 40)] [] G L := by
    intro k0
    induction k0 with
    | zero =>
      intro i d G hi hd f1 hrw
      have hrw : (d, G 58, G 59) = b0 := hrw
      subst hrw
      refine gx_iload X d_Mo_worked_13 rfl ?_
      refine gx_iload_n X d_Mo_worked_15 rfl rfl ?_
      refine gx_icmp_ge X d_Mo_worked_16 (tgt := 120) (by decide) (fun h16 => ?_) (fun h16 => ?_)
      · refine gx_aload_n X d_Mo_worked_120 rfl rfl ?_
        refine gx_getr X d_Mo_worked_121 (gci in_Mo) (HX _ rfl).1 (HX _ rfl).2 rfl 29 (by decide) (gcw X lk_Mo_70) (fun _ h => h) rfl ?_
        refine gx_iconst X d_Mo_worked_124 (v := nI 0) (by decide) ?_
        refine gx_iald X d_Mo_worked_125 (HX _ rfl).1 (HX _ rfl).2 rfl (by omega) (by omega) ?_
        refine gx_iret X hr hA d_Mo_worked_126 (K _ _ _ ⟨rfl, rfl, f1⟩)
      · exact absurd ((nI_leI (by omega) (by omega)).mpr (by omega)) h16
    | succ k0 ih =>
      intro i d G hi hd f1 hrw
      obtain ⟨hc, hrw⟩ := hrw
      have g41 : G 41 i = F 41 i := by rw [f1 41 (by decide) (by decide)]
      generalize hch : F 41 i = ch at hc hrw g41
      have hS2 : MsOK G w := hS.of (fun j hj => by rw [f1 40 (by decide) (by decide)])
      have next : ∀ (d2 : Nat) (G2 : Nat → Nat → Int32), d2 ≤ 4 → (∀ a, a ≠ 58 → a ≠ 59 → G2 a = F a) → stW w q ch (d, G 58, G 59) = (d2, G2 58, G2 59) → GX p l e rm_Mo_worked s m args below meth c (MQ below (gxQ D vcl ca ks lay ad s.heap.size post) args s 0 0 (gxA ks ad s.heap.size)) 8 A D vcl ca ks lay ad 0 0 114 [(5, xI (nI i)), (4, xI (nI d2)), (3, xI (nI q)), (2, xI (nI e0)), (0, xR 40)] [] G2 L := by
        intro d2 G2 h1 h2 h3
        rw [h3] at hrw
        refine gx_iinc X d_Mo_worked_114 rfl (pu_inc _) ?_
        refine gx_goto X d_Mo_worked_117 (tgt := 13) (by decide) ?_
        exact gx_el (ih (i + 1) d2 G2 (by omega) h1 h2 hrw) ⟨rfl, rfl, rfl, rfl, rfl, trivial⟩
      refine gx_iload X d_Mo_worked_13 rfl ?_
      refine gx_iload_n X d_Mo_worked_15 rfl rfl ?_
      refine gx_icmp_ge X d_Mo_worked_16 (tgt := 120) (by decide) (fun h16 => ?_) (fun h16 => ?_)
      · exact absurd ((nI_leI (by omega) (by omega)).mp h16) (by omega)
      · refine gx_aload_n X d_Mo_worked_19 rfl rfl ?_
        refine gx_getr X d_Mo_worked_20 (gci in_Mo) (HX _ rfl).1 (HX _ rfl).2 rfl 4 (by decide) (gcw X lk_Mo_7) (fun _ h => h) rfl ?_
        refine gx_iload X d_Mo_worked_23 rfl ?_
        refine gx_iald X d_Mo_worked_25 (HX _ rfl).1 (HX _ rfl).2 rfl (by omega) (by omega) ?_
        refine gx_top g41 ?_
        refine gx_istore X d_Mo_worked_26 (by decide) ?_
        refine gx_iload X d_Mo_worked_28 rfl ?_
        refine gx_bipush X d_Mo_worked_30 (v := nI 40) (by decide) ?_
        refine gx_icmp_ne X d_Mo_worked_32 (tgt := 49) (by decide) (fun h32 => ?_) (fun h32 => ?_)
        · refine gx_iload X d_Mo_worked_49 rfl ?_
          refine gx_bipush X d_Mo_worked_51 (v := nI 41) (by decide) ?_
          refine gx_icmp_ne X d_Mo_worked_53 (tgt := 77) (by decide) (fun h53 => ?_) (fun h53 => ?_)
          · have hne1 : ¬ ch = nI 40 := h32
            have hne2 : ¬ ch = nI 41 := h53
            refine gx_iload X d_Mo_worked_77 rfl ?_
            refine gx_callS X d_Mo_worked_79 mf_Mo_isSign lk_Mo_99 (c_Mo_isSign ch) rfl rfl (Nat.le_of_ble_eq_true rfl) ⟨by decide, by decide⟩ ⟨rfl, rfl⟩ ⟨Nat.zero_le _, Nat.zero_le _⟩ (fun r79 F79 L79 hp79 => ?_)
            obtain ⟨rfl, rfl, rfl⟩ := hp79
            refine gx_if_eq X d_Mo_worked_82 (tgt := 97) (by decide) (fun h82 => ?_) (fun h82 => ?_)
            · have hop := cb_f h82
              refine gx_aload_n X d_Mo_worked_97 rfl rfl ?_
              refine gx_iload X d_Mo_worked_98 rfl ?_
              refine gx_iload_n X d_Mo_worked_100 rfl rfl ?_
              refine gx_callV X d_Mo_worked_101 mf_Mo_part lk_Mo_116 (c_Mo_part HX hS2 hq ch) (HX _ rfl).1 (HX _ rfl).2 rfl rfl rfl (Nat.le_of_ble_eq_true rfl) ⟨by decide, by decide⟩ ⟨rfl, rfl⟩ ⟨Nat.zero_le _, Nat.zero_le _⟩ (fun r101 F101 L101 hp101 => ?_)
              obtain ⟨rfl, rfl, rfl⟩ := hp101
              refine gx_istore X d_Mo_worked_104 (by decide) ?_
              refine gx_aload_n X d_Mo_worked_106 rfl rfl ?_
              refine gx_iload X d_Mo_worked_107 rfl ?_
              refine gx_iload X d_Mo_worked_109 rfl ?_
              refine gx_callV X d_Mo_worked_111 mf_Mo_join lk_Mo_112 (c_Mo_join HX hS2 (d := d) (by omega) (nI (leafV w q ch))) (HX _ rfl).1 (HX _ rfl).2 rfl rfl rfl (Nat.le_of_ble_eq_true rfl) ⟨by decide, by decide⟩ ⟨rfl, rfl⟩ ⟨Nat.zero_le _, Nat.zero_le _⟩ (fun r111 F111 L111 hp111 => ?_)
              obtain ⟨rfl, q2, rfl⟩ := hp111
              refine gx_el (next d F111 hd (fun a b1 b2 => by rw [q2, gxu_cell b1]; exact f1 a b1 b2) ?_) ⟨rfl, rfl, rfl, rfl, rfl, trivial⟩
              unfold stW
              rw [if_neg hne1, if_neg hne2, if_neg (by rw [hop]; decide), q2, gxu_in, gxu_cell (by decide)]
            · have hop := cb_t h82
              refine gx_aload_n X d_Mo_worked_85 rfl rfl ?_
              refine gx_getr X d_Mo_worked_86 (gci in_Mo) (HX _ rfl).1 (HX _ rfl).2 rfl 30 (by decide) (gcw X lk_Mo_73) (fun _ h => h) rfl ?_
              refine gx_iload X d_Mo_worked_89 rfl ?_
              refine gx_iload X d_Mo_worked_91 rfl ?_
              refine gx_iast X d_Mo_worked_93 (HX _ rfl).1 (HX _ rfl).2 rfl (by omega) (by omega) ?_
              refine gx_goto X d_Mo_worked_94 (tgt := 114) (by decide) ?_
              refine gx_el (next d _ hd (fun a b1 b2 => by rw [gxu_cell b2]; exact f1 a b1 b2) ?_) ⟨rfl, rfl, rfl, rfl, rfl, trivial⟩
              unfold stW
              rw [if_neg hne1, if_neg hne2, if_pos hop, gxu_in, gxu_cell (by decide)]
          · have hne1 : ¬ ch = nI 40 := h32
            have he2 : ch = nI 41 := h53
            have hd0 : 0 < d := by
              rcases hc with ⟨h, -⟩ | ⟨-, h⟩ | h | h
              · exact absurd h hne1
              · exact h
              · exact absurd he2 (op_no h).2
              · exact absurd he2 (leaf_no h.symm).2.1
            obtain ⟨d', rfl⟩ : ∃ d', d = d' + 1 := ⟨d - 1, by omega⟩
            refine gx_iinc X d_Mo_worked_56 rfl (pu_dec _) ?_
            refine gx_aload_n X d_Mo_worked_59 rfl rfl ?_
            refine gx_iload X d_Mo_worked_60 rfl ?_
            refine gx_aload_n X d_Mo_worked_62 rfl rfl ?_
            refine gx_getr X d_Mo_worked_63 (gci in_Mo) (HX _ rfl).1 (HX _ rfl).2 rfl 29 (by decide) (gcw X lk_Mo_70) (fun _ h => h) rfl ?_
            refine gx_iload X d_Mo_worked_66 rfl ?_
            refine gx_iconst X d_Mo_worked_68 (v := nI 1) (by decide) ?_
            refine gx_iadd X d_Mo_worked_69 ?_
            refine gx_top (nI_add d' 1) ?_
            refine gx_iald X d_Mo_worked_70 (HX _ rfl).1 (HX _ rfl).2 rfl (by omega) (by omega) ?_
            refine gx_callV X d_Mo_worked_71 mf_Mo_join lk_Mo_112 (c_Mo_join HX hS2 (d := d') (by omega) (G 58 (d' + 1))) (HX _ rfl).1 (HX _ rfl).2 rfl rfl rfl (Nat.le_of_ble_eq_true rfl) ⟨by decide, by decide⟩ ⟨rfl, rfl⟩ ⟨Nat.zero_le _, Nat.zero_le _⟩ (fun r71 F71 L71 hp71 => ?_)
            obtain ⟨rfl, q2, rfl⟩ := hp71
            refine gx_goto X d_Mo_worked_74 (tgt := 114) (by decide) ?_
            refine gx_el (next d' F71 (by omega) (fun a b1 b2 => by rw [q2, gxu_cell b1]; exact f1 a b1 b2) ?_) ⟨rfl, rfl, rfl, rfl, rfl, trivial⟩
            unfold stW
            rw [if_neg hne1, if_pos he2, q2, gxu_in, gxu_cell (by decide)]
            rfl
        · have he1 : ch = nI 40 := h32
          have hd4 : d < 4 := by
            rcases hc with ⟨-, h⟩ | ⟨h, -⟩ | h | h
            · exact h
            · rw [he1] at h; exact absurd h (by decide)
            · exact absurd he1 (op_no h).1
            · exact absurd he1 (leaf_no h.symm).1
          refine gx_iinc X d_Mo_worked_35 rfl (pu_inc _) ?_
          refine gx_aload_n X d_Mo_worked_38 rfl rfl ?_
          refine gx_getr X d_Mo_worked_39 (gci in_Mo) (HX _ rfl).1 (HX _ rfl).2 rfl 30 (by decide) (gcw X lk_Mo_73) (fun _ h => h) rfl ?_
          refine gx_iload X d_Mo_worked_42 rfl ?_
          refine gx_iconst X d_Mo_worked_44 (v := nI 0) (by decide) ?_
          refine gx_iast X d_Mo_worked_45 (HX _ rfl).1 (HX _ rfl).2 rfl (by omega) (by omega) ?_
          refine gx_goto X d_Mo_worked_46 (tgt := 114) (by decide) ?_
          refine gx_el (next (d + 1) _ (by omega) (fun a b1 b2 => by rw [gxu_cell b2]; exact f1 a b1 b2) ?_) ⟨rfl, rfl, rfl, rfl, rfl, trivial⟩
          unfold stW
          rw [if_pos he1, gxu_in, gxu_cell (by decide)]
  refine gx_iconst X d_Mo_worked_0 (v := nI 0) (by decide) ?_
  refine gx_istore X d_Mo_worked_1 (by decide) ?_
  refine gx_aload_n X d_Mo_worked_3 rfl rfl ?_
  refine gx_getr X d_Mo_worked_4 (gci in_Mo) (HX _ rfl).1 (HX _ rfl).2 rfl 30 (by decide) (gcw X lk_Mo_73) (fun _ h => h) rfl ?_
  refine gx_iconst X d_Mo_worked_7 (v := nI 0) (by decide) ?_
  refine gx_iconst X d_Mo_worked_8 (v := nI 0) (by decide) ?_
  refine gx_iast X d_Mo_worked_9 (HX _ rfl).1 (HX _ rfl).2 rfl (by omega) (by omega) ?_
  refine gx_iload_n X d_Mo_worked_10 rfl rfl ?_
  refine gx_istore X d_Mo_worked_11 (by decide) ?_
  exact gx_el (loop m0 i0 0 _ he (by decide) (fun a _ b2 => gxu_cell b2) (by rw [gxu_in, gxu_cell (by decide)]; exact hrn)) ⟨rfl, rfl, rfl, rfl, rfl, trivial⟩
end
