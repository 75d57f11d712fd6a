/-! what the reference says, in the helpers' words; the law's invariant (own text) -/
section
variable {l : Launch} {D : va_G} {ca : Nat → ClassId} {ks : List Nat} {lay : Nat → gxE} {ad : Nat → Nat} {F F1 : Nat → Nat → Int32} {L L1 : Nat → Nat → Int64} {N w : Nat} {z : kS}
theorem Con.mono {y : MethodName} {ws : List Cond} {rm : Room} {cl : List vw_C} {av : List xV} {post post2 : Option xV → (Nat → Nat → Int32) → (Nat → Nat → Int64) → Prop} (h : Con l y ws rm D cl ca ks lay ad av F L post) (hpq : ∀ r F' L', post r F' L' → post2 r F' L') : Con l y ws rm D cl ca ks lay ad av F L post2 := by
  intro sz
  refine Jvm.Free.MetFree.mono (h sz) (fun a s hp => hp) (fun _ _ _ _ _ h => h) (fun a s o t hp hq => ?_)
  obtain ⟨⟨⟨r, F1, L1, ho, hpo, hP1⟩, hF⟩, hr⟩ := hq
  exact ⟨⟨⟨r, F1, L1, ho, hpq _ _ _ hpo, hP1⟩, hF⟩, hr⟩
theorem q_edge (HM : gH ks lay N sM) (hz : MOK F L w z) : Con l y_Mo_edge (Cond.code y_Mo_edge b_Mo_edge 9 (some .int) :: WT) rm_Mo_edge D vcl ca ks lay ad [xR 40] F L (mPo w (SpE w z)) := (m_edge HM hz).mono (fun r F' L' h k v z' hs => by
  rcases hs with ⟨h1, rfl, rfl, rfl⟩ | ⟨kd, code, h1, ⟨h2, rfl, rfl, rfl⟩ | ⟨h2, rfl, rfl, rfl⟩⟩
  · exact h.1 h1
  · exact h.2.1 kd code h1 h2
  · exact h.2.2 kd code h1 h2)
theorem q_predicate (HM : gH ks lay N sM) (hz : MOK F L w z) : Con l y_Mo_predicate (Cond.code y_Mo_predicate b_Mo_predicate 3 (some .int) :: WT) rm_Mo_predicate D vcl ca ks lay ad [xR 40] F L (mPo w (SpP w z)) := (m_predicate HM hz).mono (fun r F' L' h k v z' hs => by
  rcases hs with ⟨h1, rfl, rfl, rfl⟩ | ⟨h1, ⟨h2, rfl, rfl, rfl⟩ | ⟨h2, rfl, rfl, rfl⟩⟩
  · exact h.1 h1
  · exact h.2.1 h1 h2
  · exact h.2.2 h1 h2)
theorem q_prove (HM : gH ks lay N sM) (hz : MOK F L w z) (x : Int32) : Con l y_Mo_prove (Cond.code y_Mo_prove b_Mo_prove 5 (some .int) :: WT) rm_Mo_prove D vcl ca ks lay ad [xR 40, xI x] F L (mPo w (SpV w z x)) := by
  by_cases hx : nI 1 ≤ x ∧ x ≤ nI 40
  · obtain ⟨f, rfl, g1, g2⟩ := in40 hx
    refine (m_prove HM hz g1 g2).mono (fun r F' L' h k v z' hs => ?_)
    rcases hs with ⟨h1, -⟩ | ⟨f2, e, b1, b2, rfl, rfl, rfl⟩
    · exact absurd hx h1
    · have e2 : f = f2 := (nI_eq (by omega) (by omega)).mp e
      subst e2
      exact h
  · refine (m_prove2 HM hz x hx).mono (fun r F' L' h k v z' hs => ?_)
    rcases hs with ⟨h1, rfl, rfl, rfl⟩ | ⟨f2, e, b1, b2, -⟩
    · exact ⟨h.1, h.2.1, h.2.2.2⟩
    · subst e
      exact absurd ⟨(nI_leI (by decide) (by omega)).mpr b1, (nI_leI (by omega) (by decide)).mpr b2⟩ hx
theorem q_holds (HM : gH ks lay N sM) (hz : MOK F L w z) (x y : Int32) : Con l y_Mo_holds (Cond.code y_Mo_holds b_Mo_holds 3 (some .boolean) :: WT) rm_Mo_holds D vcl ca ks lay ad [xR 40, xI x, xI y] F L (mPo w (SpH w z x y)) := (m_holds HM hz x y).mono (fun r F' L' h k v z' hs => by
  obtain ⟨rfl, ⟨h1, rfl, rfl⟩ | ⟨a, q, h1, h2, h3, h4, rfl, rfl⟩⟩ := hs
  · exact ⟨(h.2.2.2 h1).1, (h.2.2.2 h1).2, h.2.1⟩
  · exact ⟨(h.2.2.1 a q h1 h2 h3 h4).1, (h.2.2.1 a q h1 h2 h3 h4).2, h.2.1⟩)
theorem q_signature (HM : gH ks lay N sM) (hz : MOK F L w z) (x : Int32) : Con l y_Mo_signature (Cond.code y_Mo_signature b_Mo_signature 2 (some .short) :: WT) rm_Mo_signature D vcl ca ks lay ad [xR 40, xI x] F L (mPo w (SpS w z x)) := (m_signature HM hz x).mono (fun r F' L' h k v z' hs => by
  obtain ⟨rfl, ⟨h1, rfl, rfl⟩ | ⟨q, h1, h2, rfl, rfl⟩⟩ := hs
  · exact ⟨(h.2.2.2 h1).1, (h.2.2.2 h1).2, h.2.1⟩
  · exact ⟨(h.2.2.1 q h1 h2).1, (h.2.2.1 q h1 h2).2, h.2.1⟩)
theorem q_path (HM : gH ks lay N sM) (hz : MOK F L w z) (x : Int32) : Con l y_Mo_path (Cond.code y_Mo_path b_Mo_path 2 (some .int) :: WT) rm_Mo_path D vcl ca ks lay ad [xR 40, xI x] F L (mPo w (SpA z x)) := (m_path HM hz x).mono (fun r F' L' h k v z' hs => by
  obtain ⟨rfl, ⟨h1, rfl, rfl⟩ | ⟨es, a, h1, h2, h3, rfl, rfl⟩⟩ := hs
  · exact ⟨(h.2.2.2 h1).1, (h.2.2.2 h1).2, h.2.1⟩
  · exact ⟨(h.2.2.1 es a h1 h2 h3).1, (h.2.2.1 es a h1 h2 h3).2, h.2.1⟩)
theorem q_input (HM : gH ks lay N sM) (hz : MOK F L w z) (hiq : z.iq = [] ∨ z.oc = nI 2) (x : Int32) : Con l y_Mo_input (Cond.code y_Mo_input b_Mo_input 2 (some .int) :: WT) rm_Mo_input D vcl ca ks lay ad [xR 40, xI x] F L (mPo w (SpI z x)) := (m_input HM hz hiq x).mono (fun r F' L' h k v z' hs => by
  obtain ⟨rfl, ⟨h1, rfl, rfl⟩ | ⟨a, h1, h2, rfl, rfl⟩⟩ := hs
  · exact ⟨(h.2.2.2 h1).1, (h.2.2.2 h1).2, h.2.1⟩
  · exact ⟨(h.2.2.1 a h1 h2).1, (h.2.2.1 a h1 h2).2, h.2.1⟩)
theorem q_node (HM : gH ks lay N sM) (hz : MOK F L w z) (x y : Int32) : Con l y_Mo_node (Cond.code y_Mo_node b_Mo_node 3 (some .int) :: WT) rm_Mo_node D vcl ca ks lay ad [xR 40, xI x, xI y] F L (mPo w (SpN z x y)) := (m_node HM hz x y).mono (fun r F' L' h k v z' hs => by
  obtain ⟨rfl, ⟨h1, rfl, rfl⟩ | ⟨h1, h2, rfl, rfl⟩ | ⟨i, t, h1, h2, h3, h4, rfl, rfl⟩⟩ := hs
  · exact ⟨(h.2.2.2.1 h1).1, (h.2.2.2.1 h1).2, h.2.1⟩
  · exact ⟨(h.2.2.2.2 h1 h2).1, (h.2.2.2.2 h1 h2).2, h.2.1⟩
  · exact ⟨(h.2.2.1 i t h1 h2 h3 h4).1, (h.2.2.1 i t h1 h2 h3 h4).2, h.2.1⟩)
theorem q_follow (HM : gH ks lay N sM) (hz : MOK F L w z) (x y u : Int32) : Con l y_Mo_follow (Cond.code y_Mo_follow b_Mo_follow 4 (some .int) :: WT) rm_Mo_follow D vcl ca ks lay ad [xR 40, xI x, xI y, xI u] F L (mPo w (SpF w z x y u)) := (m_follow HM hz x y u).mono (fun r F' L' h k v z' hs => by
  obtain ⟨rfl, ⟨h1, rfl, rfl⟩ | ⟨a, q, h1, h2, h3, h4, rfl, rfl⟩⟩ := hs
  · exact ⟨(h.2.2.2 h1).1, (h.2.2.2 h1).2, h.2.1⟩
  · exact ⟨(h.2.2.1 a q h1 h2 h3 h4).1, (h.2.2.1 a q h1 h2 h3 h4).2, h.2.1⟩)
def iqOK (z : kS) : Prop := z.iq = [] ∨ z.oc = nI 2
/-- the law's invariant: class and reference hold the same -/
def LI (w : Nat) (F : Nat → Nat → Int32) (L : Nat → Nat → Int64) (z : kS) : Prop := KOK F w z ∧ MOK F L w z ∧ iqOK z
theorem iq_fgt (z : kS) : iqOK z.fgt := Or.inl rfl
theorem iq_wip (h : iqOK z) : iqOK z.wip := h
theorem iq_mkR (w : Nat) (z : kS) : iqOK (mkR w z) := by
  unfold mkR
  split
  · exact Or.inl rfl
  · split
    · exact Or.inl rfl
    · split
      · exact Or.inr rfl
      · exact Or.inl rfl
theorem iq_prv (w : Nat) : ∀ (r : Nat) (z : kS), iqOK z → iqOK (prv w r z)
  | 0, z, h => h
  | r + 1, z, h => by
    unfold prv
    split
    · exact iq_prv w r _ (iq_mkR w z)
    · exact h
theorem iq_E {k : Nat} {v : Int32} {z' : kS} (h : SpE w z k v z') (hz : iqOK z) : iqOK z' := by
  rcases h with ⟨-, -, -, rfl⟩ | ⟨kd, code, -, ⟨-, -, -, rfl⟩ | ⟨-, -, -, rfl⟩⟩
  · exact hz
  · exact hz
  · exact iq_fgt _
theorem iq_P {k : Nat} {v : Int32} {z' : kS} (h : SpP w z k v z') (hz : iqOK z) : iqOK z' := by
  rcases h with ⟨-, -, -, rfl⟩ | ⟨-, ⟨-, -, -, rfl⟩ | ⟨-, -, -, rfl⟩⟩
  · exact hz
  · exact hz
  · exact iq_fgt _
theorem iq_V {x : Int32} {k : Nat} {v : Int32} {z' : kS} (h : SpV w z x k v z') (hz : iqOK z) : iqOK z' := by
  rcases h with ⟨-, -, -, rfl⟩ | ⟨f, -, b1, -, -, -, rfl⟩
  · exact hz
  · obtain ⟨r, rfl⟩ : ∃ r, f = r + 1 := ⟨f - 1, by omega⟩
    show iqOK (if z.beg.oc = nI 0 then prv w r (mkR w z.beg) else z.beg)
    rw [if_pos (show z.beg.oc = nI 0 from rfl)]
    exact iq_prv w r _ (iq_mkR w _)
theorem sX_M {a : Nat} (h : sX a = true) : sM a = false := by
  refine Bool.eq_false_iff.mpr (fun q => ?_)
  simp [sX] at h
  simp [sM] at q
  omega
theorem MOK.keep {G : Nat → Nat → Int32} {M : Nat → Nat → Int64} (h : MOK F L w z) (hF : ∀ a, sX a = false → G a = F a) (hL : ∀ a, sX a = false → a ≠ 60 → M a = L a) : MOK G M w z :=
  h.of (fun a ha => hF a (Bool.eq_false_iff.mpr (fun q => by simp [sX] at q; omega))) (fun j _ _ => by rw [hF 40 rfl]) (fun a ha => hL a (by rcases ha with rfl | rfl <;> rfl) (by omega))
theorem MOK.afterX (h : MOK F L w z) : MOK (mF (ks.filter sX) F1 F) (mL (ks.filter sX) L1 L) w z := h.keep (fun a ha => mF_out ha) (fun a ha _ => mL_out ha)
theorem KOK.afterM (h : KOK F w z) : KOK (mF (ks.filter sM) F1 F) w z := h.ofX (fun a ha => mF_out (sX_M ha))
theorem KOK.inX (HX : gH ks lay N sX) (h : KOK F1 w z) : KOK (mF (ks.filter sX) F1 F) w z := h.ofX (fun a ha => mF_in HX ha)
theorem MOK.inM (HM : gH ks lay N sM) (h : MOK F1 L1 w z) : MOK (mF (ks.filter sM) F1 F) (mL (ks.filter sM) L1 L) w z :=
  h.of (fun a ha => mF_in HM (by simp [sM]; omega)) (fun j _ _ => by rw [mF_in HM rfl]) (fun a ha => mL_in HM (by rcases ha with rfl | rfl <;> rfl))
theorem k3_0 {k : Nat} (h : k < 3) (h0 : nI k = 0) : k = 0 := by
  have : k = 0 ∨ k = 1 ∨ k = 2 := by omega
  rcases this with rfl | rfl | rfl
  · rfl
  · exact absurd h0 (by decide)
  · exact absurd h0 (by decide)
theorem lg_self (x : Int64) : lg_cmp x x = 0 := by
  unfold lg_cmp
  rw [if_neg (Int64.lt_irrefl), if_pos rfl]
end
