/-! contracts over a part of the world (own text) -/
theorem gw_4 : Cond.classLink R_Lw 13 "java/lang/IllegalArgumentException" ∈ WT := WT_lw (List.mem_append_right _ (by decide +kernel)) (by decide +kernel)
theorem gw_5 : Cond.classLink R_Lw 15 "java/lang/IllegalStateException" ∈ WT := WT_lw (List.mem_append_right _ (by decide +kernel)) (by decide +kernel)
theorem gw_6 : Cond.classLink R_Lw 28 "java/lang/IndexOutOfBoundsException" ∈ WT := WT_lw (List.mem_append_right _ (by decide +kernel)) (by decide +kernel)
section
variable {l : Launch} {y : MethodName} {ws : List Cond} {rm : Room} {D : va_G} {cl : List vw_C} {ca : Nat → ClassId} {ks ks1 : List Nat} {lay : Nat → gxE} {ad : Nat → Nat} {av : List xV} {F : Nat → Nat → Int32} {L : Nat → Nat → Int64}
theorem gxD.sub {A : Nat → Prop} (h : gxD A ks ad) (hsub : ∀ k ∈ ks1, k ∈ ks) (hnd : ks1.Nodup) : gxD A ks1 ad := by
  refine ⟨fun i j a b hi hj he => ?_, fun k hk => h.2 k (hsub k hk)⟩
  have e := h.inj (hsub a (List.mem_of_getElem? hi)) (hsub b (List.mem_of_getElem? hj)) he
  subst e
  obtain ⟨h1, h2⟩ := List.getElem?_eq_some_iff.mp hi
  obtain ⟨h3, h4⟩ := List.getElem?_eq_some_iff.mp hj
  have hp := List.pairwise_iff_getElem.mp hnd
  rcases Nat.lt_trichotomy i j with h5 | h5 | h5
  · exact absurd (h2.trans h4.symm) (hp i j h1 h3 h5)
  · exact h5
  · exact absurd (h4.trans h2.symm) (hp j i h3 h1 h5)
theorem va_P.some {H : Heap} (h : va_P D cl (gxw ks lay ca ad F L) H) {a : Nat} (ha : a ∈ ks) : va_at D cl (ad a, gxc ca ad F L a (lay a)) H := by
  obtain ⟨q, hq⟩ := List.getElem?_of_mem ha
  exact h q _ (gxw_at hq)
def mF (ks1 : List Nat) (F1 F : Nat → Nat → Int32) : Nat → Nat → Int32 := fun a => if a ∈ ks1 then F1 a else F a
def mL (ks1 : List Nat) (L1 L : Nat → Nat → Int64) : Nat → Nat → Int64 := fun a => if a ∈ ks1 then L1 a else L a
theorem join_w {st t : State} {sz : Nat} (hsub : ∀ k ∈ ks1, k ∈ ks) (hsz : st.heap.size = sz) (hP : va_P D cl (gxw ks lay ca ad F L) st.heap) (hD : gxD (fun _ => True) ks ad) {F1 : Nat → Nat → Int32} {L1 : Nat → Nat → Int64} (hP1 : va_P D cl (gxw ks1 lay ca ad F1 L1) t.heap) (hF : va_F (gxA ks1 ad sz) st t) : va_P D cl (gxw ks lay ca ad (mF ks1 F1 F) (mL ks1 L1 L)) t.heap := by
  refine va_Pall (fun a ha => ?_)
  by_cases h1 : a ∈ ks1
  · have h2 := hP1.some h1
    have e : gxc ca ad (mF ks1 F1 F) (mL ks1 L1 L) a (lay a) = gxc ca ad F1 L1 a (lay a) := by
      unfold gxc mF mL
      simp only [h1, if_true]
    rw [e]
    exact h2
  · have h2 := hP.some ha
    have e : gxc ca ad (mF ks1 F1 F) (mL ks1 L1 L) a (lay a) = gxc ca ad F L a (lay a) := by
      unfold gxc mF mL
      simp only [h1, if_false]
    rw [e]
    have hlt : ad a < st.heap.size := h2.lt
    refine h2.kept (hF.2 _ hlt (fun z => ?_))
    rcases z with ⟨k, hk, e2⟩ | z
    · exact h1 (hD.inj ha (hsub k hk) e2 ▸ hk)
    · have z : sz ≤ ad a := z
      omega
theorem va_F.mono {A B : Nat → Prop} {st t : State} (h : va_F A st t) (hAB : ∀ q, A q → B q) : va_F B st t := ⟨h.1, fun q h1 h2 => h.2 q h1 (fun z => h2 (hAB q z))⟩
theorem gxA_sub {sz : Nat} (hsub : ∀ k ∈ ks1, k ∈ ks) : ∀ q, gxA ks1 ad sz q → gxA ks ad sz q := fun q h => by
  rcases h with ⟨k, hk, e⟩ | h
  · exact Or.inl ⟨k, hsub k hk, e⟩
  · exact Or.inr h
theorem gxP.sub {sz : Nat} {U : State} (h : gxP D cl ca ks lay ad sz F L U) (hsub : ∀ k ∈ ks1, k ∈ ks) (hnd : ks1.Nodup) : gxP D cl ca ks1 lay ad sz F L U := ⟨h.1, va_Pall (fun a ha => h.2.1.some (hsub a ha)), h.2.2.1, h.2.2.2.sub hsub hnd⟩
/-- a contract over some cells is one over more: the others stay -/
theorem Con.widen {post : Option xV → (Nat → Nat → Int32) → (Nat → Nat → Int64) → Prop} (hsub : ∀ k ∈ ks1, k ∈ ks) (hnd : ks1.Nodup) (h : Con l y ws rm D cl ca ks1 lay ad av F L post) : Con l y ws rm D cl ca ks lay ad av F L (fun r F' L' => ∃ F1 L1, post r F1 L1 ∧ F' = mF ks1 F1 F ∧ L' = mL ks1 L1 L) := by
  intro sz
  refine Jvm.Free.MetFree.mono (h sz) (fun a s hp => ⟨hp.1, hp.2.sub hsub hnd⟩) (fun _ _ _ _ _ h => h) (fun a s o t hp hq => ?_)
  obtain ⟨⟨⟨r, F1, L1, ho, hpo, hP1⟩, hF⟩, LL, hfe, hL⟩ := hq
  exact ⟨⟨⟨r, _, _, ho, ⟨F1, L1, hpo, rfl, rfl⟩, join_w hsub hp.2.1 hp.2.2.1 hp.2.2.2.2 hP1 hF⟩, hF.mono (gxA_sub hsub)⟩, LL, hfe, fun q hq => gxA_sub hsub _ (hL q hq)⟩
theorem ConT.widen {xc : String} {post : (Nat → Nat → Int32) → (Nat → Nat → Int64) → Prop} (hsub : ∀ k ∈ ks1, k ∈ ks) (hnd : ks1.Nodup) (h : ConT l y ws rm D cl ca ks1 lay ad av F L xc post) : ConT l y ws rm D cl ca ks lay ad av F L xc (fun F' L' => ∃ F1 L1, post F1 L1 ∧ F' = mF ks1 F1 F ∧ L' = mL ks1 L1 L) := by
  intro sz
  refine Jvm.Free.MetFree.mono (h sz) (fun a s hp => ⟨hp.1, hp.2.1.sub hsub hnd, hp.2.2⟩) (fun _ _ _ _ _ h => h) (fun a s o t hp hq => ?_)
  obtain ⟨⟨⟨a0, F1, L1, ho, hpo, hP1, hce⟩, hF⟩, LL, hfe, hL⟩ := hq
  exact ⟨⟨⟨a0, _, _, ho, ⟨F1, L1, hpo, rfl, rfl⟩, join_w hsub hp.2.1.1 hp.2.1.2.1 hp.2.1.2.2.2 hP1 hF, hce⟩, hF.mono (gxA_sub hsub)⟩, LL, hfe, fun q hq => gxA_sub hsub _ (hL q hq)⟩
end
