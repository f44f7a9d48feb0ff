/-! the history: both sides keep the last four states -/
section HIST
variable {σ τ : Mm} {r r' : Nat → Int32} {T ng np nx nl : Nat}
def HB (μ : Mm) (S : Nat) : Mm := fun q => μ (S + q)
theorem Rel.blk (h : Rel σ r T ng np nx nl) (e : ∀ q, q < 106 → τ q = σ q) : Rel τ r T ng np nx nl := by
  obtain ⟨n1, n2, n3, n4⟩ := h.1.n
  exact h.cp (fun j _ _ => by rw [e 0 (by decide)]) (by rw [e 5 (by decide)]) (by rw [e 5 (by decide)]) (fun q j _ _ _ => by rw [e q (by omega)]) (fun g j _ _ _ => by rw [e _ (by omega)]) (fun g e' _ _ => by rw [e _ (by omega)]) (fun g e' _ _ k _ _ j _ => by rw [e _ (by omega)]) (fun p j _ _ => by rw [e _ (by omega)]) (fun k j _ _ => by rw [e _ (by omega)]) (fun x j _ _ => by rw [e _ (by omega)])
theorem Rel.hb {S : Nat} {μ : Mm} (h : Rel σ r T ng np nx nl) : Rel (HB (bl S σ μ) S) r T ng np nx nl := h.blk (fun q hq => bl_at hq)
theorem Rel.row (h : Rel σ r T ng np nx nl) (e : ∀ i, i < 516 → r' i = r i) : Rel σ r' T ng np nx nl := by
  obtain ⟨hC, hVG, hVP, hVX, hRQ, hRN, hRU⟩ := h
  obtain ⟨n1, n2, n3, n4⟩ := hC.n
  obtain ⟨a, b, c, d, e', k⟩ := hC
  refine ⟨⟨?_, fun g f hg hf => ?_, fun p f hp hf => ?_, fun x f hx hf => ?_, fun x f hx hf => ?_, ?_⟩, fun g hg => VG_keep (fun f => rfl) (fun q hq _ _ => ⟨rfl, rfl, rfl⟩) (e _ (by omega)) (hVG g hg), hVP, hVX, KQ_same n1 (fun q j _ _ _ => rfl) (fun q hq => ⟨rfl, rfl⟩) (fun q hq => e _ (by omega)) hRQ, fun q hq hw => ?_, hRU⟩
  · unfold KC
    rw [e 1 (by decide), e 2 (by decide), e 3 (by decide), e 4 (by decide), e 6 (by decide), e 0 (by decide), e 7 (by decide)]
    exact a
  · have := gm_lt hf
    rw [e _ (by omega)]; exact b g f hg hf
  · have := pm_lt hf
    rw [e _ (by omega)]; exact c p f hp hf
  · rw [e _ (by omega)]; exact d x f hx hf
  · have := lm_lt hf
    rw [e _ (by omega)]; exact e' x f hx hf
  · obtain ⟨n, l, h1, h2, h3, h4, h5, h6⟩ := k
    exact ⟨n, l, h1, h2, h3, h4, by rw [e 5 (by decide)]; exact h5, fun k j hk hj => by
      rw [e _ (by omega)]
      exact h6 k j hk hj⟩
  · exact NumOk_keep (e _ (by omega)) (e 7 (by decide)) (e _ (by omega)) (e 1 (by decide)) (hRN q hq hw)
theorem Rel.mono {T' : Nat} (h : Rel σ r T ng np nx nl) (hT : T ≤ T') (hT' : T' < 1073741824) : Rel σ r T' ng np nx nl := by
  refine h.keep ?_ hT (fun _ _ _ _ _ => rfl) (fun _ _ _ => rfl)
  obtain ⟨a, b, c, d, e, k⟩ := h.1
  obtain ⟨a1, a2, a3, a4, a5, ⟨t, t1, t2⟩, ⟨m, m1, m2⟩, a8⟩ := a
  exact ⟨⟨a1, a2, a3, a4, a5, ⟨t, by omega, t2⟩, ⟨m, by omega, m2⟩, hT'⟩, b, c, d, e, k⟩
theorem up2_k {μ : Mm} {k j q : Nat} {v : Int32} (h : q ≠ k) : up2 μ k j v q = μ q := by
  unfold up2
  rw [if_neg h]
end HIST
