/-! ===== within(long, long, long) ===== -/
def F_X12_within : FT := fun As _ μ _ k => match As with
  | [.long v, .long lo, .long hi] => k (some (.int (b2 (lo ≤ v ∧ v ≤ hi)))) μ
  | _ => False
set_option maxHeartbeats 1000000 in
theorem f_X12_within {Z : Zt} {d : Nat} {As : List Value} {S : Sh} {μ : Mi} {ρ : Mr} {Rp : RT} (h : F_X12_within As S μ ρ (fun r μ' => Rp r S μ' ρ)) : MS Z (d + 1) jX12_within As S μ ρ Rp := by
  unfold F_X12_within at h
  split at h
  · rename_i v lo hi
    intro hEO
    refine Met.ofW (cc := cX12_within) (maxL := 6) (ret := some .boolean) (by decide +kernel) rfl ?_
    intro p e s m args below meth c s₁ B hml hv
    obtain ⟨rfl, hH, hK, hE⟩ := hv
    have hx := B.exec
    have hb := B.bytes
    have hr := B.returns
    have hlocks := B.notSynchronized
    have hl := lv_entry ([.long v, .long lo, .long hi]) (n := 6) (Nat.le_of_ble_eq_true rfl)
    show W p Z.1 e _ s m _ below meth c s.heap [] 0 0 _ (entryFrame m ([.long v, .long lo, .long hi] : List Value).toArray 6)
    rw [lg_entry_eq]
    generalize (lg_sl ([.long v, .long lo, .long hi]) ++ List.replicate (6 - (lg_sl ([.long v, .long lo, .long hi])).length) Slot.unset).toArray = ls at hl ⊢
    have hl : lv_has ls 6 [(0, .long v), (2, .long lo), (4, .long hi)] := hl
    have fin : ∀ (x : Int32), (x = 0 ∨ x = 1) → Rp (some (.int x)) S μ ρ → W p Z.1 e (headSpec (wsS1 jX12_within) (rmS (d + 1) jX12_within)).room s m (List.map (sV Z.2.2.1 Z.2.2.2.1) [.long v, .long lo, .long hi]).toArray below meth c s.heap [] 0 0 (MQ below (QcS Z Rp) (List.map (sV Z.2.2.1 Z.2.2.2.1) [.long v, .long lo, .long hi]).toArray s 0 0 (fun a => Z.2.2.1 < a)) (F0 m 18 ls [.int x]) := by
      intro x hx01 hR
      exact W.zret (ty := .boolean) hx hb hr (by rcases hx01 with rfl | rfl <;> rfl) (fun t ht hW => ⟨some (.int x), S, μ, ρ, rfl, hR, by rw [ht]; exact hH, fun a ha => by rw [ht]⟩) (fun q hq => by cases hq) (by decide +kernel) hlocks
    have zero : ¬ (lo ≤ v ∧ v ≤ hi) → W p Z.1 e (headSpec (wsS1 jX12_within) (rmS (d + 1) jX12_within)).room s m (List.map (sV Z.2.2.1 Z.2.2.2.1) [.long v, .long lo, .long hi]).toArray below meth c s.heap [] 0 0 (MQ below (QcS Z Rp) (List.map (sV Z.2.2.1 Z.2.2.2.1) [.long v, .long lo, .long hi]).toArray s 0 0 (fun a => Z.2.2.1 < a)) (F0 m 17 ls []) := by
      intro hn
      simp only [b2, hn, if_false] at h
      exact lv_iconst (n := 0) (v := 0) hx hb (by decide +kernel) (by decide) (fin 0 (Or.inl rfl) h)
    have cmp_lt : ∀ x y : Int64, lg_cmp x y < 0 ↔ x < y := by
      intro x y
      unfold lg_cmp
      by_cases h1 : x > y
      · rw [if_pos h1]
        exact ⟨fun z => absurd z (by decide), fun z => (Int64.lt_irrefl (Int64.lt_trans z h1)).elim⟩
      · rw [if_neg h1]
        by_cases h2 : x = y
        · rw [if_pos h2]
          exact ⟨fun z => absurd z (by decide), fun z => by subst h2; exact (Int64.lt_irrefl z).elim⟩
        · rw [if_neg h2]
          exact ⟨fun _ => Int64.lt_of_le_of_ne (Int64.not_lt.mp h1) h2, fun _ => by decide⟩
    have cmp_gt : ∀ x y : Int64, 0 < lg_cmp x y ↔ y < x := by
      intro x y
      unfold lg_cmp
      by_cases h1 : x > y
      · rw [if_pos h1]
        exact ⟨fun _ => h1, fun _ => by decide⟩
      · rw [if_neg h1]
        by_cases h2 : x = y
        · rw [if_pos h2]
          exact ⟨fun z => absurd z (by decide), fun z => absurd z h1⟩
        · rw [if_neg h2]
          exact ⟨fun z => absurd z (by decide), fun z => absurd z h1⟩
    refine lv_lload_n (k := 0) hx hb (by decide +kernel) rfl (lv_at hl 0 rfl) ?_
    refine lv_lload_n (k := 2) hx hb (by decide +kernel) rfl (lv_at hl 1 rfl) ?_
    refine W.lcmp hx hb (by decide +kernel) ?_
    refine lv_if_lt (off := 14) (tgt := 17) hx hb (by decide +kernel) (by decide) (fun hc => zero (fun z => ?_)) (fun hc => ?_)
    · exact absurd z.1 (Int64.not_le.mpr ((cmp_lt _ _).mp hc))
    refine lv_lload_n (k := 0) hx hb (by decide +kernel) rfl (lv_at hl 0 rfl) ?_
    refine lv_lload hx hb (i := 4) (by decide +kernel) (lv_at hl 2 rfl) ?_
    refine W.lcmp hx hb (by decide +kernel) ?_
    refine lv_if_gt (off := 7) (tgt := 17) hx hb (by decide +kernel) (by decide) (fun hc2 => zero (fun z => ?_)) (fun hc2 => ?_)
    · exact absurd z.2 (Int64.not_le.mpr ((cmp_gt _ _).mp hc2))
    have hy : lo ≤ v ∧ v ≤ hi := ⟨Int64.not_lt.mp (fun z => hc ((cmp_lt _ _).mpr z)), Int64.not_lt.mp (fun z => hc2 ((cmp_gt _ _).mpr z))⟩
    simp only [b2, hy, and_self, if_true] at h
    refine lv_iconst (n := 1) (v := 1) hx hb (by decide +kernel) (by decide) ?_
    exact lv_goto (off := 4) (tgt := 18) hx hb (by decide +kernel) (by decide) (fin 1 (Or.inr rfl) h)
  · exact h.elim
/-- comparisons of ints made long -/
theorem l_le (x y : Int32) : x.toInt64 ≤ y.toInt64 ↔ x.toInt ≤ y.toInt := by rw [Int64.le_iff_toInt_le, Int32.toInt_toInt64, Int32.toInt_toInt64]
theorem l_leC (x : Int32) (y : Int64) : x.toInt64 ≤ y ↔ x.toInt ≤ y.toInt := by rw [Int64.le_iff_toInt_le, Int32.toInt_toInt64]
theorem l_geC (x : Int32) (y : Int64) : y ≤ x.toInt64 ↔ y.toInt ≤ x.toInt := by rw [Int64.le_iff_toInt_le, Int32.toInt_toInt64]
