/-! ===== what a store hears depends on itself and on what is heard ===== -/
section Lc2
variable {A B g : Rw} {s f : Nat}
theorem up_w {A : Rw} {s j : Nat} {v : Int32} (hs : s < 5) (hj : j < 514) (h : rg (A 4510) 0 60) : rg ((up A (514 * s + j) v) 4510) 0 60 := by rw [up_ne (by omega)]; exact h
theorem Lc_asked (hs : s < 5) (h : Lc s A B) {p p' : Prop} [Decidable p] [Decidable p'] (hp : p' ↔ p) {l t : Int32} (hl : rg (A (514 * s + 4)) 0 120) (ha : rg (A 4510) 0 60) (hb : rg (B 4510) 0 60) : Lc s (qAsked A s f p l t) (qAsked B s f p' l t) := by
  unfold qAsked
  refine Lc_if ?_ (fun _ => Lc_post hs (Lc_up h rfl) (up_w hs (by omega) ha) (up_w hs (by omega) hb)) (fun _ => Lc_post hs h ha hb)
  unfold gives
  rw [Lc_tm hs h hl, h.at (j := 2) (by omega), h.at (j := 4) (by omega), hp]
theorem Lc_bits (h : Lc s A B) : Lc s (up A (514 * s + 8) (A (514 * s + 8) ||| (1 : Int32) <<< (nI f &&& 31))) (up B (514 * s + 8) (B (514 * s + 8) ||| (1 : Int32) <<< (nI f &&& 31))) := Lc_up h (by rw [h.at (j := 8) (by omega)])
theorem Lc_voted (hs : s < 5) (h : Lc s A B) (ha : ldOK A s) (hb : ldOK B s) : Lc s (qVoted A s f) (qVoted B s f) := by
  have h1 := Lc_bits (f := f) h
  have l1 : rg ((up A (514 * s + 8) (A (514 * s + 8) ||| (1 : Int32) <<< (nI f &&& 31))) (514 * s + 4)) 0 120 := by rw [up_ne (by omega)]; exact ha.1.1.2.1
  unfold qVoted
  refine Lc_if ?_ (fun _ => Lc_leads hs h1 (ldOK_up (k := 8) hs ha (by decide)) (ldOK_up (k := 8) hs hb (by decide))) (fun _ => h1)
  rw [Lc_mem hs h1 l1, h1.at (j := 8) (by omega)]
def tk1a (A g : Rw) (s k : Nat) : Rw := if nI ((g 4).toNatClampNeg + 1 + k) ≤ A (514 * s + 4) ∧ ¬ A (514 * s + 30 + 4 * ((g 4).toNatClampNeg + 1 + k)) = g (9 + 4 * k) then up A (514 * s + 4) (nI ((g 4).toNatClampNeg + 1 + k - 1)) else A
theorem tk1_eq {A g : Rw} {s k : Nat} : qTk1 A g s k = if nI ((g 4).toNatClampNeg + 1 + k) ≤ A (514 * s + 5) then A else if tk1a A g s k (514 * s + 4) < nI ((g 4).toNatClampNeg + 1 + k) then qPut (tk1a A g s k) s (g (9 + 4 * k)) (g (9 + 4 * k + 1)) (g (9 + 4 * k + 2)) (g (9 + 4 * k + 3)) else tk1a A g s k := rfl
theorem Lc_tk1 (h : Lc s A B) {k b : Nat} (hb : g 4 = nI b) (hb1 : b + k + 1 ≤ 120) : Lc s (qTk1 A g s k) (qTk1 B g s k) := by
  have h1 : Lc s (tk1a A g s k) (tk1a B g s k) := by
    unfold tk1a
    refine Lc_if ?_ (fun _ => Lc_up h rfl) (fun _ => h)
    rw [hb, nI_clamp (by omega), h.1 (514 * s + 30 + 4 * (b + 1 + k)) (by omega) (by omega), h.at (j := 4) (by omega)]
  rw [tk1_eq, tk1_eq]
  exact Lc_if (by rw [h.at (j := 5) (by omega)]) (fun _ => h) (fun _ => Lc_if (by rw [h1.at (j := 4) (by omega)]) (fun _ => Lc_put h1 rfl rfl) (fun _ => h1))
theorem Lc_tks {b : Nat} (hb : g 4 = nI b) : ∀ (n k : Nat) (A B : Rw), b + n + k ≤ 120 → Lc s A B → Lc s (tksF g s n k A) (tksF g s n k B) := by
  intro n
  induction n with
  | zero => intro k A B _ h; exact h
  | succ n ih =>
    intro k A B hk h
    show Lc s (tksF g s n (k + 1) (qTk1 A g s k)) (tksF g s n (k + 1) (qTk1 B g s k))
    exact ih (k + 1) _ _ (by omega) (Lc_tk1 h hb (by omega))
def tka (A : Rw) (s : Nat) : Rw := if A (514 * s + 3) = 2 then A else qPlays A s 0
theorem takes_eq {A g : Rw} {s f : Nat} {p : Prop} [Decidable p] : qTakes A g s f p = if ¬ p then qAnsTook A (g 8) s f 0 (A (514 * s + 4)) else if tka A s (514 * s + 4) < g 4 then qAnsTook (tka A s) (g 8) s f 0 (tka A s (514 * s + 4)) else
  if ¬ g 4 < tka A s (514 * s + 5) ∧ ¬ qTermAt (tka A s) s (g 4) = g 5 then qAnsTook (tka A s) (g 8) s f 0 (g 4 - 1) else
  qAnsTook (qDoes (tksF g s (g 6).toNatClampNeg 0 (tka A s)) s (if g 7 < g 4 + g 6 then g 7 else g 4 + g 6)) (g 8) s f 1 (g 4 + g 6) := rfl
theorem tka_ok (hs : s < 5) (ha : agOK A s) (hsl : (A (514 * s + 5)).toInt ≤ (A (514 * s + 4)).toInt) : agOK (tka A s) s ∧ (tka A s (514 * s + 5)).toInt ≤ (tka A s (514 * s + 4)).toInt := by
  unfold tka
  split
  · exact ⟨ha, hsl⟩
  · exact ⟨agOK_plays hs ha, by rw [qPlays_out (by omega), qPlays_out (by omega)]; exact hsl⟩
theorem Lc_takes (hs : s < 5) (h : Lc s A B) {p p' : Prop} [Decidable p] [Decidable p'] (hp : p' ↔ p) (hg : tkOK g) (ha : agOK A s) (hb : agOK B s) (sa : (A (514 * s + 5)).toInt ≤ (A (514 * s + 4)).toInt) (sb : (B (514 * s + 5)).toInt ≤ (B (514 * s + 4)).toInt) : Lc s (qTakes A g s f p) (qTakes B g s f p') := by
  rw [takes_eq, takes_eq]
  have h1 : Lc s (tka A s) (tka B s) := by
    unfold tka
    exact Lc_if (by rw [h.at (j := 3) (by omega)]) (fun _ => h) (fun _ => Lc_plays h)
  obtain ⟨a1, a2⟩ := tka_ok hs ha sa
  obtain ⟨b1, b2⟩ := tka_ok hs hb sb
  generalize tka A s = A1 at *
  generalize tka B s = B1 at *
  have e4 := h1.at (j := 4) (by omega)
  unfold qAnsTook
  refine Lc_if (by rw [hp]) (fun _ => Lc_post hs h ha.1.1 hb.1.1) (fun _ => Lc_if (by rw [e4]) (fun _ => Lc_post hs h1 a1.1.1 b1.1.1) (fun c1 => Lc_if (by rw [h1.at (j := 5) (by omega), Lc_tm hs h1 a1.1.2.1]) (fun _ => Lc_post hs h1 a1.1.1 b1.1.1) (fun _ => ?_)))
  obtain ⟨b, eb, eb0, -, eb1⟩ := rg_ex hg.1
  have lo : ∀ C : Rw, agOK C s → (C (514 * s + 5)).toInt ≤ (C (514 * s + 4)).toInt → ¬ C (514 * s + 4) < g 4 → tkI C s (b + 0) := fun C q1 q2 q3 => ⟨q1, q2, by
    have := Int32.not_lt.mp q3
    rw [Int32.le_iff_toInt_le, eb, nI_toInt eb0] at this
    exact this⟩
  have hA := tks_ok hs eb eb0 hg (g 6).toNatClampNeg 0 A1 (by omega) (lo A1 a1 a2 c1)
  have hB := tks_ok hs eb eb0 hg (g 6).toNatClampNeg 0 B1 (by omega) (lo B1 b1 b2 (by rw [e4]; exact c1))
  have tA := qTakes_to eb eb0 hg hA
  have tB := qTakes_to eb eb0 hg hB
  have h2 : Lc s (tksF g s (g 6).toNatClampNeg 0 A1) (tksF g s (g 6).toNatClampNeg 0 B1) := by
    obtain ⟨m, em, em0, -, em1⟩ := rg_ex hg.2.1
    have := hg.2.2.1
    rw [em, eb, nI_toInt em0, nI_toInt eb0] at this
    exact Lc_tks eb _ 0 A1 B1 (by rw [em, nI_clamp em0]; omega) h1
  refine Lc_post hs (Lc_does hs h2 hA.1 tA.1 (Or.inl tA.2)) ?_ ?_
  · rw [qDoes_out hs hA.1 tA.1 (Or.inl tA.2) (by omega) (by omega) (by omega)]
    exact hA.1.1.1
  · rw [qDoes_out hs hB.1 tB.1 (Or.inl tB.2) (by omega) (by omega) (by omega)]
    exact hB.1.1.1
theorem Lc_ansRead (hs : s < 5) (h : Lc s A B) (hl : rg (A (514 * s + 4)) 0 120) (h12 : rg (A (514 * s + 12)) 0 3) : Lc s (qAnsRead A s) (qAnsRead B s) := by
  unfold qAnsRead
  refine Lc_if (by rw [Lc_mem hs h hl, h.at (j := 15) (by omega)]) (fun _ => Lc_up (Lc_up (Lc_up h rfl) ?_) rfl) (fun _ => h)
  obtain ⟨n, en, en0, -, en1⟩ := rg_ex h12
  rw [h.at (j := 12) (by omega), en, nI_clamp en0]
  exact h.1 _ (by omega) (by omega)
theorem Lc_hears (hs : s < 5) (h : Lc s A B) {m8 : Int32} (hl : rg (A (514 * s + 4)) 0 120) (h12 : rg (A (514 * s + 12)) 0 3) : Lc s (qHears A m8 s f) (qHears B m8 s f) := by
  unfold qHears
  exact Lc_if (by rw [h.at (j := 11) (by omega), h.at (j := 14) (by omega)]) (fun _ => h) (fun _ => Lc_ansRead hs (Lc_up h (by rw [h.at (j := 15) (by omega)])) (by rw [up_ne (by omega)]; exact hl) (by rw [up_ne (by omega)]; exact h12))
theorem Lc_goesOn (hs : s < 5) (hf : f < 5) (h : Lc s A B) (ha : agOK A s) (hb : agOK B s) : Lc s (qGoesOn A s f) (qGoesOn B s f) := by
  have h1 := Lc_agr hs h ha hb
  unfold qGoesOn
  exact Lc_if (by rw [h1.at (j := 3) (by omega), h1.at (j := 4) (by omega), h1.1 (514 * s + 24 + f) (by omega) (by omega)]) (fun _ => Lc_feed hs h1 (agOK_agr hs ha).1.1 (agOK_agr hs hb).1.1) (fun _ => h1)
theorem Lc_took (hs : s < 5) (hf : f < 5) (h : Lc s A B) {p : Prop} [Decidable p] {m8 x : Int32} (ha : agOK A s) (hb : agOK B s) (hp : rg x (-1) 120) (hh : rg (A (514 * s + 29 + f)) 0 120) (h12 : rg (A (514 * s + 12)) 0 3) : Lc s (qTook A m8 s f p x) (qTook B m8 s f p x) := by
  have h1 := Lc_hears (f := f) (m8 := m8) hs h ha.1.2.1 h12
  have a1 := agOK_hears (m8 := m8) (f := f) hs ha
  have b1 := agOK_hears (m8 := m8) (f := f) hs hb
  have hh' : rg (qHears A m8 s f (514 * s + 29 + f)) 0 120 := by rw [qHears_out (by omega)]; exact hh
  unfold qTook
  generalize qHears A m8 s f = A1 at *
  generalize qHears B m8 s f = B1 at *
  have e24 := h1.1 (514 * s + 24 + f) (by omega) (by omega)
  have e29 := h1.1 (514 * s + 29 + f) (by omega) (by omega)
  have h2 : Lc s (up A1 (514 * s + 29 + f) (gt (A1 (514 * s + 29 + f)) x)) (up B1 (514 * s + 29 + f) (gt (B1 (514 * s + 29 + f)) x)) := Lc_up h1 (by rw [e29])
  have nx : ∀ C : Rw, agOK C s → rg (C (514 * s + 29 + f)) 0 120 → agOK (up (up C (514 * s + 29 + f) (gt (C (514 * s + 29 + f)) x)) (514 * s + 24 + f) ((up C (514 * s + 29 + f) (gt (C (514 * s + 29 + f)) x)) (514 * s + 29 + f) + 1)) s := fun C q1 q2 => agOK_next hs hf (agOK_has hs hf q1) (by
    rw [up_at]
    exact rg_w (rg_1 (gt_rg q2 hp.2) (by decide) (by decide)) (by decide) (by decide))
  refine Lc_if Iff.rfl (fun _ => Lc_feed hs (Lc_up h1 (by rw [e24, e29])) (by rw [up_ne (by omega)]; exact a1.1.1) (by rw [up_ne (by omega)]; exact b1.1.1)) (fun _ => Lc_goesOn hs hf (Lc_up h2 (by rw [h2.1 (514 * s + 29 + f) (by omega) (by omega)])) (nx A1 a1 hh') (nx B1 b1 (by rw [e29]; exact hh')))
theorem Lc_installed (hs : s < 5) (hf : f < 5) (h : Lc s A B) {m8 x : Int32} (ha : agOK A s) (hb : agOK B s) (hp : rg x 0 120) (hh : rg (A (514 * s + 29 + f)) 0 120) (h12 : rg (A (514 * s + 12)) 0 3) : Lc s (qInstalled A m8 s f x) (qInstalled B m8 s f x) := by
  have h1 := Lc_hears (f := f) (m8 := m8) hs h ha.1.2.1 h12
  have a1 := agOK_hears (m8 := m8) (f := f) hs ha
  have b1 := agOK_hears (m8 := m8) (f := f) hs hb
  have hh' : rg (qHears A m8 s f (514 * s + 29 + f)) 0 120 := by rw [qHears_out (by omega)]; exact hh
  unfold qInstalled
  generalize qHears A m8 s f = A1 at *
  generalize qHears B m8 s f = B1 at *
  have e29 := h1.1 (514 * s + 29 + f) (by omega) (by omega)
  have h2 : Lc s (up A1 (514 * s + 29 + f) (gt (A1 (514 * s + 29 + f)) x)) (up B1 (514 * s + 29 + f) (gt (B1 (514 * s + 29 + f)) x)) := Lc_up h1 (by rw [e29])
  have nx : ∀ C : Rw, agOK C s → rg (C (514 * s + 29 + f)) 0 120 → agOK (up (up C (514 * s + 29 + f) (gt (C (514 * s + 29 + f)) x)) (514 * s + 24 + f) (gt ((up C (514 * s + 29 + f) (gt (C (514 * s + 29 + f)) x)) (514 * s + 24 + f)) ((up C (514 * s + 29 + f) (gt (C (514 * s + 29 + f)) x)) (514 * s + 29 + f) + 1))) s := fun C q1 q2 => by
    have hc := agOK_has (v := gt (C (514 * s + 29 + f)) x) hs hf q1
    refine agOK_next hs hf hc ?_
    rw [up_at]
    exact rg_w (gt_rg' (lo := 1) (hc.1.2.2.2 f hf).2 (rg_w (rg_1 (gt_rg q2 hp.2) (by decide) (by decide)) (by decide) (by decide))) (by decide) (by decide)
  refine Lc_if Iff.rfl (fun _ => h1) (fun _ => Lc_goesOn hs hf (Lc_up h2 (by rw [h2.1 (514 * s + 29 + f) (by omega) (by omega), h2.1 (514 * s + 24 + f) (by omega) (by omega)])) (nx A1 a1 hh') (nx B1 b1 (by rw [e29]; exact hh')))
def sia (A : Rw) (s : Nat) (p t : Int32) : Rw := if qTermAt A s p = t then A else up A (514 * s + 4) p
def sib (A g : Rw) (s : Nat) : Rw := fun i => if 514 * s + 16 ≤ i ∧ i < 514 * s + 20 then g (9 + (i - (514 * s + 16))) else if 514 * s + 20 ≤ i ∧ i < 514 * s + 24 then g (9 + (i - (514 * s + 20))) else A i
theorem si_eq {A g : Rw} {s : Nat} {p t : Int32} : qSnapIn A g s p t = up (up (sib (up (up (up (sia A s p t) (514 * s + 5) p) (514 * s + 6) t) (514 * s + 7) p) g s) (514 * s + 9) (g 13)) (514 * s + 10) (g 14) := rfl
theorem Lc_snapIn (hs : s < 5) (h : Lc s A B) {p t : Int32} (hl : rg (A (514 * s + 4)) 0 120) : Lc s (qSnapIn A g s p t) (qSnapIn B g s p t) := by
  rw [si_eq, si_eq]
  have h1 : Lc s (sia A s p t) (sia B s p t) := by
    unfold sia
    exact Lc_if (by rw [Lc_tm hs h hl]) (fun _ => h) (fun _ => Lc_up h rfl)
  have h2 := Lc_up (Lc_up (Lc_up h1 (k := 514 * s + 5) (rfl : p = p)) (k := 514 * s + 6) (rfl : t = t)) (k := 514 * s + 7) (rfl : p = p)
  refine Lc_up (Lc_up ?_ rfl) rfl
  generalize up (up (up (sia A s p t) (514 * s + 5) p) (514 * s + 6) t) (514 * s + 7) p = A1 at *
  generalize up (up (up (sia B s p t) (514 * s + 5) p) (514 * s + 6) t) (514 * s + 7) p = B1 at *
  refine ⟨fun k k1 k2 => ?_, fun k hk => ?_⟩
  · unfold sib
    split
    · rfl
    · split
      · rfl
      · exact h2.1 k k1 k2
  · unfold sib
    rw [if_neg (by omega), if_neg (by omega), if_neg (by omega), if_neg (by omega)]
    exact h2.2 k hk
def ina (A g : Rw) (s : Nat) (p : Prop) [Decidable p] : Rw := if p then (if (qPlays A s 0) (514 * s + 7) < g 4 then qSnapIn (qPlays A s 0) g s (g 4) (g 5) else qPlays A s 0) else A
theorem in_eq {A g : Rw} {s f : Nat} {p : Prop} [Decidable p] : qInstalls A g s f p = qPost (ina A g s p) s f (rowS (nI s) (nI f) (ina A g s p (514 * s + 1)) 5 (if p then g 4 else 0) 0 (g 8)) := rfl
theorem ina_w (hs : s < 5) {p : Prop} [Decidable p] (hw : rg (A 4510) 0 60) : rg (ina A g s p 4510) 0 60 := by
  unfold ina
  split
  · split
    · rw [snapIn_w hs, qPlays_out (by omega)]; exact hw
    · rw [qPlays_out (by omega)]; exact hw
  · exact hw
theorem Lc_installs (hs : s < 5) (h : Lc s A B) {p p' : Prop} [Decidable p] [Decidable p'] (hp : p' ↔ p) (hl : rg (A (514 * s + 4)) 0 120) (ha : rg (A 4510) 0 60) (hb : rg (B 4510) 0 60) : Lc s (qInstalls A g s f p) (qInstalls B g s f p') := by
  rw [in_eq, in_eq]
  refine Lc_post hs ?_ (ina_w hs ha) (ina_w hs hb)
  have h1 := Lc_plays (r := 0) h
  unfold ina
  exact Lc_if hp (fun _ => Lc_if (by rw [h1.at (j := 7) (by omega)]) (fun _ => Lc_snapIn hs h1 (by rw [qPlays_out (by omega)]; exact hl)) (fun _ => h1)) (fun _ => h)
theorem Lc_wouldBe (hs : s < 5) (h : Lc s A B) {a b c : Int32} (ha : rg (A 4510) 0 60) (hb : rg (B 4510) 0 60) : Lc s (qWouldBe A s f a b c) (qWouldBe B s f a b c) := by
  unfold qWouldBe
  split <;> split <;> exact Lc_post hs h ha hb
theorem would_su {A : Rw} {s f : Nat} (hs : s < 5) (h : stOK A s) (h200 : rg (A (514 * s + 1) + 1) 0 200) : suOK (up A (514 * s + 8) (A (514 * s + 8) ||| (1 : Int32) <<< (nI f &&& 31))) s := by
  refine ⟨agOK_of hs h.1 (by rw [up_ne (by omega)]; exact h.1.1.1) (up_ne (by omega)) (up_ne (by omega)) (up_ne (by omega)) (fun t ht => by rw [up_ne (by omega)]; exact h.1.1.2.2.2 t ht) (fun i q1 q2 => up_ne (by omega)), by rw [up_ne (by omega), up_ne (by omega)]; exact h.2.1, ?_⟩
  rw [up_ne (by omega)]
  have h4 := h.2.2.1
  have h6 : (A (514 * s + 1) + 1).toInt = (A (514 * s + 1)).toInt + 1 := by
    have := h4.1; have := h4.2
    rw [Jvm.Kit.i32_add] <;> rw [show (1 : Int32).toInt = 1 by decide] <;> omega
  have h7 : (A (514 * s + 1) + 1).toInt ≤ 200 := h200.2
  exact ⟨h4.1, by omega⟩
theorem Lc_would (hs : s < 5) (h : Lc s A B) {p : Prop} [Decidable p] {tm : Int32} (ha : stOK A s) (hb : stOK B s) (htm : rg tm 0 200) : Lc s (qWould A s f p tm) (qWould B s f p tm) := by
  have h1 := Lc_bits (f := f) h
  have l1 : rg ((up A (514 * s + 8) (A (514 * s + 8) ||| (1 : Int32) <<< (nI f &&& 31))) (514 * s + 4)) 0 120 := by rw [up_ne (by omega)]; exact ha.1.1.2.1
  have e1 := h.at (j := 1) (by omega)
  unfold qWould
  refine Lc_if Iff.rfl (fun _ => Lc_if (by rw [e1]) (fun _ => Lc_follow h) (fun _ => h)) (fun _ => Lc_if (by rw [e1]) (fun _ => h) (fun c => Lc_if (by rw [Lc_mem hs h1 l1, h1.at (j := 8) (by omega)]) (fun _ => ?_) (fun _ => h1)))
  have c := Decidable.not_not.mp c
  rw [c] at htm
  exact Lc_stands hs h1 (would_su hs ha htm) (would_su hs hb (by rw [e1]; exact htm))
theorem Lc_heard (hs : s < 5) (hf : f < 5) (h : Lc s A B) (ha : stOK A s) (hb : stOK B s) (hg : mOK g) : Lc s (qHeard A g s f) (qHeard B g s f) := by
  obtain ⟨gf, gt_, gtm, gk, gtk, gtook, gins⟩ := hg
  have e1 := h.at (j := 1) (by omega)
  have e3 := h.at (j := 3) (by omega)
  have hl := ha.1.1.2.1
  unfold qHeard
  refine Lc_if Iff.rfl (fun _ => Lc_asked hs h (by rw [e1]) hl ha.1.1.1 hb.1.1.1) (fun n0 => Lc_if Iff.rfl (fun _ => Lc_if (by rw [e1, e3]) (fun c => Lc_voted hs h (ldOK_st ha c.2.2) (ldOK_st hb (by rw [e3]; exact c.2.2))) (fun _ => h)) (fun n1 => Lc_if Iff.rfl (fun c => Lc_takes hs h (by rw [e1]) (gtk c) ha.1 hb.1 ha.2.1 hb.2.1)
    (fun n2 => Lc_if Iff.rfl (fun c => Lc_if (by rw [e1, e3]) (fun _ => Lc_took hs hf h ha.1 hb.1 (gtook c) (ha.2.2.2.2.1 f hf) ha.2.2.2.1) (fun _ => h)) (fun n3 => Lc_if Iff.rfl (fun _ => Lc_installs hs h (by rw [e1]) hl ha.1.1.1 hb.1.1.1) (fun n4 => Lc_if Iff.rfl (fun _ => Lc_if (by rw [e1, e3, Lc_mem hs h hl]) (fun c => Lc_stands hs h (suOK_st ha c.2.2.2) (suOK_st hb (by rw [e1]; exact c.2.2.2))) (fun _ => h))
      (fun n6 => Lc_if Iff.rfl (fun _ => Lc_wouldBe hs h ha.1.1.1 hb.1.1.1) (fun n7 => Lc_if Iff.rfl (fun _ => Lc_if (by rw [e3]) (fun _ => Lc_would hs h ha hb gtm) (fun _ => h)) (fun n8 => Lc_if (by rw [e1, e3]) (fun _ => Lc_installed hs hf h ha.1 hb.1 (gins ?_) (ha.2.2.2.2.1 f hf) ha.2.2.2.1) (fun _ => h)))))))))
  obtain ⟨kk, ek, ek0, -, ek1⟩ := rg_ex gk
  have : kk = 0 ∨ kk = 1 ∨ kk = 2 ∨ kk = 3 ∨ kk = 4 ∨ kk = 5 ∨ kk = 6 ∨ kk = 7 ∨ kk = 8 := by omega
  rcases this with rfl | rfl | rfl | rfl | rfl | rfl | rfl | rfl | rfl
  · exact absurd ek n0
  · exact absurd ek n1
  · exact absurd ek n2
  · exact absurd ek n3
  · exact absurd ek n4
  · exact ek
  · exact absurd ek n6
  · exact absurd ek n7
  · exact absurd ek n8
end Lc2
