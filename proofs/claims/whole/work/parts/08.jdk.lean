/-! ===== System.arraycopy, Math.max, Math.min; the reference's within(long, long, long) ===== -/
section Jdk
variable {Z : Zt} {d : Nat} {j : Jm} {own : String} {p : Program} {e : Env} {R : Room} {s : State} {m : MethodId} {args : Array Value} {below : List Frame} {meth : Method} {c : Code} {Q : State → Prop} {pc : Nat} {t J : PT}
def tCopy (t : PT) : PT := fun L st S q μ ρ => match st with
  | .int n :: .int dp :: .ref b :: .int sp :: .ref a :: st => (S.2 a).1 = 20 ∧ (S.2 b).1 = 20 ∧ ¬ sp < 0 ∧ ¬ dp < 0 ∧ ¬ n < 0 ∧ sp.toNatClampNeg + n.toNatClampNeg ≤ (S.2 a).2 ∧ dp.toNatClampNeg + n.toNatClampNeg ≤ (S.2 b).2 ∧ okR 8 st ∧
      t L st S q (upF μ b (va_cpy (μ a) (μ b) sp.toNatClampNeg dp.toNatClampNeg n.toNatClampNeg)) ρ
  | _ => False
theorem nfw_ok : nativeFrameWords "java/lang/System" "arraycopy" 5 + 11 ≤ 100 := by decide +kernel
theorem s_copy (C : Cx Z d j own p R s m args meth c) {idx : Nat} (hw1 : Cond.methodLink own idx arraycopyName ∈ lw_good) (hw2 : Cond.native arraycopyName ∈ lw_good) (hw3 : Cond.static arraycopyName ∈ lw_good) (hw4 : Cond.initialized RJ10 ∈ lw_good) (hd : decode j.2.1 pc = .ok (.invokestatic idx, 3))
    (k1 : Sd Z j p e R s m args below meth c Q (pc + 3) t) : Sd Z j p e R s m args below meth c Q pc (tCopy t) := by
  have nn : ∀ z : Int32, ¬ z < 0 → z.toInt = (z.toNatClampNeg : Int) := by
    intro z hz
    have hz0 : (0 : Int) ≤ z.toInt := by
      have := Int32.not_lt.mp hz
      simpa using Int32.le_iff_toInt_le.mp this
    show z.toInt = ((z.toInt.toNat : Nat) : Int)
    omega
  intro L st S q μ ρ h H locs ls hH hB hl hL
  unfold tCopy at h
  split at h
  · rename_i n dp b sp a st
    obtain ⟨ka, kb, h1, h2, h3, h4, h5, h6, h7⟩ := h
    obtain ⟨ha, hca⟩ := hH.arr ka rfl
    obtain ⟨hb1, hcb⟩ := hH.arr kb rfl
    obtain ⟨hx, hb, hml, hown, hts, hr, hlo, hK, hE, hEO, hR, hnm⟩ := C
    intro T hT X
    obtain ⟨-, k0, hk0, cm0, hkk0⟩ := (hK.2.1 20 rfl).1 (S.2 a).2 (fun i => avv Z.2.2.1 20 (μ a i) (ρ a i))
    obtain ⟨-, k1', hk1, cm1, hkk1⟩ := (hK.2.1 20 rfl).1 (S.2 b).2 (fun i => avv Z.2.2.1 20 (μ b i) (ρ b i))
    have hcats := sV_map_len (B := Z.2.2.1) (X := Z.2.2.2.1) st h6
    obtain ⟨vm', X', step⟩ := X.arraycopy hx hown (hts _ hw1) (hts _ hw2) (hts _ hw3) (hts _ hw4) (src := Z.2.2.1 + a) (dst := Z.2.2.1 + b) (srcPos := sp) (destPos := dp) (n := n) (by rw [hT]; exact hca) (by rw [hT]; exact hcb)
      (fun _ h => by cases h) (fun _ h => by cases h) (fun h => by cases h) (fun h => by cases h) hk0 hk1 hkk0 hkk1 (by rfl) h1 h2 h3
      (by rw [nn sp h1, nn n h3, arrV_size]; omega)
      (by rw [nn dp h2, nn n h3, arrV_size]; omega)
      (fun vm₁ _ i hi => by
        have e : (arrV (Z.2.1.2.2 20) (S.2 a).2 (fun i => avv Z.2.2.1 20 (μ a i) (ρ a i))).slots.getD (sp.toNatClampNeg + i) .null = .int (μ a (sp.toNatClampNeg + i)) := by
          rw [Array.getD_eq_getD_getElem?, arrV_read _ _ (by omega)]
          rfl
        refine ⟨?_, ?_⟩
        · rw [e]; rfl
        · rw [e]; exact trivial)
      (g := F0 m pc ls (.int n :: .int dp :: .ref (Z.2.2.1 + b) :: .int sp :: .ref (Z.2.2.1 + a) :: st.map (sV Z.2.2.1 Z.2.2.2.1))) rfl (by rw [hml]; exact hL.2.1) (rest := st.map (sV Z.2.2.1 Z.2.2.2.1)) rfl (by rw [hb]; exact hd) (by rw [hR]; simp [rmS])
      (by rw [hR]; have := nfw_ok; show 2 * 0 + _ + _ ≤ 64 * (d + 1 + 1); omega)
    have e1 : copied (arrV (Z.2.1.2.2 20) (S.2 a).2 (fun i => avv Z.2.2.1 20 (μ a i) (ρ a i))) (arrV (Z.2.1.2.2 20) (S.2 b).2 (fun i => avv Z.2.2.1 20 (μ b i) (ρ b i))) sp dp n = arrV (Z.2.1.2.2 20) (S.2 b).2 (fun i => avv Z.2.2.1 20 (va_cpy (μ a) (μ b) sp.toNatClampNeg dp.toNatClampNeg n.toNatClampNeg i) (ρ b i)) := va_copied (fun z => .int z) _ _ (μ a) (μ b) h4
    rw [e1] at X' step
    have hlt : Z.2.2.1 + b < H.size := (Array.getElem?_eq_some_iff.mp hcb).1
    generalize hcell : arrV (Z.2.1.2.2 20) (S.2 b).2 (fun i => avv Z.2.2.1 20 (va_cpy (μ a) (μ b) sp.toNatClampNeg dp.toNatClampNeg n.toNatClampNeg i) (ρ b i)) = cell at X' step
    have hheap : ((T.setVm vm').setCell (Z.2.2.1 + b) cell).heap = H.setIfInBounds (Z.2.2.1 + b) cell := by rw [← hT]; rfl
    have oq : ∀ q : Nat, q ≠ Z.2.2.1 + b → (H.setIfInBounds (Z.2.2.1 + b) cell)[q]? = H[q]? := fun q hq => by simp [Array.getElem?_setIfInBounds, Ne.symm hq]
    have key := k1 L st S q (upF μ b (va_cpy (μ a) (μ b) sp.toNatClampNeg dp.toNatClampNeg n.toNatClampNeg)) ρ h7 (H.setIfInBounds (Z.2.2.1 + b) cell)
      (locs ++ ((arrV (Z.2.1.2.2 20) (S.2 a).2 (fun i => avv Z.2.2.1 20 (μ a i) (ρ a i))).stretch sp.toNatClampNeg n.toNatClampNeg).zipIdx.map fun q => ⟨Z.2.2.1 + b, dp.toNatClampNeg + q.2⟩) ls
      (hH.upd (by simp) oq (fun x hx => by simp [upF, hx]) (fun _ _ => rfl) (Or.inr ⟨by rw [kb]; rfl, by
        rw [kb, show (H.setIfInBounds (Z.2.2.1 + b) cell)[Z.2.2.1 + b]? = some cell by simp [Array.getElem?_setIfInBounds, hlt], ← hcell]
        simp [upF]⟩)) (fun x hx => by rw [oq x (ne_up hb1 hx)]; exact hB x hx)
      ⟨fun x hx => by
        rcases List.mem_append.mp hx with z | z
        · exact hl.1 x z
        · obtain ⟨w, -, hw⟩ := List.mem_map.mp z
          rw [← hw]
          show Z.2.2.1 < Z.2.2.1 + b
          omega, hl.2⟩ hL
    obtain ⟨t2, a1, b1⟩ := key _ hheap X'
    exact ⟨t2, step t2 a1, b1⟩
  · exact h.elim
def tMax (t : PT) : PT := fun L st S q μ ρ => match st with
  | .int y :: .int x :: st => okR 8 st ∧ t L (.int (if x < y then y else x) :: st) S q μ ρ
  | _ => False
def tMin (t : PT) : PT := fun L st S q μ ρ => match st with
  | .int y :: .int x :: st => okR 8 st ∧ t L (.int (if y < x then y else x) :: st) S q μ ρ
  | _ => False
theorem s_max (C : Cx Z d j own p R s m args meth c) {idx : Nat} (hw1 : Cond.methodLink own idx Lib.Math.max.name ∈ lw_good) (hw2 : Cond.static Lib.Math.max.name ∈ lw_good) (hw3 : Cond.initialized "java/lang/Math" ∈ lw_good) (hw4 : Cond.code Lib.Math.max.name Lib.Math.max.code 2 (some .int) ∈ lw_good) (hd : decode j.2.1 pc = .ok (.invokestatic idx, 3))
    (k1 : Sd Z j p e R s m args below meth c Q (pc + 3) t) : Sd Z j p e R s m args below meth c Q pc (tMax t) := by
  intro L st S q μ ρ h H locs ls hH hB hl hL
  unfold tMax at h
  split at h
  · rename_i y x st
    obtain ⟨hx, hb, hml, hown, hts, hr, hlo, hK, hE, hEO, hR, hnm⟩ := C
    have hcats := sV_map_len (B := Z.2.2.1) (X := Z.2.2.2.1) st h.1
    exact va_mmax hx hb (by rw [hml]; exact hL.2.1.symm) hown (hts _ hw1) (hts _ hw2) (hts _ hw3) (hts _ hw4) (by rw [hR]; simp [rmS]) (by rw [hR]; simp only [rmS]; omega) hl.2.1 hl.2.2 hd (k1 L _ S q μ ρ h.2 H locs ls hH hB hl hL)
  · exact h.elim
theorem s_min (C : Cx Z d j own p R s m args meth c) {idx : Nat} (hw1 : Cond.methodLink own idx Lib.Math.min.name ∈ lw_good) (hw2 : Cond.static Lib.Math.min.name ∈ lw_good) (hw3 : Cond.initialized "java/lang/Math" ∈ lw_good) (hw4 : Cond.code Lib.Math.min.name Lib.Math.min.code 2 (some .int) ∈ lw_good) (hd : decode j.2.1 pc = .ok (.invokestatic idx, 3))
    (k1 : Sd Z j p e R s m args below meth c Q (pc + 3) t) : Sd Z j p e R s m args below meth c Q pc (tMin t) := by
  intro L st S q μ ρ h H locs ls hH hB hl hL
  unfold tMin at h
  split at h
  · rename_i y x st
    obtain ⟨hx, hb, hml, hown, hts, hr, hlo, hK, hE, hEO, hR, hnm⟩ := C
    have hcats := sV_map_len (B := Z.2.2.1) (X := Z.2.2.2.1) st h.1
    exact va_mmin hx hb (by rw [hml]; exact hL.2.1.symm) hown (hts _ hw1) (hts _ hw2) (hts _ hw3) (hts _ hw4) (by rw [hR]; simp [rmS]) (by rw [hR]; simp only [rmS]; omega) hl.2.1 hl.2.2 hd (k1 L _ S q μ ρ h.2 H locs ls hH hB hl hL)
  · exact h.elim
theorem w_max : Cond.code Lib.Math.max.name Lib.Math.max.code 2 (some .int) ∈ lw_good := w_3_169
theorem w_min : Cond.code Lib.Math.min.name Lib.Math.min.code 2 (some .int) ∈ lw_good := w_3_85
end Jdk
