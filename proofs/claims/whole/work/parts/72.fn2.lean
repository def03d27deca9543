/-! ===== calls that may change references too ===== -/
abbrev FT2 : Type := List Value → Sh → Mi → Mr → (Option Value → Mi → Mr → Prop) → Prop
def tFn2 (n : Nat) (F : FT2) (t : PT) : PT := fun L st S q μ ρ => match popN n [] st with
  | some (As, rest) => okR 8 rest ∧ F As S μ ρ (fun r μ' ρ' => t L (r.toList ++ rest) S q μ' ρ')
  | none => False
section Fn2
variable {Z : Zt} {d : Nat} {j : Jm} {own : String} {p : Program} {e : Env} {R : Room} {s : State} {m : MethodId} {args : Array Value} {below : List Frame} {meth : Method} {c : Code} {Q : State → Prop} {pc : Nat} {t J : PT} {F : FT2}
theorem s_fnV2 (C : Cx Z d j own p R s m args meth c) {j2 : Jm} {cl nf n idx : Nat} (hc : cOK cl = true) (hy : j2.1.cls = cR cl) (hm : metaOK j2 n = true) (hz : j2.2.2.2.2 = (0, 0)) (hw1 : Cond.methodLink own idx j2.1 ∈ lw_good) (hw2 : Cond.instanceMethod j2.1 ∈ lw_good) (hw3 : Cond.selects (cR cl) j2.1 j2.1 ∈ lw_good)
    (hw4 : Cond.initialized (cR cl) ∈ lw_good) (hw5 : Cond.code j2.1 j2.2.1 j2.2.2.1 j2.2.2.2.1 ∈ lw_good) (hd : decode j.2.1 pc = .ok (.invokevirtual idx, 3))
    (hF : ∀ As S μ ρ Rp, F As S μ ρ (fun r μ' ρ' => Rp r S μ' ρ') → MS Z d j2 As S μ ρ Rp) (hr : ∀ As S μ ρ k, F As S μ ρ k → ∃ a As', As = .ref a :: As' ∧ S.2 a = (cl, nf))
    (k1 : Sd Z j p e R s m args below meth c Q (pc + 3) t) : Sd Z j p e R s m args below meth c Q pc (tFn2 (n + 1) F t) := by
  intro L st S q μ ρ h
  refine s_callV (nf := nf) C hc hy hm hz hw1 hw2 hw3 hw4 hw5 hd k1 L st S q μ ρ ?_
  unfold tFn2 at h
  split at h
  · rename_i As rest hpop
    obtain ⟨hst, hlen⟩ := popN_0 hpop
    obtain ⟨a, As', rfl, ha⟩ := hr _ _ _ _ _ h.2
    have hn : As'.length = n := by simpa using hlen
    have hp : popN n [] st = some (As', .ref a :: rest) := by
      have := popN_eq As' [] (.ref a :: rest)
      rw [hn, List.append_nil] at this
      rw [hst]
      simpa using this
    unfold tCallV
    rw [hp]
    exact ⟨ha, h.1, hF _ _ _ _ _ h.2⟩
  · exact h.elim
theorem s_fnS2 (C : Cx Z d j own p R s m args meth c) {j2 : Jm} {n idx : Nat} (hm : metaOK j2 n = true) (hz : j2.2.2.2.2 = (0, 0)) (hw1 : Cond.methodLink own idx j2.1 ∈ lw_good) (hw2 : Cond.static j2.1 ∈ lw_good)
    (hw4 : Cond.initialized j2.1.cls ∈ lw_good) (hw5 : Cond.code j2.1 j2.2.1 j2.2.2.1 j2.2.2.2.1 ∈ lw_good) (hd : decode j.2.1 pc = .ok (.invokestatic idx, 3))
    (hF : ∀ As S μ ρ Rp, F As S μ ρ (fun r μ' ρ' => Rp r S μ' ρ') → MS Z d j2 As S μ ρ Rp)
    (k1 : Sd Z j p e R s m args below meth c Q (pc + 3) t) : Sd Z j p e R s m args below meth c Q pc (tFn2 n F t) := by
  intro L st S q μ ρ h
  refine s_callS C hm hz hw1 hw2 hw4 hw5 hd k1 L st S q μ ρ ?_
  unfold tFn2 at h
  split at h
  · rename_i As rest hpop
    unfold tCallS
    rw [hpop]
    exact ⟨h.1, hF _ _ _ _ _ h.2⟩
  · exact h.elim
theorem s_fnSN2 (C : Cx Z d j own p R s m args meth c) {j2 : Jm} {n idx : Nat} {host : String} (hm : metaOK j2 n = true) (hz : j2.2.2.2.2 = (0, 0)) (hw1 : Cond.methodLinkNest own idx j2.1 host ∈ nest_ws) (hw2 : Cond.static j2.1 ∈ lw_good)
    (hw4 : Cond.initialized j2.1.cls ∈ lw_good) (hw5 : Cond.code j2.1 j2.2.1 j2.2.2.1 j2.2.2.2.1 ∈ lw_good) (hd : decode j.2.1 pc = .ok (.invokestatic idx, 3))
    (hF : ∀ As S μ ρ Rp, F As S μ ρ (fun r μ' ρ' => Rp r S μ' ρ') → MS Z d j2 As S μ ρ Rp)
    (k1 : Sd Z j p e R s m args below meth c Q (pc + 3) t) : Sd Z j p e R s m args below meth c Q pc (tFn2 n F t) := by
  intro L st S q μ ρ h
  refine s_callSN C hm hz hw1 hw2 hw4 hw5 hd k1 L st S q μ ρ ?_
  unfold tFn2 at h
  split at h
  · rename_i As rest hpop
    unfold tCallS
    rw [hpop]
    exact ⟨h.1, hF _ _ _ _ _ h.2⟩
  · exact h.elim
end Fn2
