/-! ===== the law's start: the tables, what lies outside, what is made ===== -/
theorem c_inst {k : Nat} (h : cOK k = true) : ∃ n, Cond.instantiable (cR k) n ∈ lw_good := by
  rcases cOK_cases h with rfl | rfl | rfl | rfl | rfl | rfl | rfl | rfl | rfl | rfl | rfl
  · exact ⟨_, w_1_39⟩
  · exact ⟨_, w_1_46⟩
  · exact ⟨_, w_2_145⟩
  · exact ⟨_, w_2_191⟩
  · exact ⟨_, w_1_189⟩
  · exact ⟨_, w_1_155⟩
  · exact ⟨_, w_1_149⟩
  · exact ⟨_, w_2_160⟩
  · exact ⟨_, w_1_31⟩
  · exact ⟨_, w_1_23⟩
  · exact ⟨_, w_6_72⟩
theorem arr_c {s : State} {args : Array Value} {ty : FieldType} (h : (Cond.arrayClass ty).before args s = true) (hty : ∀ C, ty ≠ .object C) : ∃ cA, ArrOfT s cA ty ∧ va_RA s cA ty := by
  obtain ⟨cA, kA, comp, hf, hk, hkind⟩ := Cond.arrayClass_spec h
  refine ⟨cA, fun n z => ⟨fun k h => (by cases h), kA, hk, comp, hkind⟩, ?_⟩
  cases ty with
  | object C => exact absurd rfl (hty C)
  | _ => exact hf
theorem arr_o {s : State} {args : Array Value} {C : String} (h : (Cond.arrayOver (.object C)).before args s = true) : ∃ cA, ArrOfT s cA (.object C) ∧ va_RA s cA (.object C) := by
  obtain ⟨comp, cA, k, h1, h2, h3, h4, h5⟩ := Cond.arrayOver_spec h
  exact ⟨cA, fun n z => ⟨fun k h => (by cases h), k, h3, comp, h4⟩, k, comp, h3, h4, h1, h5⟩
theorem tb_in {w : Cond} (h : w ∈ tables_1) : w ∈ lw_tbl := List.mem_append_right _ h
theorem Kd_start {s : State} {args : Array Value} (hts : ∀ w ∈ lw_tbl, w.before args s = true) : ∃ D : Dt, Kd D s := by
  have htg : ∀ w ∈ lw_good, w.before args s = true := fun w hw => hts w (List.mem_filter.mp hw).1
  have hC : ∀ k : Nat, ∃ q : ClassId × (Nat → Nat), cOK k = true → u_Kn s (cR k) (cT k) (cN k) q.1 q.2 := by
    intro k
    by_cases h : cOK k = true
    · obtain ⟨n, hn⟩ := c_inst h
      obtain ⟨cC, iS, hk⟩ := u_known (C := cR k) (T := cT k) (N := cN k) (n := n) htg (c_in h) (htg _ hn)
      exact ⟨(cC, iS), fun _ => hk⟩
    · exact ⟨((default : ClassId), fun _ => 0), fun q => absurd q h⟩
  have hA : ∀ k : Nat, ∃ cA : ClassId, aOK k = true → ArrOfT s cA (aTy k) ∧ va_RA s cA (aTy k) := by
    intro k
    by_cases h : aOK k = true
    · have key : ∃ cA : ClassId, ArrOfT s cA (aTy k) ∧ va_RA s cA (aTy k) := by
        rcases aOK_cases h with rfl | rfl | rfl | rfl | rfl | rfl
        · exact arr_c (htg _ w_1_117) (fun C q => by cases q)
        · exact arr_c (htg _ w_5_78) (fun C q => by cases q)
        · exact arr_c (htg _ w_6_169) (fun C q => by cases q)
        · exact arr_o (hts _ (tb_in (nest_in _ w_1_45)))
        · exact arr_o (hts _ (tb_in (nest_in _ w_1_37)))
        · exact arr_o (hts _ (tb_in (nest_in _ w_2_143)))
      obtain ⟨cA, hc⟩ := key
      exact ⟨cA, fun _ => hc⟩
    · exact ⟨(default : ClassId), fun q => absurd q h⟩
  obtain ⟨dC, hdC⟩ := Classical.axiomOfChoice hC
  obtain ⟨dA, hdA⟩ := Classical.axiomOfChoice hA
  refine ⟨(fun k => (dC k).1, fun k => (dC k).2, dA), fun k hk => hdC k hk, fun k hk => hdA k hk, fun w hw => ?_⟩
  have h1 := hts w (tb_in (nest_in w hw))
  rcases nest_cases hw with ⟨a, i, x, q, rfl⟩ | ⟨C, rfl⟩
  · exact h1
  · exact h1
def flL : List Cond := flatC (Cond.and given_1 narrow_1)
theorem fl_nm : ∀ j : Fin 17, flL[12 + j.val]? = some (Cond.eq (.elem (.static "AgreedLog$Tape" "NUMBERS" "[I") (.int (Int32.ofNat j.val))) (.int (nmT j.val))) := by decide +kernel
theorem fl_by : ∀ j : Fin 103, flL[66 + j.val]? = some (Cond.eq (.elem (.field (.string "AgreedLog$Tape" 76) "java/lang/String" "value" "[B") (.int (Int32.ofNat j.val))) (.int (wdT j.val))) := by decide +kernel
theorem fl_4 : flL[4]? = some (Cond.eq (.static "java/lang/String" "COMPACT_STRINGS" "Z") (.int 1)) := by decide +kernel
theorem fl_5 : flL[5]? = some (Cond.isRef (.static "jdk/internal/util/Preconditions" "SIOOBE_FORMATTER" "Ljava/util/function/BiFunction;")) := by decide +kernel
theorem fl_10 : flL[10]? = some (Cond.arrayOf (.static "AgreedLog$Tape" "NUMBERS" "[I") .int) := by decide +kernel
theorem fl_11 : flL[11]? = some (Cond.eq (.length (.static "AgreedLog$Tape" "NUMBERS" "[I")) (.int (Int32.ofNat 17))) := by decide +kernel
theorem fl_62 : flL[62]? = some (Cond.exactly (.string "AgreedLog$Tape" 76) "java/lang/String") := by decide +kernel
theorem fl_63 : flL[63]? = some (Cond.eq (.field (.string "AgreedLog$Tape" 76) "java/lang/String" "coder" "B") (.int 0)) := by decide +kernel
theorem fl_64 : flL[64]? = some (Cond.arrayOf (.field (.string "AgreedLog$Tape" 76) "java/lang/String" "value" "[B") .byte) := by decide +kernel
theorem fl_65 : flL[65]? = some (Cond.eq (.length (.field (.string "AgreedLog$Tape" 76) "java/lang/String" "value" "[B")) (.int (Int32.ofNat 103))) := by decide +kernel
theorem tx_in : Cond.stringRef "AgreedLog$Tape" 76 wdS ∈ lw_tbl := tb_in (gt4 208 rfl)
theorem ls_1 : Cond.laysStatic "java/lang/String" "COMPACT_STRINGS" "Z" ∈ lw_tbl := tb_in (gt4 218 rfl)
theorem ls_2 : Cond.laysStatic "jdk/internal/util/Preconditions" "SIOOBE_FORMATTER" "Ljava/util/function/BiFunction;" ∈ lw_tbl := tb_in (gt4 234 rfl)
theorem ls_3 : Cond.laysStatic "AgreedLog$Tape" "NUMBERS" "[I" ∈ lw_tbl := tb_in (gt5 42 rfl)
theorem XEv_start {s : State} {args : Array Value} {B : Nat} (hts : ∀ w ∈ lw_tbl, w.before args s = true) (hgv : (Cond.and given_1 narrow_1).before args s = true) (hB : s.heap.size ≤ B + 1) : ∃ X : Xt, XEv B X s := by
  have htg : ∀ w ∈ lw_good, w.before args s = true := fun w hw => hts w (List.mem_filter.mp hw).1
  have hs := flat_of_before _ hgv
  have fl : ∀ {k : Nat} {w : Cond}, flL[k]? = some w → w.before args s = true := fun h => hs _ (List.mem_of_getElem? h)
  have hA : ∀ a : Nat, a < s.heap.size → ¬ (fun a => B < a) a := fun a ha => by
    show ¬ B < a
    omega
  obtain ⟨t0, ht0, hT0⟩ := va_Tof (ty := .int) (tm := .static "AgreedLog$Tape" "NUMBERS" "[I") (N := 17) (f := fun j => .int (nmT j)) (A := fun a => B < a) (by decide) (fl fl_10) (va_eqt (fl fl_11)) (fun j hj => va_eqt (fl (fl_nm ⟨j, hj⟩))) hA
  obtain ⟨adK, adV, hS, hK⟩ := vk_Sof (args := args) (s := s) (N := 1) (tm := fun _ => .string "AgreedLog$Tape" 76) (len := [103]) (byt := [wdL]) (A := fun a => B < a)
    (fun i hi => by obtain rfl : i = 0 := by omega
                    decide) (fun i hi => fl fl_62) (fun i hi => fl fl_63) (fun i hi => fl fl_64)
    (fun i hi => by obtain rfl : i = 0 := by omega
                    exact fl fl_65)
    (fun i hi j hj => by obtain rfl : i = 0 := by omega
                         exact fl (fl_by ⟨j, hj⟩))
    (fun i j hi hj h => absurd (show i = j by omega) h) hA
  have z1 : va_Z "AgreedLog$Tape" "NUMBERS" "[I" (.ref t0) (fun a => B < a) s s.heap := va_Zof (hts _ ls_3) (htg _ w_1_11) ht0 hA
  have z2 : va_Z "java/lang/String" "COMPACT_STRINGS" "Z" (.int 1) (fun a => B < a) s s.heap := va_Zof (hts _ ls_1) (htg _ w_1_17) (va_eqt (fl fl_4)) hA
  have z3 := va_Zqof (A := fun a => B < a) (hts _ ls_2) (htg _ w_1_19) (fl fl_5) hA
  obtain ⟨o1, o2, o3, o4⟩ := hS.1 0 (by decide)
  have hR : vk_R "AgreedLog$Tape" 76 wdS (adK 0) s := vk_R.of (A := args) (hts _ tx_in) (hK 0 (by decide))
  have go : ∀ t3 : Nat, (va_Z "jdk/internal/util/Preconditions" "SIOOBE_FORMATTER" "Ljava/util/function/BiFunction;" .null (fun a => B < a) s s.heap ∨ va_Z "jdk/internal/util/Preconditions" "SIOOBE_FORMATTER" "Ljava/util/function/BiFunction;" (.ref t3) (fun a => B < a) s s.heap) → ∃ X : Xt, XEv B X s := by
    intro t3 h3
    refine ⟨fun k => if k = 0 then (t0, 0, fun _ => 0) else if k = 1 then (adK 0, 0, fun _ => 0) else if k = 2 then (adV 0, 0, fun _ => 0) else (t3, 0, fun _ => 0), ⟨z1, hT0⟩, ⟨hR, o1, o2, o3, o4⟩, z2, ?_⟩
    rcases h3 with h3 | h3
    · exact ⟨.null, h3, Or.inl rfl⟩
    · exact ⟨.ref t3, h3, Or.inr rfl⟩
  rcases z3 with h3 | ⟨t3, h3⟩
  · exact go 0 (Or.inl h3)
  · exact go t3 (Or.inr h3)
theorem qInit_lo {A A' : Rw} {m : Int32} : ∀ k, k < 4516 → qInit A' m k = qInit A m k := by
  intro k hk
  unfold qInit in1 up zr0
  simp only [if_pos hk]
/-- as both begin -/
theorem Lw_start {S S3 : Sh} {μ μ3 : Mi} {ρ ρ3 : Mr} (h : AK 9 2 S μ ρ) (h2 : I12 S μ ρ S3 μ3 ρ3) : LwI S3 μ3 ρ3 := by
  obtain ⟨-, ⟨⟨a1, a2, a3⟩, a4, ⟨A, a5⟩, a6, a7, a8, a9, a10, a11, a12⟩, k1, k2⟩ := h
  obtain ⟨-, e, b1, ⟨A', b2⟩, b3, b4, b5⟩ := h2
  have eS : ∀ y, y < 2737 → S3.2 y = S.2 y := fun y hy => (e y hy).1
  have eM : ∀ y, y < 2737 → μ3 y = μ y := fun y hy => (e y hy).2.1
  have eR : ∀ y, y < 2737 → ρ3 y = ρ y := fun y hy => (e y hy).2.2
  have an : ∀ w, w + 170 ≤ 2737 → anyW w S μ ρ → anyW w S3 μ3 ρ3 := fun w hw q => any_blk q (fun y y1 y2 => eS y (by omega)) (fun y y1 y2 => eM y (by omega)) (fun y y1 y2 => eR y (by omega))
  have tw : TW S3 μ3 ρ3 := by
    refine ⟨by rw [eS 1 (by omega)]; exact a1, by rw [eR 1 (by omega)]; exact a4, ⟨by rw [eS 172 (by omega)]; exact a2, by rw [eS 173 (by omega)]; exact a3⟩, ⟨fun i hi => ?_, fun i hi => ?_⟩, ?_, an _ (by omega) a7, fun i hi => an _ (by omega) (a8 i hi), fun i hi => an _ (by omega) (k1 i hi).1, fun i hi => an _ (by omega) (k2 i hi).1⟩
    · rw [eR 172 (by omega)]; exact (k1 i hi).2
    · rw [eR 173 (by omega)]; exact (k2 i hi).2
    · unfold PapOK at *
      rw [eS 174 (by omega), eS (174 + 1) (by omega), eR 174 (by omega), eR (174 + 1) (by omega)]
      exact a6
  have rr : RR (μ3 2738) 2 S3 μ3 ρ3 := by
    rw [b2]
    exact RR_lo (RR_blk a5 (fun y y1 y2 => eS y (by omega)) (fun y y1 y2 => eM y (by omega)) (fun y y1 y2 => eR y (by omega))) qInit_lo
  have e1 := eM 1 (by omega)
  have e856 := eM 856 (by omega)
  refine ⟨0, 0, ⟨tw, rr, 0, ?_, by omega, ?_, by omega, fun j hj => by omega⟩, ?_, fun j hj => by omega, b3.1, ⟨b1, ?_, ?_⟩, fun m hm => Or.inl ⟨b4 m hm, ?_⟩, ⟨b3.2.1, ?_, by omega, fun i hi => by omega, fun i hi => by omega⟩, ⟨?_, ?_, ?_, ?_⟩, b5⟩
  · rw [e1]; exact a11.1
  · rw [e1]; exact a11.2.1
  · rw [b2]; exact Gd_init ⟨by decide, by decide⟩
  · unfold TpS at *
    rw [eS 856 (by omega), eS 857 (by omega), eS 858 (by omega), eR 856 (by omega)]
    exact a9
  · unfold PgS at *
    rw [eS 859 (by omega), eS 860 (by omega), eS 861 (by omega), eS 862 (by omega), eS 863 (by omega), eS 864 (by omega), eS 865 (by omega), eS 866 (by omega), eR 859 (by omega)]
    exact a10
  · rw [e1, a11.2.2.1]; exact bit_0 (by omega)
  · rw [e856]; exact a12.1
  · rw [e856, b3.2.2.1]; exact a12.2.1
  · rw [e856, b3.2.2.2.1]; exact a12.2.2
  · rw [e1, b3.2.2.2.2.1]; exact a11.2.2.2.1
  · rw [e1, b3.2.2.2.2.2]; exact a11.2.2.2.2
