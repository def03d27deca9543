/-! ===== what is made: the reference ===== -/
def w_X12_init_630 (M : CT) (G : Nat → PT) (Rp : RT) : PT := tConst 94 <| tConst 117 <| tBast <| tDup <| tConst 95 <| tConst 108 <| tBast <| tDup <| tConst 96 <| tConst 0 <| tBast <| tDup <| tConst 97 <| tConst 116 <| tBast <| tDup <| tConst 98 <| tConst 105 <| tBast <| tDup <| tConst 99 <| tConst 109 <| tBast <| tDup <| tConst 100 <| tConst 101 <| tBast <| tDup <| tConst 101 <| tConst 115 <| tBast <| tDup <| tConst 102 <| tConst 0 <| tBast <| tPutR 12 27 22 <| tAload 0 <| tConst 3 <| tNewa 20 10 77201 <| tPutR 12 27 24 <| tAload 0 <| tConst 31 <| tFn 2 F_X12_laysAll <| tVret Rp
def w_X12_init_528 (M : CT) (G : Nat → PT) (Rp : RT) : PT := tBast <| tDup <| tConst 77 <| tConst 119 <| tBast <| tDup <| tConst 78 <| tConst 105 <| tBast <| tDup <| tConst 79 <| tConst 99 <| tBast <| tDup <| tConst 80 <| tConst 101 <| tBast <| tDup <| tConst 81 <| tConst 0 <| tBast <| tDup <| tConst 82 <| tConst 115 <| tBast <| tDup <| tConst 83 <| tConst 101 <| tBast <| tDup <| tConst 84 <| tConst 116 <| tBast <| tDup <| tConst 85 <| tConst 116 <| tBast <| tDup <| tConst 86 <| tConst 108 <| tBast <| tDup <| tConst 87 <| tConst 101 <| tBast <| tDup <| tConst 88 <| tConst 0 <| tBast <| tDup <| tConst 89 <| tConst 99 <| tBast <| tDup <| tConst 90 <| tConst 97 <| tBast <| tDup <| tConst 91 <| tConst 114 <| tBast <| tDup <| tConst 92 <| tConst 101 <| tBast <| tDup <| tConst 93 <| tConst 102 <| tBast <| tDup <| w_X12_init_630 M G Rp
def w_X12_init_426 (M : CT) (G : Nat → PT) (Rp : RT) : PT := tConst 59 <| tConst 116 <| tBast <| tDup <| tConst 60 <| tConst 0 <| tBast <| tDup <| tConst 61 <| tConst 106 <| tBast <| tDup <| tConst 62 <| tConst 111 <| tBast <| tDup <| tConst 63 <| tConst 105 <| tBast <| tDup <| tConst 64 <| tConst 110 <| tBast <| tDup <| tConst 65 <| tConst 0 <| tBast <| tDup <| tConst 66 <| tConst 99 <| tBast <| tDup <| tConst 67 <| tConst 111 <| tBast <| tDup <| tConst 68 <| tConst 109 <| tBast <| tDup <| tConst 69 <| tConst 101 <| tBast <| tDup <| tConst 70 <| tConst 0 <| tBast <| tDup <| tConst 71 <| tConst 108 <| tBast <| tDup <| tConst 72 <| tConst 111 <| tBast <| tDup <| tConst 73 <| tConst 115 <| tBast <| tDup <| tConst 74 <| tConst 101 <| tBast <| tDup <| tConst 75 <| tConst 0 <| tBast <| tDup <| tConst 76 <| tConst 116 <| w_X12_init_528 M G Rp
def w_X12_init_325 (M : CT) (G : Nat → PT) (Rp : RT) : PT := tBast <| tDup <| tConst 42 <| tConst 97 <| tBast <| tDup <| tConst 43 <| tConst 99 <| tBast <| tDup <| tConst 44 <| tConst 116 <| tBast <| tDup <| tConst 45 <| tConst 0 <| tBast <| tDup <| tConst 46 <| tConst 115 <| tBast <| tDup <| tConst 47 <| tConst 116 <| tBast <| tDup <| tConst 48 <| tConst 111 <| tBast <| tDup <| tConst 49 <| tConst 112 <| tBast <| tDup <| tConst 50 <| tConst 0 <| tBast <| tDup <| tConst 51 <| tConst 115 <| tBast <| tDup <| tConst 52 <| tConst 116 <| tBast <| tDup <| tConst 53 <| tConst 97 <| tBast <| tDup <| tConst 54 <| tConst 114 <| tBast <| tDup <| tConst 55 <| tConst 116 <| tBast <| tDup <| tConst 56 <| tConst 0 <| tBast <| tDup <| tConst 57 <| tConst 99 <| tBast <| tDup <| tConst 58 <| tConst 117 <| tBast <| tDup <| w_X12_init_426 M G Rp
def w_X12_init_222 (M : CT) (G : Nat → PT) (Rp : RT) : PT := tConst 24 <| tConst 100 <| tBast <| tDup <| tConst 25 <| tConst 0 <| tBast <| tDup <| tConst 26 <| tConst 104 <| tBast <| tDup <| tConst 27 <| tConst 97 <| tBast <| tDup <| tConst 28 <| tConst 110 <| tBast <| tDup <| tConst 29 <| tConst 100 <| tBast <| tDup <| tConst 30 <| tConst 0 <| tBast <| tDup <| tConst 31 <| tConst 99 <| tBast <| tDup <| tConst 32 <| tConst 104 <| tBast <| tDup <| tConst 33 <| tConst 97 <| tBast <| tDup <| tConst 34 <| tConst 110 <| tBast <| tDup <| tConst 35 <| tConst 103 <| tBast <| tDup <| tConst 36 <| tConst 101 <| tBast <| tDup <| tConst 37 <| tConst 0 <| tBast <| tDup <| tConst 38 <| tConst 99 <| tBast <| tDup <| tConst 39 <| tConst 111 <| tBast <| tDup <| tConst 40 <| tConst 109 <| tBast <| tDup <| tConst 41 <| tConst 112 <| w_X12_init_325 M G Rp
def w_X12_init_122 (M : CT) (G : Nat → PT) (Rp : RT) : PT := tBast <| tDup <| tConst 7 <| tConst 0 <| tBast <| tDup <| tConst 8 <| tConst 98 <| tBast <| tDup <| tConst 9 <| tConst 101 <| tBast <| tDup <| tConst 10 <| tConst 97 <| tBast <| tDup <| tConst 11 <| tConst 116 <| tBast <| tDup <| tConst 12 <| tConst 0 <| tBast <| tDup <| tConst 13 <| tConst 115 <| tBast <| tDup <| tConst 14 <| tConst 101 <| tBast <| tDup <| tConst 15 <| tConst 116 <| tBast <| tDup <| tConst 16 <| tConst 0 <| tBast <| tDup <| tConst 17 <| tConst 97 <| tBast <| tDup <| tConst 18 <| tConst 100 <| tBast <| tDup <| tConst 19 <| tConst 100 <| tBast <| tDup <| tConst 20 <| tConst 0 <| tBast <| tDup <| tConst 21 <| tConst 114 <| tBast <| tDup <| tConst 22 <| tConst 101 <| tBast <| tDup <| tConst 23 <| tConst 97 <| tBast <| tDup <| w_X12_init_222 M G Rp
def w_X12_init_0 (M : CT) (G : Nat → PT) (Rp : RT) : PT := tAload 0 <| tObjI <| tAload 0 <| tConst 13548 <| tNewa 20 10 77201 <| tPutR 12 27 1 <| tAload 0 <| tConst 36128 <| tNewa 20 10 77201 <| tPutR 12 27 2 <| tAload 0 <| tConst 4516 <| tNewa 20 10 77201 <| tPutR 12 27 3 <| tAload 0 <| tConst 4516 <| tNewa 20 10 77201 <| tPutR 12 27 4 <| tAload 0 <| tConst 18064 <| tNewa 20 10 77201 <| tPutR 12 27 5 <| tAload 0 <| tConst 2 <| tNewa 22 10 77201 <| tPutR 12 27 7 <| tAload 0 <| tConst 21 <| tNewa 20 10 77201 <| tPutR 12 27 12 <| tAload 0 <| tConst 300 <| tNewa 21 10 77201 <| tPutR 12 27 13 <| tAload 0 <| tConst (-1) <| tPutI 12 27 18 <| tAload 0 <| tConst (-1) <| tPutI 12 27 20 <| tAload 0 <| tConst 103 <| tNewa 21 10 77201 <| tDup <| tConst 0 <| tConst 116 <| tBast <| tDup <| tConst 1 <| tConst 105 <| tBast <| tDup <| tConst 2 <| tConst 109 <| tBast <| tDup <| tConst 3 <| tConst 101 <| tBast <| tDup <| tConst 4 <| tConst 111 <| tBast <| tDup <| tConst 5 <| tConst 117 <| tBast <| tDup <| tConst 6 <| tConst 116 <| w_X12_init_122 M G Rp
set_option maxRecDepth 20000 in
theorem b_X12_init_630 {Z : Zt} {d : Nat} {p : Program} {e : Env} {R : Room} {s : State} {m : MethodId} {args : Array Value} {below : List Frame} {meth : Method} {c : Code} {Rp : RT} (C : Cx Z (d + 2) jX12_init RX12 p R s m args meth c) : Sd Z jX12_init p e R s m args below meth c (MQ below (QcS Z Rp) args s 10 77201 (fun a => Z.2.2.1 < a)) 630 (w_X12_init_630 (MS Z (d + 2)) (Gw Z 1 p e R s m args below meth c (MQ below (QcS Z Rp) args s 10 77201 (fun a => Z.2.2.1 < a))) Rp) := by
  unfold w_X12_init_630
  refine s_bipush (n := 94) C (by decide +kernel) (by decide) ?_
  refine s_bipush (n := 117) C (by decide +kernel) (by decide) ?_
  refine s_bast C (by decide +kernel) ?_
  refine s_dup C (by decide +kernel) ?_
  refine s_bipush (n := 95) C (by decide +kernel) (by decide) ?_
  refine s_bipush (n := 108) C (by decide +kernel) (by decide) ?_
  refine s_bast C (by decide +kernel) ?_
  refine s_dup C (by decide +kernel) ?_
  refine s_bipush (n := 96) C (by decide +kernel) (by decide) ?_
  refine s_iconst (n := 0) C (by decide +kernel) (by decide) ?_
  refine s_bast C (by decide +kernel) ?_
  refine s_dup C (by decide +kernel) ?_
  refine s_bipush (n := 97) C (by decide +kernel) (by decide) ?_
  refine s_bipush (n := 116) C (by decide +kernel) (by decide) ?_
  refine s_bast C (by decide +kernel) ?_
  refine s_dup C (by decide +kernel) ?_
  refine s_bipush (n := 98) C (by decide +kernel) (by decide) ?_
  refine s_bipush (n := 105) C (by decide +kernel) (by decide) ?_
  refine s_bast C (by decide +kernel) ?_
  refine s_dup C (by decide +kernel) ?_
  refine s_bipush (n := 99) C (by decide +kernel) (by decide) ?_
  refine s_bipush (n := 109) C (by decide +kernel) (by decide) ?_
  refine s_bast C (by decide +kernel) ?_
  refine s_dup C (by decide +kernel) ?_
  refine s_bipush (n := 100) C (by decide +kernel) (by decide) ?_
  refine s_bipush (n := 101) C (by decide +kernel) (by decide) ?_
  refine s_bast C (by decide +kernel) ?_
  refine s_dup C (by decide +kernel) ?_
  refine s_bipush (n := 101) C (by decide +kernel) (by decide) ?_
  refine s_bipush (n := 115) C (by decide +kernel) (by decide) ?_
  refine s_bast C (by decide +kernel) ?_
  refine s_dup C (by decide +kernel) ?_
  refine s_bipush (n := 102) C (by decide +kernel) (by decide) ?_
  refine s_iconst (n := 0) C (by decide +kernel) (by decide) ?_
  refine s_bast C (by decide +kernel) ?_
  refine s_putR C w_6_109 (by decide +kernel) rfl (Or.inr ⟨rfl, rfl, rfl⟩) ?_
  refine s_aload_n (k := 0) C (by decide +kernel) ?_
  refine s_iconst (n := 3) C (by decide +kernel) (by decide) ?_
  refine s_newa (aty := .int) C rfl w_1_117 (fun _ _ h => h) (by decide +kernel) ?_
  refine s_putR C w_6_111 (by decide +kernel) rfl (Or.inr ⟨rfl, rfl, rfl⟩) ?_
  refine s_aload_n (k := 0) C (by decide +kernel) ?_
  refine s_bipush (n := 31) C (by decide +kernel) (by decide) ?_
  refine s_fnV C (j2 := jX12_laysAll) (cl := 12) (nf := 27) rfl rfl (by decide +kernel) rfl w_6_78 w_6_80 w_p3_3 w_1_13 w_6_81 (by decide +kernel) (fun _ _ _ _ _ h => f_X12_laysAll h) (fun _ _ _ _ _ h => r_X12_laysAll h) ?_
  exact s_vret C rfl (by decide +kernel)
set_option maxRecDepth 20000 in
theorem b_X12_init_528 {Z : Zt} {d : Nat} {p : Program} {e : Env} {R : Room} {s : State} {m : MethodId} {args : Array Value} {below : List Frame} {meth : Method} {c : Code} {Rp : RT} (C : Cx Z (d + 2) jX12_init RX12 p R s m args meth c) : Sd Z jX12_init p e R s m args below meth c (MQ below (QcS Z Rp) args s 10 77201 (fun a => Z.2.2.1 < a)) 528 (w_X12_init_528 (MS Z (d + 2)) (Gw Z 1 p e R s m args below meth c (MQ below (QcS Z Rp) args s 10 77201 (fun a => Z.2.2.1 < a))) Rp) := by
  unfold w_X12_init_528
  refine s_bast C (by decide +kernel) ?_
  refine s_dup C (by decide +kernel) ?_
  refine s_bipush (n := 77) C (by decide +kernel) (by decide) ?_
  refine s_bipush (n := 119) C (by decide +kernel) (by decide) ?_
  refine s_bast C (by decide +kernel) ?_
  refine s_dup C (by decide +kernel) ?_
  refine s_bipush (n := 78) C (by decide +kernel) (by decide) ?_
  refine s_bipush (n := 105) C (by decide +kernel) (by decide) ?_
  refine s_bast C (by decide +kernel) ?_
  refine s_dup C (by decide +kernel) ?_
  refine s_bipush (n := 79) C (by decide +kernel) (by decide) ?_
  refine s_bipush (n := 99) C (by decide +kernel) (by decide) ?_
  refine s_bast C (by decide +kernel) ?_
  refine s_dup C (by decide +kernel) ?_
  refine s_bipush (n := 80) C (by decide +kernel) (by decide) ?_
  refine s_bipush (n := 101) C (by decide +kernel) (by decide) ?_
  refine s_bast C (by decide +kernel) ?_
  refine s_dup C (by decide +kernel) ?_
  refine s_bipush (n := 81) C (by decide +kernel) (by decide) ?_
  refine s_iconst (n := 0) C (by decide +kernel) (by decide) ?_
  refine s_bast C (by decide +kernel) ?_
  refine s_dup C (by decide +kernel) ?_
  refine s_bipush (n := 82) C (by decide +kernel) (by decide) ?_
  refine s_bipush (n := 115) C (by decide +kernel) (by decide) ?_
  refine s_bast C (by decide +kernel) ?_
  refine s_dup C (by decide +kernel) ?_
  refine s_bipush (n := 83) C (by decide +kernel) (by decide) ?_
  refine s_bipush (n := 101) C (by decide +kernel) (by decide) ?_
  refine s_bast C (by decide +kernel) ?_
  refine s_dup C (by decide +kernel) ?_
  refine s_bipush (n := 84) C (by decide +kernel) (by decide) ?_
  refine s_bipush (n := 116) C (by decide +kernel) (by decide) ?_
  refine s_bast C (by decide +kernel) ?_
  refine s_dup C (by decide +kernel) ?_
  refine s_bipush (n := 85) C (by decide +kernel) (by decide) ?_
  refine s_bipush (n := 116) C (by decide +kernel) (by decide) ?_
  refine s_bast C (by decide +kernel) ?_
  refine s_dup C (by decide +kernel) ?_
  refine s_bipush (n := 86) C (by decide +kernel) (by decide) ?_
  refine s_bipush (n := 108) C (by decide +kernel) (by decide) ?_
  refine s_bast C (by decide +kernel) ?_
  refine s_dup C (by decide +kernel) ?_
  refine s_bipush (n := 87) C (by decide +kernel) (by decide) ?_
  refine s_bipush (n := 101) C (by decide +kernel) (by decide) ?_
  refine s_bast C (by decide +kernel) ?_
  refine s_dup C (by decide +kernel) ?_
  refine s_bipush (n := 88) C (by decide +kernel) (by decide) ?_
  refine s_iconst (n := 0) C (by decide +kernel) (by decide) ?_
  refine s_bast C (by decide +kernel) ?_
  refine s_dup C (by decide +kernel) ?_
  refine s_bipush (n := 89) C (by decide +kernel) (by decide) ?_
  refine s_bipush (n := 99) C (by decide +kernel) (by decide) ?_
  refine s_bast C (by decide +kernel) ?_
  refine s_dup C (by decide +kernel) ?_
  refine s_bipush (n := 90) C (by decide +kernel) (by decide) ?_
  refine s_bipush (n := 97) C (by decide +kernel) (by decide) ?_
  refine s_bast C (by decide +kernel) ?_
  refine s_dup C (by decide +kernel) ?_
  refine s_bipush (n := 91) C (by decide +kernel) (by decide) ?_
  refine s_bipush (n := 114) C (by decide +kernel) (by decide) ?_
  refine s_bast C (by decide +kernel) ?_
  refine s_dup C (by decide +kernel) ?_
  refine s_bipush (n := 92) C (by decide +kernel) (by decide) ?_
  refine s_bipush (n := 101) C (by decide +kernel) (by decide) ?_
  refine s_bast C (by decide +kernel) ?_
  refine s_dup C (by decide +kernel) ?_
  refine s_bipush (n := 93) C (by decide +kernel) (by decide) ?_
  refine s_bipush (n := 102) C (by decide +kernel) (by decide) ?_
  refine s_bast C (by decide +kernel) ?_
  refine s_dup C (by decide +kernel) ?_
  exact (b_X12_init_630 C)
set_option maxRecDepth 20000 in
theorem b_X12_init_426 {Z : Zt} {d : Nat} {p : Program} {e : Env} {R : Room} {s : State} {m : MethodId} {args : Array Value} {below : List Frame} {meth : Method} {c : Code} {Rp : RT} (C : Cx Z (d + 2) jX12_init RX12 p R s m args meth c) : Sd Z jX12_init p e R s m args below meth c (MQ below (QcS Z Rp) args s 10 77201 (fun a => Z.2.2.1 < a)) 426 (w_X12_init_426 (MS Z (d + 2)) (Gw Z 1 p e R s m args below meth c (MQ below (QcS Z Rp) args s 10 77201 (fun a => Z.2.2.1 < a))) Rp) := by
  unfold w_X12_init_426
  refine s_bipush (n := 59) C (by decide +kernel) (by decide) ?_
  refine s_bipush (n := 116) C (by decide +kernel) (by decide) ?_
  refine s_bast C (by decide +kernel) ?_
  refine s_dup C (by decide +kernel) ?_
  refine s_bipush (n := 60) C (by decide +kernel) (by decide) ?_
  refine s_iconst (n := 0) C (by decide +kernel) (by decide) ?_
  refine s_bast C (by decide +kernel) ?_
  refine s_dup C (by decide +kernel) ?_
  refine s_bipush (n := 61) C (by decide +kernel) (by decide) ?_
  refine s_bipush (n := 106) C (by decide +kernel) (by decide) ?_
  refine s_bast C (by decide +kernel) ?_
  refine s_dup C (by decide +kernel) ?_
  refine s_bipush (n := 62) C (by decide +kernel) (by decide) ?_
  refine s_bipush (n := 111) C (by decide +kernel) (by decide) ?_
  refine s_bast C (by decide +kernel) ?_
  refine s_dup C (by decide +kernel) ?_
  refine s_bipush (n := 63) C (by decide +kernel) (by decide) ?_
  refine s_bipush (n := 105) C (by decide +kernel) (by decide) ?_
  refine s_bast C (by decide +kernel) ?_
  refine s_dup C (by decide +kernel) ?_
  refine s_bipush (n := 64) C (by decide +kernel) (by decide) ?_
  refine s_bipush (n := 110) C (by decide +kernel) (by decide) ?_
  refine s_bast C (by decide +kernel) ?_
  refine s_dup C (by decide +kernel) ?_
  refine s_bipush (n := 65) C (by decide +kernel) (by decide) ?_
  refine s_iconst (n := 0) C (by decide +kernel) (by decide) ?_
  refine s_bast C (by decide +kernel) ?_
  refine s_dup C (by decide +kernel) ?_
  refine s_bipush (n := 66) C (by decide +kernel) (by decide) ?_
  refine s_bipush (n := 99) C (by decide +kernel) (by decide) ?_
  refine s_bast C (by decide +kernel) ?_
  refine s_dup C (by decide +kernel) ?_
  refine s_bipush (n := 67) C (by decide +kernel) (by decide) ?_
  refine s_bipush (n := 111) C (by decide +kernel) (by decide) ?_
  refine s_bast C (by decide +kernel) ?_
  refine s_dup C (by decide +kernel) ?_
  refine s_bipush (n := 68) C (by decide +kernel) (by decide) ?_
  refine s_bipush (n := 109) C (by decide +kernel) (by decide) ?_
  refine s_bast C (by decide +kernel) ?_
  refine s_dup C (by decide +kernel) ?_
  refine s_bipush (n := 69) C (by decide +kernel) (by decide) ?_
  refine s_bipush (n := 101) C (by decide +kernel) (by decide) ?_
  refine s_bast C (by decide +kernel) ?_
  refine s_dup C (by decide +kernel) ?_
  refine s_bipush (n := 70) C (by decide +kernel) (by decide) ?_
  refine s_iconst (n := 0) C (by decide +kernel) (by decide) ?_
  refine s_bast C (by decide +kernel) ?_
  refine s_dup C (by decide +kernel) ?_
  refine s_bipush (n := 71) C (by decide +kernel) (by decide) ?_
  refine s_bipush (n := 108) C (by decide +kernel) (by decide) ?_
  refine s_bast C (by decide +kernel) ?_
  refine s_dup C (by decide +kernel) ?_
  refine s_bipush (n := 72) C (by decide +kernel) (by decide) ?_
  refine s_bipush (n := 111) C (by decide +kernel) (by decide) ?_
  refine s_bast C (by decide +kernel) ?_
  refine s_dup C (by decide +kernel) ?_
  refine s_bipush (n := 73) C (by decide +kernel) (by decide) ?_
  refine s_bipush (n := 115) C (by decide +kernel) (by decide) ?_
  refine s_bast C (by decide +kernel) ?_
  refine s_dup C (by decide +kernel) ?_
  refine s_bipush (n := 74) C (by decide +kernel) (by decide) ?_
  refine s_bipush (n := 101) C (by decide +kernel) (by decide) ?_
  refine s_bast C (by decide +kernel) ?_
  refine s_dup C (by decide +kernel) ?_
  refine s_bipush (n := 75) C (by decide +kernel) (by decide) ?_
  refine s_iconst (n := 0) C (by decide +kernel) (by decide) ?_
  refine s_bast C (by decide +kernel) ?_
  refine s_dup C (by decide +kernel) ?_
  refine s_bipush (n := 76) C (by decide +kernel) (by decide) ?_
  refine s_bipush (n := 116) C (by decide +kernel) (by decide) ?_
  exact (b_X12_init_528 C)
set_option maxRecDepth 20000 in
theorem b_X12_init_325 {Z : Zt} {d : Nat} {p : Program} {e : Env} {R : Room} {s : State} {m : MethodId} {args : Array Value} {below : List Frame} {meth : Method} {c : Code} {Rp : RT} (C : Cx Z (d + 2) jX12_init RX12 p R s m args meth c) : Sd Z jX12_init p e R s m args below meth c (MQ below (QcS Z Rp) args s 10 77201 (fun a => Z.2.2.1 < a)) 325 (w_X12_init_325 (MS Z (d + 2)) (Gw Z 1 p e R s m args below meth c (MQ below (QcS Z Rp) args s 10 77201 (fun a => Z.2.2.1 < a))) Rp) := by
  unfold w_X12_init_325
  refine s_bast C (by decide +kernel) ?_
  refine s_dup C (by decide +kernel) ?_
  refine s_bipush (n := 42) C (by decide +kernel) (by decide) ?_
  refine s_bipush (n := 97) C (by decide +kernel) (by decide) ?_
  refine s_bast C (by decide +kernel) ?_
  refine s_dup C (by decide +kernel) ?_
  refine s_bipush (n := 43) C (by decide +kernel) (by decide) ?_
  refine s_bipush (n := 99) C (by decide +kernel) (by decide) ?_
  refine s_bast C (by decide +kernel) ?_
  refine s_dup C (by decide +kernel) ?_
  refine s_bipush (n := 44) C (by decide +kernel) (by decide) ?_
  refine s_bipush (n := 116) C (by decide +kernel) (by decide) ?_
  refine s_bast C (by decide +kernel) ?_
  refine s_dup C (by decide +kernel) ?_
  refine s_bipush (n := 45) C (by decide +kernel) (by decide) ?_
  refine s_iconst (n := 0) C (by decide +kernel) (by decide) ?_
  refine s_bast C (by decide +kernel) ?_
  refine s_dup C (by decide +kernel) ?_
  refine s_bipush (n := 46) C (by decide +kernel) (by decide) ?_
  refine s_bipush (n := 115) C (by decide +kernel) (by decide) ?_
  refine s_bast C (by decide +kernel) ?_
  refine s_dup C (by decide +kernel) ?_
  refine s_bipush (n := 47) C (by decide +kernel) (by decide) ?_
  refine s_bipush (n := 116) C (by decide +kernel) (by decide) ?_
  refine s_bast C (by decide +kernel) ?_
  refine s_dup C (by decide +kernel) ?_
  refine s_bipush (n := 48) C (by decide +kernel) (by decide) ?_
  refine s_bipush (n := 111) C (by decide +kernel) (by decide) ?_
  refine s_bast C (by decide +kernel) ?_
  refine s_dup C (by decide +kernel) ?_
  refine s_bipush (n := 49) C (by decide +kernel) (by decide) ?_
  refine s_bipush (n := 112) C (by decide +kernel) (by decide) ?_
  refine s_bast C (by decide +kernel) ?_
  refine s_dup C (by decide +kernel) ?_
  refine s_bipush (n := 50) C (by decide +kernel) (by decide) ?_
  refine s_iconst (n := 0) C (by decide +kernel) (by decide) ?_
  refine s_bast C (by decide +kernel) ?_
  refine s_dup C (by decide +kernel) ?_
  refine s_bipush (n := 51) C (by decide +kernel) (by decide) ?_
  refine s_bipush (n := 115) C (by decide +kernel) (by decide) ?_
  refine s_bast C (by decide +kernel) ?_
  refine s_dup C (by decide +kernel) ?_
  refine s_bipush (n := 52) C (by decide +kernel) (by decide) ?_
  refine s_bipush (n := 116) C (by decide +kernel) (by decide) ?_
  refine s_bast C (by decide +kernel) ?_
  refine s_dup C (by decide +kernel) ?_
  refine s_bipush (n := 53) C (by decide +kernel) (by decide) ?_
  refine s_bipush (n := 97) C (by decide +kernel) (by decide) ?_
  refine s_bast C (by decide +kernel) ?_
  refine s_dup C (by decide +kernel) ?_
  refine s_bipush (n := 54) C (by decide +kernel) (by decide) ?_
  refine s_bipush (n := 114) C (by decide +kernel) (by decide) ?_
  refine s_bast C (by decide +kernel) ?_
  refine s_dup C (by decide +kernel) ?_
  refine s_bipush (n := 55) C (by decide +kernel) (by decide) ?_
  refine s_bipush (n := 116) C (by decide +kernel) (by decide) ?_
  refine s_bast C (by decide +kernel) ?_
  refine s_dup C (by decide +kernel) ?_
  refine s_bipush (n := 56) C (by decide +kernel) (by decide) ?_
  refine s_iconst (n := 0) C (by decide +kernel) (by decide) ?_
  refine s_bast C (by decide +kernel) ?_
  refine s_dup C (by decide +kernel) ?_
  refine s_bipush (n := 57) C (by decide +kernel) (by decide) ?_
  refine s_bipush (n := 99) C (by decide +kernel) (by decide) ?_
  refine s_bast C (by decide +kernel) ?_
  refine s_dup C (by decide +kernel) ?_
  refine s_bipush (n := 58) C (by decide +kernel) (by decide) ?_
  refine s_bipush (n := 117) C (by decide +kernel) (by decide) ?_
  refine s_bast C (by decide +kernel) ?_
  refine s_dup C (by decide +kernel) ?_
  exact (b_X12_init_426 C)
set_option maxRecDepth 20000 in
theorem b_X12_init_222 {Z : Zt} {d : Nat} {p : Program} {e : Env} {R : Room} {s : State} {m : MethodId} {args : Array Value} {below : List Frame} {meth : Method} {c : Code} {Rp : RT} (C : Cx Z (d + 2) jX12_init RX12 p R s m args meth c) : Sd Z jX12_init p e R s m args below meth c (MQ below (QcS Z Rp) args s 10 77201 (fun a => Z.2.2.1 < a)) 222 (w_X12_init_222 (MS Z (d + 2)) (Gw Z 1 p e R s m args below meth c (MQ below (QcS Z Rp) args s 10 77201 (fun a => Z.2.2.1 < a))) Rp) := by
  unfold w_X12_init_222
  refine s_bipush (n := 24) C (by decide +kernel) (by decide) ?_
  refine s_bipush (n := 100) C (by decide +kernel) (by decide) ?_
  refine s_bast C (by decide +kernel) ?_
  refine s_dup C (by decide +kernel) ?_
  refine s_bipush (n := 25) C (by decide +kernel) (by decide) ?_
  refine s_iconst (n := 0) C (by decide +kernel) (by decide) ?_
  refine s_bast C (by decide +kernel) ?_
  refine s_dup C (by decide +kernel) ?_
  refine s_bipush (n := 26) C (by decide +kernel) (by decide) ?_
  refine s_bipush (n := 104) C (by decide +kernel) (by decide) ?_
  refine s_bast C (by decide +kernel) ?_
  refine s_dup C (by decide +kernel) ?_
  refine s_bipush (n := 27) C (by decide +kernel) (by decide) ?_
  refine s_bipush (n := 97) C (by decide +kernel) (by decide) ?_
  refine s_bast C (by decide +kernel) ?_
  refine s_dup C (by decide +kernel) ?_
  refine s_bipush (n := 28) C (by decide +kernel) (by decide) ?_
  refine s_bipush (n := 110) C (by decide +kernel) (by decide) ?_
  refine s_bast C (by decide +kernel) ?_
  refine s_dup C (by decide +kernel) ?_
  refine s_bipush (n := 29) C (by decide +kernel) (by decide) ?_
  refine s_bipush (n := 100) C (by decide +kernel) (by decide) ?_
  refine s_bast C (by decide +kernel) ?_
  refine s_dup C (by decide +kernel) ?_
  refine s_bipush (n := 30) C (by decide +kernel) (by decide) ?_
  refine s_iconst (n := 0) C (by decide +kernel) (by decide) ?_
  refine s_bast C (by decide +kernel) ?_
  refine s_dup C (by decide +kernel) ?_
  refine s_bipush (n := 31) C (by decide +kernel) (by decide) ?_
  refine s_bipush (n := 99) C (by decide +kernel) (by decide) ?_
  refine s_bast C (by decide +kernel) ?_
  refine s_dup C (by decide +kernel) ?_
  refine s_bipush (n := 32) C (by decide +kernel) (by decide) ?_
  refine s_bipush (n := 104) C (by decide +kernel) (by decide) ?_
  refine s_bast C (by decide +kernel) ?_
  refine s_dup C (by decide +kernel) ?_
  refine s_bipush (n := 33) C (by decide +kernel) (by decide) ?_
  refine s_bipush (n := 97) C (by decide +kernel) (by decide) ?_
  refine s_bast C (by decide +kernel) ?_
  refine s_dup C (by decide +kernel) ?_
  refine s_bipush (n := 34) C (by decide +kernel) (by decide) ?_
  refine s_bipush (n := 110) C (by decide +kernel) (by decide) ?_
  refine s_bast C (by decide +kernel) ?_
  refine s_dup C (by decide +kernel) ?_
  refine s_bipush (n := 35) C (by decide +kernel) (by decide) ?_
  refine s_bipush (n := 103) C (by decide +kernel) (by decide) ?_
  refine s_bast C (by decide +kernel) ?_
  refine s_dup C (by decide +kernel) ?_
  refine s_bipush (n := 36) C (by decide +kernel) (by decide) ?_
  refine s_bipush (n := 101) C (by decide +kernel) (by decide) ?_
  refine s_bast C (by decide +kernel) ?_
  refine s_dup C (by decide +kernel) ?_
  refine s_bipush (n := 37) C (by decide +kernel) (by decide) ?_
  refine s_iconst (n := 0) C (by decide +kernel) (by decide) ?_
  refine s_bast C (by decide +kernel) ?_
  refine s_dup C (by decide +kernel) ?_
  refine s_bipush (n := 38) C (by decide +kernel) (by decide) ?_
  refine s_bipush (n := 99) C (by decide +kernel) (by decide) ?_
  refine s_bast C (by decide +kernel) ?_
  refine s_dup C (by decide +kernel) ?_
  refine s_bipush (n := 39) C (by decide +kernel) (by decide) ?_
  refine s_bipush (n := 111) C (by decide +kernel) (by decide) ?_
  refine s_bast C (by decide +kernel) ?_
  refine s_dup C (by decide +kernel) ?_
  refine s_bipush (n := 40) C (by decide +kernel) (by decide) ?_
  refine s_bipush (n := 109) C (by decide +kernel) (by decide) ?_
  refine s_bast C (by decide +kernel) ?_
  refine s_dup C (by decide +kernel) ?_
  refine s_bipush (n := 41) C (by decide +kernel) (by decide) ?_
  refine s_bipush (n := 112) C (by decide +kernel) (by decide) ?_
  exact (b_X12_init_325 C)
set_option maxRecDepth 20000 in
theorem b_X12_init_122 {Z : Zt} {d : Nat} {p : Program} {e : Env} {R : Room} {s : State} {m : MethodId} {args : Array Value} {below : List Frame} {meth : Method} {c : Code} {Rp : RT} (C : Cx Z (d + 2) jX12_init RX12 p R s m args meth c) : Sd Z jX12_init p e R s m args below meth c (MQ below (QcS Z Rp) args s 10 77201 (fun a => Z.2.2.1 < a)) 122 (w_X12_init_122 (MS Z (d + 2)) (Gw Z 1 p e R s m args below meth c (MQ below (QcS Z Rp) args s 10 77201 (fun a => Z.2.2.1 < a))) Rp) := by
  unfold w_X12_init_122
  refine s_bast C (by decide +kernel) ?_
  refine s_dup C (by decide +kernel) ?_
  refine s_bipush (n := 7) C (by decide +kernel) (by decide) ?_
  refine s_iconst (n := 0) C (by decide +kernel) (by decide) ?_
  refine s_bast C (by decide +kernel) ?_
  refine s_dup C (by decide +kernel) ?_
  refine s_bipush (n := 8) C (by decide +kernel) (by decide) ?_
  refine s_bipush (n := 98) C (by decide +kernel) (by decide) ?_
  refine s_bast C (by decide +kernel) ?_
  refine s_dup C (by decide +kernel) ?_
  refine s_bipush (n := 9) C (by decide +kernel) (by decide) ?_
  refine s_bipush (n := 101) C (by decide +kernel) (by decide) ?_
  refine s_bast C (by decide +kernel) ?_
  refine s_dup C (by decide +kernel) ?_
  refine s_bipush (n := 10) C (by decide +kernel) (by decide) ?_
  refine s_bipush (n := 97) C (by decide +kernel) (by decide) ?_
  refine s_bast C (by decide +kernel) ?_
  refine s_dup C (by decide +kernel) ?_
  refine s_bipush (n := 11) C (by decide +kernel) (by decide) ?_
  refine s_bipush (n := 116) C (by decide +kernel) (by decide) ?_
  refine s_bast C (by decide +kernel) ?_
  refine s_dup C (by decide +kernel) ?_
  refine s_bipush (n := 12) C (by decide +kernel) (by decide) ?_
  refine s_iconst (n := 0) C (by decide +kernel) (by decide) ?_
  refine s_bast C (by decide +kernel) ?_
  refine s_dup C (by decide +kernel) ?_
  refine s_bipush (n := 13) C (by decide +kernel) (by decide) ?_
  refine s_bipush (n := 115) C (by decide +kernel) (by decide) ?_
  refine s_bast C (by decide +kernel) ?_
  refine s_dup C (by decide +kernel) ?_
  refine s_bipush (n := 14) C (by decide +kernel) (by decide) ?_
  refine s_bipush (n := 101) C (by decide +kernel) (by decide) ?_
  refine s_bast C (by decide +kernel) ?_
  refine s_dup C (by decide +kernel) ?_
  refine s_bipush (n := 15) C (by decide +kernel) (by decide) ?_
  refine s_bipush (n := 116) C (by decide +kernel) (by decide) ?_
  refine s_bast C (by decide +kernel) ?_
  refine s_dup C (by decide +kernel) ?_
  refine s_bipush (n := 16) C (by decide +kernel) (by decide) ?_
  refine s_iconst (n := 0) C (by decide +kernel) (by decide) ?_
  refine s_bast C (by decide +kernel) ?_
  refine s_dup C (by decide +kernel) ?_
  refine s_bipush (n := 17) C (by decide +kernel) (by decide) ?_
  refine s_bipush (n := 97) C (by decide +kernel) (by decide) ?_
  refine s_bast C (by decide +kernel) ?_
  refine s_dup C (by decide +kernel) ?_
  refine s_bipush (n := 18) C (by decide +kernel) (by decide) ?_
  refine s_bipush (n := 100) C (by decide +kernel) (by decide) ?_
  refine s_bast C (by decide +kernel) ?_
  refine s_dup C (by decide +kernel) ?_
  refine s_bipush (n := 19) C (by decide +kernel) (by decide) ?_
  refine s_bipush (n := 100) C (by decide +kernel) (by decide) ?_
  refine s_bast C (by decide +kernel) ?_
  refine s_dup C (by decide +kernel) ?_
  refine s_bipush (n := 20) C (by decide +kernel) (by decide) ?_
  refine s_iconst (n := 0) C (by decide +kernel) (by decide) ?_
  refine s_bast C (by decide +kernel) ?_
  refine s_dup C (by decide +kernel) ?_
  refine s_bipush (n := 21) C (by decide +kernel) (by decide) ?_
  refine s_bipush (n := 114) C (by decide +kernel) (by decide) ?_
  refine s_bast C (by decide +kernel) ?_
  refine s_dup C (by decide +kernel) ?_
  refine s_bipush (n := 22) C (by decide +kernel) (by decide) ?_
  refine s_bipush (n := 101) C (by decide +kernel) (by decide) ?_
  refine s_bast C (by decide +kernel) ?_
  refine s_dup C (by decide +kernel) ?_
  refine s_bipush (n := 23) C (by decide +kernel) (by decide) ?_
  refine s_bipush (n := 97) C (by decide +kernel) (by decide) ?_
  refine s_bast C (by decide +kernel) ?_
  refine s_dup C (by decide +kernel) ?_
  exact (b_X12_init_222 C)
set_option maxRecDepth 20000 in
theorem b_X12_init_0 {Z : Zt} {d : Nat} {p : Program} {e : Env} {R : Room} {s : State} {m : MethodId} {args : Array Value} {below : List Frame} {meth : Method} {c : Code} {Rp : RT} (C : Cx Z (d + 2) jX12_init RX12 p R s m args meth c) : Sd Z jX12_init p e R s m args below meth c (MQ below (QcS Z Rp) args s 10 77201 (fun a => Z.2.2.1 < a)) 0 (w_X12_init_0 (MS Z (d + 2)) (Gw Z 1 p e R s m args below meth c (MQ below (QcS Z Rp) args s 10 77201 (fun a => Z.2.2.1 < a))) Rp) := by
  unfold w_X12_init_0
  refine s_aload_n (k := 0) C (by decide +kernel) ?_
  refine s_objI C w_6_76 w_1_28 w_1_29 (by decide +kernel) ?_
  refine s_aload_n (k := 0) C (by decide +kernel) ?_
  refine s_sipush (n := 13548) C (by decide +kernel) (by decide) ?_
  refine s_newa (aty := .int) C rfl w_1_117 (fun _ _ h => h) (by decide +kernel) ?_
  refine s_putR C w_6_88 (by decide +kernel) rfl (Or.inr ⟨rfl, rfl, rfl⟩) ?_
  refine s_aload_n (k := 0) C (by decide +kernel) ?_
  refine s_ldc C w_6_77 (by decide +kernel) ?_
  refine s_newa (aty := .int) C rfl w_1_117 (fun _ _ h => h) (by decide +kernel) ?_
  refine s_putR C w_6_89 (by decide +kernel) rfl (Or.inr ⟨rfl, rfl, rfl⟩) ?_
  refine s_aload_n (k := 0) C (by decide +kernel) ?_
  refine s_sipush (n := 4516) C (by decide +kernel) (by decide) ?_
  refine s_newa (aty := .int) C rfl w_1_117 (fun _ _ h => h) (by decide +kernel) ?_
  refine s_putR C w_6_90 (by decide +kernel) rfl (Or.inr ⟨rfl, rfl, rfl⟩) ?_
  refine s_aload_n (k := 0) C (by decide +kernel) ?_
  refine s_sipush (n := 4516) C (by decide +kernel) (by decide) ?_
  refine s_newa (aty := .int) C rfl w_1_117 (fun _ _ h => h) (by decide +kernel) ?_
  refine s_putR C w_6_91 (by decide +kernel) rfl (Or.inr ⟨rfl, rfl, rfl⟩) ?_
  refine s_aload_n (k := 0) C (by decide +kernel) ?_
  refine s_sipush (n := 18064) C (by decide +kernel) (by decide) ?_
  refine s_newa (aty := .int) C rfl w_1_117 (fun _ _ h => h) (by decide +kernel) ?_
  refine s_putR C w_6_92 (by decide +kernel) rfl (Or.inr ⟨rfl, rfl, rfl⟩) ?_
  refine s_aload_n (k := 0) C (by decide +kernel) ?_
  refine s_iconst (n := 2) C (by decide +kernel) (by decide) ?_
  refine s_newa (aty := .boolean) C rfl w_6_169 (fun _ _ h => h) (by decide +kernel) ?_
  refine s_putR C w_6_94 (by decide +kernel) rfl (Or.inr ⟨rfl, rfl, rfl⟩) ?_
  refine s_aload_n (k := 0) C (by decide +kernel) ?_
  refine s_bipush (n := 21) C (by decide +kernel) (by decide) ?_
  refine s_newa (aty := .int) C rfl w_1_117 (fun _ _ h => h) (by decide +kernel) ?_
  refine s_putR C w_6_99 (by decide +kernel) rfl (Or.inr ⟨rfl, rfl, rfl⟩) ?_
  refine s_aload_n (k := 0) C (by decide +kernel) ?_
  refine s_sipush (n := 300) C (by decide +kernel) (by decide) ?_
  refine s_newa (aty := .byte) C rfl w_5_78 (fun _ _ h => h) (by decide +kernel) ?_
  refine s_putR C w_6_100 (by decide +kernel) rfl (Or.inr ⟨rfl, rfl, rfl⟩) ?_
  refine s_aload_n (k := 0) C (by decide +kernel) ?_
  refine s_iconst (n := (-1)) C (by decide +kernel) (by decide) ?_
  refine s_putI C w_6_105 (by decide +kernel) rfl (Or.inl rfl) ?_
  refine s_aload_n (k := 0) C (by decide +kernel) ?_
  refine s_iconst (n := (-1)) C (by decide +kernel) (by decide) ?_
  refine s_putI C w_6_107 (by decide +kernel) rfl (Or.inl rfl) ?_
  refine s_aload_n (k := 0) C (by decide +kernel) ?_
  refine s_bipush (n := 103) C (by decide +kernel) (by decide) ?_
  refine s_newa (aty := .byte) C rfl w_5_78 (fun _ _ h => h) (by decide +kernel) ?_
  refine s_dup C (by decide +kernel) ?_
  refine s_iconst (n := 0) C (by decide +kernel) (by decide) ?_
  refine s_bipush (n := 116) C (by decide +kernel) (by decide) ?_
  refine s_bast C (by decide +kernel) ?_
  refine s_dup C (by decide +kernel) ?_
  refine s_iconst (n := 1) C (by decide +kernel) (by decide) ?_
  refine s_bipush (n := 105) C (by decide +kernel) (by decide) ?_
  refine s_bast C (by decide +kernel) ?_
  refine s_dup C (by decide +kernel) ?_
  refine s_iconst (n := 2) C (by decide +kernel) (by decide) ?_
  refine s_bipush (n := 109) C (by decide +kernel) (by decide) ?_
  refine s_bast C (by decide +kernel) ?_
  refine s_dup C (by decide +kernel) ?_
  refine s_iconst (n := 3) C (by decide +kernel) (by decide) ?_
  refine s_bipush (n := 101) C (by decide +kernel) (by decide) ?_
  refine s_bast C (by decide +kernel) ?_
  refine s_dup C (by decide +kernel) ?_
  refine s_iconst (n := 4) C (by decide +kernel) (by decide) ?_
  refine s_bipush (n := 111) C (by decide +kernel) (by decide) ?_
  refine s_bast C (by decide +kernel) ?_
  refine s_dup C (by decide +kernel) ?_
  refine s_iconst (n := 5) C (by decide +kernel) (by decide) ?_
  refine s_bipush (n := 117) C (by decide +kernel) (by decide) ?_
  refine s_bast C (by decide +kernel) ?_
  refine s_dup C (by decide +kernel) ?_
  refine s_bipush (n := 6) C (by decide +kernel) (by decide) ?_
  refine s_bipush (n := 116) C (by decide +kernel) (by decide) ?_
  exact (b_X12_init_122 C)
theorem ms_X12_init {Z : Zt} {d : Nat} {S : Sh} {μ : Mi} {ρ : Mr} {Rp : RT} (a0 : Nat) (h : ∀ G : Nat → PT, w_X12_init_0 (MS Z (d + 2)) G Rp [.ref a0] [] S (0, 0) μ ρ) : MS Z (d + 3) jX12_init [.ref a0] S μ ρ Rp :=
  MS_of [.ref a0] (by decide +kernel) rfl rfl (Nat.le_of_ble_eq_true rfl) rfl (fun p e R s m args below meth c C => b_X12_init_0 C _ _ _ _ _ _ (h _ ))
section Mk7
variable {Z : Zt} {d : Nat} {S : Sh} {μ : Mi} {ρ : Mr} {Rp : RT}
/-- one byte of the words is laid -/
theorem byS {L st : List Value} {q : Nat × Nat} {t : PT} {i x : Int32} (n : Nat) (hi : i = nI n) (hn : n < 103) (h2 : S.2 2746 = (21, 103)) (h : t L st S q (upI μ 2746 n (x.toInt8.toInt32)) ρ) : tBast t L (.int x :: .int i :: .ref 2746 :: st) S q μ ρ := by
  subst hi
  show (S.2 2746).1 = 21 ∧ inb (nI n) (S.2 2746).2 ∧ t L st S q (upI μ 2746 (nI n).toNatClampNeg x.toInt8.toInt32) ρ
  rw [h2, nI_clamp (by omega)]
  exact ⟨rfl, inb_nI hn (by decide), h⟩
end Mk7
