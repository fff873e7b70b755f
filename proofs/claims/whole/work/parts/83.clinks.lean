/-! ===== links of the constructors ===== -/
set_option maxRecDepth 100000 in
theorem kAI : Cond.arrayClass .int ∈ lw_g := mg1 (i := 51) (by decide +kernel) (by decide +kernel)
set_option maxRecDepth 100000 in
theorem kAJ : Cond.arrayClass .long ∈ lw_g := mg1 (i := 72) (by decide +kernel) (by decide +kernel)
set_option maxRecDepth 100000 in
theorem kOI : Cond.instanceMethod Lib.objectInit ∈ lw_g := mg1 (i := 19) (by decide +kernel) (by decide +kernel)
set_option maxRecDepth 100000 in
theorem kOC : Cond.code Lib.objectInit ⟨#[0xb1]⟩ 1 none ∈ lw_g := mg1 (i := 20) (by decide +kernel) (by decide +kernel)
set_option maxRecDepth 100000 in
theorem kOX0 : Cond.methodLink RX0 3 Lib.objectInit ∈ lw_g := mg1 (i := 32) (by decide +kernel) (by decide +kernel)
set_option maxRecDepth 100000 in
theorem kOX4 : Cond.methodLink RX4 3 Lib.objectInit ∈ lw_g := mg1 (i := 56) (by decide +kernel) (by decide +kernel)
set_option maxRecDepth 100000 in
theorem kOX5 : Cond.methodLink RX5 3 Lib.objectInit ∈ lw_g := mg1 (i := 77) (by decide +kernel) (by decide +kernel)
set_option maxRecDepth 100000 in
theorem kOX7 : Cond.methodLink RX7 1 Lib.objectInit ∈ lw_g := mg1 (i := 18) (by decide +kernel) (by decide +kernel)
set_option maxRecDepth 100000 in
theorem kOX8 : Cond.methodLink RX8 1 Lib.objectInit ∈ lw_g := mg3 (i := 34) (by decide +kernel) (by decide +kernel)
set_option maxRecDepth 100000 in
theorem kCM : Cond.classLink RX7 9 "[[I" ∈ lw_g := mg1 (i := 21) (by decide +kernel) (by decide +kernel)
set_option maxRecDepth 100000 in
theorem kCS : Cond.classLink RX7 14 "ShuffleDesk$Shuffle" ∈ lw_g := mg1 (i := 23) (by decide +kernel) (by decide +kernel)
set_option maxRecDepth 100000 in
theorem kCT : Cond.classLink RX7 20 "ShuffleDesk$Tray" ∈ lw_g := mg1 (i := 25) (by decide +kernel) (by decide +kernel)
set_option maxRecDepth 100000 in
theorem kNA : PNW RX7 26 0 5 [.null, .int 0, .int 0, .int 0, .int 0] := ⟨RX0, TX0, tyX0, rfl, uwX0, tyX0_ok, mg1 (i := 27) (by decide +kernel) (by decide +kernel), mg1 (i := 28) (by decide +kernel) (by decide +kernel), mg1 (i := 2) (by decide +kernel) (by decide +kernel), by decide, fun _ _ => rfl⟩
set_option maxRecDepth 100000 in
theorem kNS : PNW RX7 14 1 3 [.null, .int 0, .int 0] := ⟨RX4, TX4, tyX4, rfl, uwX4, tyX4_ok, mg1 (i := 23) (by decide +kernel) (by decide +kernel), mg1 (i := 52) (by decide +kernel) (by decide +kernel), mg1 (i := 3) (by decide +kernel) (by decide +kernel), by decide, fun _ _ => rfl⟩
set_option maxRecDepth 100000 in
theorem kNT : PNW RX7 20 2 3 [.null, .int 0, .int 0] := ⟨RX5, TX5, tyX5, rfl, uwX5, tyX5_ok, mg1 (i := 25) (by decide +kernel) (by decide +kernel), mg1 (i := 73) (by decide +kernel) (by decide +kernel), mg1 (i := 4) (by decide +kernel) (by decide +kernel), by decide, fun _ _ => rfl⟩
set_option maxRecDepth 100000 in
theorem kND : PNW "ShuffleDeskLaw" 7 3 14 [.null, .null, .null, .null, .int 0, .int 0, .int 0, .int 0, .null, .null, .null, .null, .null, .null] := ⟨RX7, TX7, tyX7, rfl, uwX7, tyX7_ok, mg1 (i := 13) (by decide +kernel) (by decide +kernel), mg1 (i := 14) (by decide +kernel) (by decide +kernel), mg1 (i := 1) (by decide +kernel) (by decide +kernel), by decide, fun _ _ => rfl⟩
set_option maxRecDepth 100000 in
theorem kNM : PNW "ShuffleDeskLaw" 10 4 24 [.int 0, .int 0, .int 0, .int 0, .null, .null, .null, .null, .null, .null, .null, .null, .null, .null, .null, .null, .null, .null, .null, .null, .null, .null, .null, .int 0] := ⟨RX8, TX8, tyX8, rfl, uwX8, tyX8_ok, mg3 (i := 29) (by decide +kernel) (by decide +kernel), mg3 (i := 30) (by decide +kernel) (by decide +kernel), mg1 (i := 5) (by decide +kernel) (by decide +kernel), by decide, fun _ _ => rfl⟩
set_option maxRecDepth 100000 in
theorem rX0_9 : PFR RX0 9 0 0 (.array .int) := ⟨(RX0, TX0, 5), rfl, uwX0, by decide, mg1 (i := 33) (by decide +kernel) (by decide +kernel), by decide +kernel, by decide +kernel, ⟨tyX0, tyX0_ok⟩, nmX0, fun _ => ⟨rfl, rfl⟩⟩
set_option maxRecDepth 100000 in
theorem rX4_9 : PFR RX4 9 1 0 (.array .int) := ⟨(RX4, TX4, 3), rfl, uwX4, by decide, mg1 (i := 57) (by decide +kernel) (by decide +kernel), by decide +kernel, by decide +kernel, ⟨tyX4, tyX4_ok⟩, nmX4, fun _ => ⟨rfl, rfl⟩⟩
set_option maxRecDepth 100000 in
theorem rX5_9 : PFR RX5 9 2 0 (.array .int) := ⟨(RX5, TX5, 3), rfl, uwX5, by decide, mg1 (i := 78) (by decide +kernel) (by decide +kernel), by decide +kernel, by decide +kernel, ⟨tyX5, tyX5_ok⟩, nmX5, fun _ => ⟨rfl, rfl⟩⟩
set_option maxRecDepth 100000 in
theorem rX7_11 : PFR RX7 11 3 0 (.array (.array .int)) := ⟨(RX7, TX7, 14), rfl, uwX7, by decide, mg1 (i := 90) (by decide +kernel) (by decide +kernel), by decide +kernel, by decide +kernel, ⟨tyX7, tyX7_ok⟩, nmX7, fun _ => ⟨rfl, rfl⟩⟩
set_option maxRecDepth 100000 in
theorem rX7_16 : PFR RX7 16 3 1 (.array (.object "ShuffleDesk$Shuffle")) := ⟨(RX7, TX7, 14), rfl, uwX7, by decide, mg1 (i := 91) (by decide +kernel) (by decide +kernel), by decide +kernel, by decide +kernel, ⟨tyX7, tyX7_ok⟩, nmX7, fun _ => ⟨rfl, rfl⟩⟩
set_option maxRecDepth 100000 in
theorem rX7_22 : PFR RX7 22 3 2 (.array (.object "ShuffleDesk$Tray")) := ⟨(RX7, TX7, 14), rfl, uwX7, by decide, mg1 (i := 92) (by decide +kernel) (by decide +kernel), by decide +kernel, by decide +kernel, ⟨tyX7, tyX7_ok⟩, nmX7, fun _ => ⟨rfl, rfl⟩⟩
set_option maxRecDepth 100000 in
theorem rX7_29 : PFR RX7 29 3 3 (.object "ShuffleDesk$Acts") := ⟨(RX7, TX7, 14), rfl, uwX7, by decide, mg1 (i := 93) (by decide +kernel) (by decide +kernel), by decide +kernel, by decide +kernel, ⟨tyX7, tyX7_ok⟩, nmX7, fun _ => ⟨rfl, rfl⟩⟩
set_option maxRecDepth 100000 in
theorem rX7_46 : PFR RX7 46 3 8 (.array .int) := ⟨(RX7, TX7, 14), rfl, uwX7, by decide, mg1 (i := 98) (by decide +kernel) (by decide +kernel), by decide +kernel, by decide +kernel, ⟨tyX7, tyX7_ok⟩, nmX7, fun _ => ⟨rfl, rfl⟩⟩
set_option maxRecDepth 100000 in
theorem rX7_50 : PFR RX7 50 3 9 (.array .int) := ⟨(RX7, TX7, 14), rfl, uwX7, by decide, mg1 (i := 99) (by decide +kernel) (by decide +kernel), by decide +kernel, by decide +kernel, ⟨tyX7, tyX7_ok⟩, nmX7, fun _ => ⟨rfl, rfl⟩⟩
set_option maxRecDepth 100000 in
theorem rX7_53 : PFR RX7 53 3 10 (.array .int) := ⟨(RX7, TX7, 14), rfl, uwX7, by decide, mg1 (i := 100) (by decide +kernel) (by decide +kernel), by decide +kernel, by decide +kernel, ⟨tyX7, tyX7_ok⟩, nmX7, fun _ => ⟨rfl, rfl⟩⟩
set_option maxRecDepth 100000 in
theorem rX7_56 : PFR RX7 56 3 11 (.array .int) := ⟨(RX7, TX7, 14), rfl, uwX7, by decide, mg1 (i := 101) (by decide +kernel) (by decide +kernel), by decide +kernel, by decide +kernel, ⟨tyX7, tyX7_ok⟩, nmX7, fun _ => ⟨rfl, rfl⟩⟩
set_option maxRecDepth 100000 in
theorem rX7_59 : PFR RX7 59 3 12 (.array .long) := ⟨(RX7, TX7, 14), rfl, uwX7, by decide, mg1 (i := 102) (by decide +kernel) (by decide +kernel), by decide +kernel, by decide +kernel, ⟨tyX7, tyX7_ok⟩, nmX7, fun _ => ⟨rfl, rfl⟩⟩
set_option maxRecDepth 100000 in
theorem rX7_63 : PFR RX7 63 3 13 (.array .long) := ⟨(RX7, TX7, 14), rfl, uwX7, by decide, mg1 (i := 103) (by decide +kernel) (by decide +kernel), by decide +kernel, by decide +kernel, ⟨tyX7, tyX7_ok⟩, nmX7, fun _ => ⟨rfl, rfl⟩⟩
set_option maxRecDepth 100000 in
theorem rX8_13 : PFR RX8 13 4 4 (.array .int) := ⟨(RX8, TX8, 24), rfl, uwX8, by decide, mg3 (i := 39) (by decide +kernel) (by decide +kernel), by decide +kernel, by decide +kernel, ⟨tyX8, tyX8_ok⟩, nmX8, fun _ => ⟨rfl, rfl⟩⟩
set_option maxRecDepth 100000 in
theorem rX8_17 : PFR RX8 17 4 5 (.array .int) := ⟨(RX8, TX8, 24), rfl, uwX8, by decide, mg3 (i := 40) (by decide +kernel) (by decide +kernel), by decide +kernel, by decide +kernel, ⟨tyX8, tyX8_ok⟩, nmX8, fun _ => ⟨rfl, rfl⟩⟩
set_option maxRecDepth 100000 in
theorem rX8_20 : PFR RX8 20 4 6 (.array .int) := ⟨(RX8, TX8, 24), rfl, uwX8, by decide, mg3 (i := 41) (by decide +kernel) (by decide +kernel), by decide +kernel, by decide +kernel, ⟨tyX8, tyX8_ok⟩, nmX8, fun _ => ⟨rfl, rfl⟩⟩
set_option maxRecDepth 100000 in
theorem rX8_23 : PFR RX8 23 4 7 (.array .int) := ⟨(RX8, TX8, 24), rfl, uwX8, by decide, mg3 (i := 42) (by decide +kernel) (by decide +kernel), by decide +kernel, by decide +kernel, ⟨tyX8, tyX8_ok⟩, nmX8, fun _ => ⟨rfl, rfl⟩⟩
set_option maxRecDepth 100000 in
theorem rX8_26 : PFR RX8 26 4 8 (.array .int) := ⟨(RX8, TX8, 24), rfl, uwX8, by decide, mg3 (i := 43) (by decide +kernel) (by decide +kernel), by decide +kernel, by decide +kernel, ⟨tyX8, tyX8_ok⟩, nmX8, fun _ => ⟨rfl, rfl⟩⟩
set_option maxRecDepth 100000 in
theorem rX8_29 : PFR RX8 29 4 9 (.array .int) := ⟨(RX8, TX8, 24), rfl, uwX8, by decide, mg3 (i := 44) (by decide +kernel) (by decide +kernel), by decide +kernel, by decide +kernel, ⟨tyX8, tyX8_ok⟩, nmX8, fun _ => ⟨rfl, rfl⟩⟩
set_option maxRecDepth 100000 in
theorem rX8_32 : PFR RX8 32 4 10 (.array .long) := ⟨(RX8, TX8, 24), rfl, uwX8, by decide, mg3 (i := 45) (by decide +kernel) (by decide +kernel), by decide +kernel, by decide +kernel, ⟨tyX8, tyX8_ok⟩, nmX8, fun _ => ⟨rfl, rfl⟩⟩
set_option maxRecDepth 100000 in
theorem rX8_36 : PFR RX8 36 4 11 (.array .long) := ⟨(RX8, TX8, 24), rfl, uwX8, by decide, mg3 (i := 46) (by decide +kernel) (by decide +kernel), by decide +kernel, by decide +kernel, ⟨tyX8, tyX8_ok⟩, nmX8, fun _ => ⟨rfl, rfl⟩⟩
set_option maxRecDepth 100000 in
theorem rX8_39 : PFR RX8 39 4 12 (.array .long) := ⟨(RX8, TX8, 24), rfl, uwX8, by decide, mg3 (i := 47) (by decide +kernel) (by decide +kernel), by decide +kernel, by decide +kernel, ⟨tyX8, tyX8_ok⟩, nmX8, fun _ => ⟨rfl, rfl⟩⟩
set_option maxRecDepth 100000 in
theorem rX8_42 : PFR RX8 42 4 13 (.array .long) := ⟨(RX8, TX8, 24), rfl, uwX8, by decide, mg3 (i := 48) (by decide +kernel) (by decide +kernel), by decide +kernel, by decide +kernel, ⟨tyX8, tyX8_ok⟩, nmX8, fun _ => ⟨rfl, rfl⟩⟩
set_option maxRecDepth 100000 in
theorem rX8_45 : PFR RX8 45 4 14 (.array .int) := ⟨(RX8, TX8, 24), rfl, uwX8, by decide, mg3 (i := 49) (by decide +kernel) (by decide +kernel), by decide +kernel, by decide +kernel, ⟨tyX8, tyX8_ok⟩, nmX8, fun _ => ⟨rfl, rfl⟩⟩
set_option maxRecDepth 100000 in
theorem rX8_48 : PFR RX8 48 4 15 (.array .int) := ⟨(RX8, TX8, 24), rfl, uwX8, by decide, mg3 (i := 50) (by decide +kernel) (by decide +kernel), by decide +kernel, by decide +kernel, ⟨tyX8, tyX8_ok⟩, nmX8, fun _ => ⟨rfl, rfl⟩⟩
set_option maxRecDepth 100000 in
theorem rX8_51 : PFR RX8 51 4 16 (.array .long) := ⟨(RX8, TX8, 24), rfl, uwX8, by decide, mg3 (i := 51) (by decide +kernel) (by decide +kernel), by decide +kernel, by decide +kernel, ⟨tyX8, tyX8_ok⟩, nmX8, fun _ => ⟨rfl, rfl⟩⟩
set_option maxRecDepth 100000 in
theorem rX8_54 : PFR RX8 54 4 17 (.array .long) := ⟨(RX8, TX8, 24), rfl, uwX8, by decide, mg3 (i := 52) (by decide +kernel) (by decide +kernel), by decide +kernel, by decide +kernel, ⟨tyX8, tyX8_ok⟩, nmX8, fun _ => ⟨rfl, rfl⟩⟩
set_option maxRecDepth 100000 in
theorem rX8_57 : PFR RX8 57 4 18 (.array .int) := ⟨(RX8, TX8, 24), rfl, uwX8, by decide, mg3 (i := 53) (by decide +kernel) (by decide +kernel), by decide +kernel, by decide +kernel, ⟨tyX8, tyX8_ok⟩, nmX8, fun _ => ⟨rfl, rfl⟩⟩
set_option maxRecDepth 100000 in
theorem rX8_60 : PFR RX8 60 4 19 (.array .int) := ⟨(RX8, TX8, 24), rfl, uwX8, by decide, mg3 (i := 54) (by decide +kernel) (by decide +kernel), by decide +kernel, by decide +kernel, ⟨tyX8, tyX8_ok⟩, nmX8, fun _ => ⟨rfl, rfl⟩⟩
set_option maxRecDepth 100000 in
theorem rX8_63 : PFR RX8 63 4 20 (.array .int) := ⟨(RX8, TX8, 24), rfl, uwX8, by decide, mg3 (i := 55) (by decide +kernel) (by decide +kernel), by decide +kernel, by decide +kernel, ⟨tyX8, tyX8_ok⟩, nmX8, fun _ => ⟨rfl, rfl⟩⟩
set_option maxRecDepth 100000 in
theorem rX8_66 : PFR RX8 66 4 21 (.array .int) := ⟨(RX8, TX8, 24), rfl, uwX8, by decide, mg3 (i := 56) (by decide +kernel) (by decide +kernel), by decide +kernel, by decide +kernel, ⟨tyX8, tyX8_ok⟩, nmX8, fun _ => ⟨rfl, rfl⟩⟩
set_option maxRecDepth 100000 in
theorem rX8_69 : PFR RX8 69 4 22 (.array .int) := ⟨(RX8, TX8, 24), rfl, uwX8, by decide, mg3 (i := 57) (by decide +kernel) (by decide +kernel), by decide +kernel, by decide +kernel, ⟨tyX8, tyX8_ok⟩, nmX8, fun _ => ⟨rfl, rfl⟩⟩
set_option maxRecDepth 100000 in
theorem kIX0 : Cond.code yX0_init cX0_init 1 none ∈ lw_g ∧ Cond.initialized (yX0_init).cls ∈ lw_g ∧ ((yX0_init).cls ≠ "java/lang/invoke/MethodHandle" ∧ (yX0_init).cls ≠ "java/lang/invoke/VarHandle" ∧ (parseMethodDescriptor (yX0_init).desc).map (fun d => d.parameters.length) = some 0) ∧ 1 ≤ 41 := ⟨mg1 (i := 31) (by decide +kernel) (by decide +kernel), mg1 (i := 2) (by decide +kernel) (by decide +kernel), by decide +kernel, by decide⟩
set_option maxRecDepth 100000 in
theorem kMX0 : Cond.instanceMethod yX0_init ∈ lw_g := mg1 (i := 30) (by decide +kernel) (by decide +kernel)
set_option maxRecDepth 100000 in
theorem kIX4 : Cond.code yX4_init cX4_init 1 none ∈ lw_g ∧ Cond.initialized (yX4_init).cls ∈ lw_g ∧ ((yX4_init).cls ≠ "java/lang/invoke/MethodHandle" ∧ (yX4_init).cls ≠ "java/lang/invoke/VarHandle" ∧ (parseMethodDescriptor (yX4_init).desc).map (fun d => d.parameters.length) = some 0) ∧ 1 ≤ 41 := ⟨mg1 (i := 55) (by decide +kernel) (by decide +kernel), mg1 (i := 3) (by decide +kernel) (by decide +kernel), by decide +kernel, by decide⟩
set_option maxRecDepth 100000 in
theorem kMX4 : Cond.instanceMethod yX4_init ∈ lw_g := mg1 (i := 54) (by decide +kernel) (by decide +kernel)
set_option maxRecDepth 100000 in
theorem kIX5 : Cond.code yX5_init cX5_init 1 none ∈ lw_g ∧ Cond.initialized (yX5_init).cls ∈ lw_g ∧ ((yX5_init).cls ≠ "java/lang/invoke/MethodHandle" ∧ (yX5_init).cls ≠ "java/lang/invoke/VarHandle" ∧ (parseMethodDescriptor (yX5_init).desc).map (fun d => d.parameters.length) = some 0) ∧ 1 ≤ 41 := ⟨mg1 (i := 76) (by decide +kernel) (by decide +kernel), mg1 (i := 4) (by decide +kernel) (by decide +kernel), by decide +kernel, by decide⟩
set_option maxRecDepth 100000 in
theorem kMX5 : Cond.instanceMethod yX5_init ∈ lw_g := mg1 (i := 75) (by decide +kernel) (by decide +kernel)
set_option maxRecDepth 100000 in
theorem kIX7 : Cond.code yX7_init cX7_init 2 none ∈ lw_g ∧ Cond.initialized (yX7_init).cls ∈ lw_g ∧ ((yX7_init).cls ≠ "java/lang/invoke/MethodHandle" ∧ (yX7_init).cls ≠ "java/lang/invoke/VarHandle" ∧ (parseMethodDescriptor (yX7_init).desc).map (fun d => d.parameters.length) = some 0) ∧ 2 ≤ 41 := ⟨mg1 (i := 17) (by decide +kernel) (by decide +kernel), mg1 (i := 1) (by decide +kernel) (by decide +kernel), by decide +kernel, by decide⟩
set_option maxRecDepth 100000 in
theorem kMX7 : Cond.instanceMethod yX7_init ∈ lw_g := mg1 (i := 16) (by decide +kernel) (by decide +kernel)
set_option maxRecDepth 100000 in
theorem kIX8 : Cond.code yX8_init cX8_init 2 none ∈ lw_g ∧ Cond.initialized (yX8_init).cls ∈ lw_g ∧ ((yX8_init).cls ≠ "java/lang/invoke/MethodHandle" ∧ (yX8_init).cls ≠ "java/lang/invoke/VarHandle" ∧ (parseMethodDescriptor (yX8_init).desc).map (fun d => d.parameters.length) = some 0) ∧ 2 ≤ 41 := ⟨mg3 (i := 33) (by decide +kernel) (by decide +kernel), mg1 (i := 5) (by decide +kernel) (by decide +kernel), by decide +kernel, by decide⟩
set_option maxRecDepth 100000 in
theorem kMX8 : Cond.instanceMethod yX8_init ∈ lw_g := mg3 (i := 32) (by decide +kernel) (by decide +kernel)
set_option maxRecDepth 100000 in
theorem kLX7 : Cond.methodLink "ShuffleDeskLaw" 9 yX7_init ∈ lw_g := mg1 (i := 15) (by decide +kernel) (by decide +kernel)
set_option maxRecDepth 100000 in
theorem kLX8 : Cond.methodLink "ShuffleDeskLaw" 12 yX8_init ∈ lw_g := mg3 (i := 31) (by decide +kernel) (by decide +kernel)
