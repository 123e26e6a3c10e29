/-! WHAT A PROGRAM DECIDES OF EACH METHOD. By gen.py. -/
set_option maxRecDepth 100000 in
theorem ms_x0 : ms_cw 0 ∈ ms_ws := List.mem_filter.mpr ⟨List.mem_of_getElem? (i := 77) rfl, rfl⟩
theorem ms_o0 : ms_okm 0 = true := by decide +kernel
set_option maxRecDepth 100000 in
theorem ms_x1 : ms_cw 1 ∈ ms_ws := List.mem_filter.mpr ⟨List.mem_of_getElem? (i := 306) rfl, rfl⟩
theorem ms_o1 : ms_okm 1 = true := by decide +kernel
set_option maxRecDepth 100000 in
theorem ms_x2 : ms_cw 2 ∈ ms_ws := List.mem_filter.mpr ⟨List.mem_of_getElem? (i := 391) rfl, rfl⟩
theorem ms_o2 : ms_okm 2 = true := by decide +kernel
set_option maxRecDepth 100000 in
theorem ms_x3 : ms_cw 3 ∈ ms_ws := List.mem_filter.mpr ⟨List.mem_of_getElem? (i := 425) rfl, rfl⟩
theorem ms_o3 : ms_okm 3 = true := by decide +kernel
set_option maxRecDepth 100000 in
theorem ms_x4 : ms_cw 4 ∈ ms_ws := List.mem_filter.mpr ⟨List.mem_of_getElem? (i := 432) rfl, rfl⟩
theorem ms_o4 : ms_okm 4 = true := by decide +kernel
set_option maxRecDepth 100000 in
theorem ms_x5 : ms_cw 5 ∈ ms_ws := List.mem_filter.mpr ⟨List.mem_of_getElem? (i := 599) rfl, rfl⟩
theorem ms_o5 : ms_okm 5 = true := by decide +kernel
set_option maxRecDepth 100000 in
theorem ms_x6 : ms_cw 6 ∈ ms_ws := List.mem_filter.mpr ⟨List.mem_of_getElem? (i := 666) rfl, rfl⟩
theorem ms_o6 : ms_okm 6 = true := by decide +kernel
set_option maxRecDepth 100000 in
theorem ms_x7 : ms_cw 7 ∈ ms_ws := List.mem_filter.mpr ⟨List.mem_of_getElem? (i := 707) rfl, rfl⟩
theorem ms_o7 : ms_okm 7 = true := by decide +kernel
set_option maxRecDepth 100000 in
theorem ms_x8 : ms_cw 8 ∈ ms_ws := List.mem_filter.mpr ⟨List.mem_of_getElem? (i := 714) rfl, rfl⟩
theorem ms_o8 : ms_okm 8 = true := by decide +kernel
set_option maxRecDepth 100000 in
theorem ms_x9 : ms_cw 9 ∈ ms_ws := List.mem_filter.mpr ⟨List.mem_of_getElem? (i := 722) rfl, rfl⟩
theorem ms_o9 : ms_okm 9 = true := by decide +kernel
set_option maxRecDepth 100000 in
theorem ms_x10 : ms_cw 10 ∈ ms_ws := List.mem_filter.mpr ⟨List.mem_of_getElem? (i := 733) rfl, rfl⟩
theorem ms_o10 : ms_okm 10 = true := by decide +kernel
set_option maxRecDepth 100000 in
theorem ms_x11 : ms_cw 11 ∈ ms_ws := List.mem_filter.mpr ⟨List.mem_of_getElem? (i := 740) rfl, rfl⟩
theorem ms_o11 : ms_okm 11 = true := by decide +kernel
set_option maxRecDepth 100000 in
theorem ms_x12 : ms_cw 12 ∈ ms_ws := List.mem_filter.mpr ⟨List.mem_of_getElem? (i := 294) rfl, rfl⟩
theorem ms_o12 : ms_okm 12 = true := by decide +kernel
set_option maxRecDepth 100000 in
theorem ms_x13 : ms_cw 13 ∈ ms_ws := List.mem_filter.mpr ⟨List.mem_of_getElem? (i := 751) rfl, rfl⟩
theorem ms_o13 : ms_okm 13 = true := by decide +kernel
set_option maxRecDepth 100000 in
theorem ms_x14 : ms_cw 14 ∈ ms_ws := List.mem_filter.mpr ⟨List.mem_of_getElem? (i := 436) rfl, rfl⟩
theorem ms_o14 : ms_okm 14 = true := by decide +kernel
set_option maxRecDepth 100000 in
theorem ms_x15 : ms_cw 15 ∈ ms_ws := List.mem_filter.mpr ⟨List.mem_of_getElem? (i := 511) rfl, rfl⟩
theorem ms_o15 : ms_okm 15 = true := by decide +kernel
set_option maxRecDepth 100000 in
theorem ms_x16 : ms_cw 16 ∈ ms_ws := List.mem_filter.mpr ⟨List.mem_of_getElem? (i := 757) rfl, rfl⟩
theorem ms_o16 : ms_okm 16 = true := by decide +kernel
set_option maxRecDepth 100000 in
theorem ms_x17 : ms_cw 17 ∈ ms_ws := List.mem_filter.mpr ⟨List.mem_of_getElem? (i := 865) rfl, rfl⟩
theorem ms_o17 : ms_okm 17 = true := by decide +kernel
set_option maxRecDepth 100000 in
theorem ms_x18 : ms_cw 18 ∈ ms_ws := List.mem_filter.mpr ⟨List.mem_of_getElem? (i := 1046) rfl, rfl⟩
theorem ms_o18 : ms_okm 18 = true := by decide +kernel
set_option maxRecDepth 100000 in
theorem ms_x19 : ms_cw 19 ∈ ms_ws := List.mem_filter.mpr ⟨List.mem_of_getElem? (i := 872) rfl, rfl⟩
theorem ms_o19 : ms_okm 19 = true := by decide +kernel
set_option maxRecDepth 100000 in
theorem ms_x20 : ms_cw 20 ∈ ms_ws := List.mem_filter.mpr ⟨List.mem_of_getElem? (i := 917) rfl, rfl⟩
theorem ms_o20 : ms_okm 20 = true := by decide +kernel
set_option maxRecDepth 100000 in
theorem ms_x21 : ms_cw 21 ∈ ms_ws := List.mem_filter.mpr ⟨List.mem_of_getElem? (i := 914) rfl, rfl⟩
theorem ms_o21 : ms_okm 21 = true := by decide +kernel
set_option maxRecDepth 100000 in
theorem ms_x22 : ms_cw 22 ∈ ms_ws := List.mem_filter.mpr ⟨List.mem_of_getElem? (i := 911) rfl, rfl⟩
theorem ms_o22 : ms_okm 22 = true := by decide +kernel
set_option maxRecDepth 100000 in
theorem ms_x23 : ms_cw 23 ∈ ms_ws := List.mem_filter.mpr ⟨List.mem_of_getElem? (i := 888) rfl, rfl⟩
theorem ms_o23 : ms_okm 23 = true := by decide +kernel
set_option maxRecDepth 100000 in
theorem ms_x24 : ms_cw 24 ∈ ms_ws := List.mem_filter.mpr ⟨List.mem_of_getElem? (i := 955) rfl, rfl⟩
theorem ms_o24 : ms_okm 24 = true := by decide +kernel
set_option maxRecDepth 100000 in
theorem ms_x25 : ms_cw 25 ∈ ms_ws := List.mem_filter.mpr ⟨List.mem_of_getElem? (i := 952) rfl, rfl⟩
theorem ms_o25 : ms_okm 25 = true := by decide +kernel
set_option maxRecDepth 100000 in
theorem ms_x26 : ms_cw 26 ∈ ms_ws := List.mem_filter.mpr ⟨List.mem_of_getElem? (i := 944) rfl, rfl⟩
theorem ms_o26 : ms_okm 26 = true := by decide +kernel
set_option maxRecDepth 100000 in
theorem ms_x27 : ms_cw 27 ∈ ms_ws := List.mem_filter.mpr ⟨List.mem_of_getElem? (i := 940) rfl, rfl⟩
theorem ms_o27 : ms_okm 27 = true := by decide +kernel
set_option maxRecDepth 100000 in
theorem ms_x28 : ms_cw 28 ∈ ms_ws := List.mem_filter.mpr ⟨List.mem_of_getElem? (i := 964) rfl, rfl⟩
theorem ms_o28 : ms_okm 28 = true := by decide +kernel
set_option maxRecDepth 100000 in
theorem ms_x29 : ms_cw 29 ∈ ms_ws := List.mem_filter.mpr ⟨List.mem_of_getElem? (i := 968) rfl, rfl⟩
theorem ms_o29 : ms_okm 29 = true := by decide +kernel
set_option maxRecDepth 100000 in
theorem ms_x30 : ms_cw 30 ∈ ms_ws := List.mem_filter.mpr ⟨List.mem_of_getElem? (i := 973) rfl, rfl⟩
theorem ms_o30 : ms_okm 30 = true := by decide +kernel
set_option maxRecDepth 100000 in
theorem ms_x31 : ms_cw 31 ∈ ms_ws := List.mem_filter.mpr ⟨List.mem_of_getElem? (i := 959) rfl, rfl⟩
theorem ms_o31 : ms_okm 31 = true := by decide +kernel
set_option maxRecDepth 100000 in
theorem ms_x32 : ms_cw 32 ∈ ms_ws := List.mem_filter.mpr ⟨List.mem_of_getElem? (i := 978) rfl, rfl⟩
theorem ms_o32 : ms_okm 32 = true := by decide +kernel
set_option maxRecDepth 100000 in
theorem ms_x33 : ms_cw 33 ∈ ms_ws := List.mem_filter.mpr ⟨List.mem_of_getElem? (i := 932) rfl, rfl⟩
theorem ms_o33 : ms_okm 33 = true := by decide +kernel
set_option maxRecDepth 100000 in
theorem ms_x34 : ms_cw 34 ∈ ms_ws := List.mem_filter.mpr ⟨List.mem_of_getElem? (i := 936) rfl, rfl⟩
theorem ms_o34 : ms_okm 34 = true := by decide +kernel
set_option maxRecDepth 100000 in
theorem ms_x35 : ms_cw 35 ∈ ms_ws := List.mem_filter.mpr ⟨List.mem_of_getElem? (i := 869) rfl, rfl⟩
theorem ms_o35 : ms_okm 35 = true := by decide +kernel
set_option maxRecDepth 100000 in
theorem ms_x36 : ms_cw 36 ∈ ms_ws := List.mem_filter.mpr ⟨List.mem_of_getElem? (i := 881) rfl, rfl⟩
theorem ms_o36 : ms_okm 36 = true := by decide +kernel
set_option maxRecDepth 100000 in
theorem ms_x37 : ms_cw 37 ∈ ms_ws := List.mem_filter.mpr ⟨List.mem_of_getElem? (i := 885) rfl, rfl⟩
theorem ms_o37 : ms_okm 37 = true := by decide +kernel
set_option maxRecDepth 100000 in
theorem ms_x38 : ms_cw 38 ∈ ms_ws := List.mem_filter.mpr ⟨List.mem_of_getElem? (i := 877) rfl, rfl⟩
theorem ms_o38 : ms_okm 38 = true := by decide +kernel
set_option maxRecDepth 100000 in
theorem ms_x39 : ms_cw 39 ∈ ms_ws := List.mem_filter.mpr ⟨List.mem_of_getElem? (i := 895) rfl, rfl⟩
theorem ms_o39 : ms_okm 39 = true := by decide +kernel
set_option maxRecDepth 100000 in
theorem ms_x40 : ms_cw 40 ∈ ms_ws := List.mem_filter.mpr ⟨List.mem_of_getElem? (i := 907) rfl, rfl⟩
theorem ms_o40 : ms_okm 40 = true := by decide +kernel
set_option maxRecDepth 100000 in
theorem ms_x41 : ms_cw 41 ∈ ms_ws := List.mem_filter.mpr ⟨List.mem_of_getElem? (i := 1009) rfl, rfl⟩
theorem ms_o41 : ms_okm 41 = true := by decide +kernel
set_option maxRecDepth 100000 in
theorem ms_x42 : ms_cw 42 ∈ ms_ws := List.mem_filter.mpr ⟨List.mem_of_getElem? (i := 928) rfl, rfl⟩
theorem ms_o42 : ms_okm 42 = true := by decide +kernel
set_option maxRecDepth 100000 in
theorem ms_x43 : ms_cw 43 ∈ ms_ws := List.mem_filter.mpr ⟨List.mem_of_getElem? (i := 1001) rfl, rfl⟩
theorem ms_o43 : ms_okm 43 = true := by decide +kernel
set_option maxRecDepth 100000 in
theorem ms_x44 : ms_cw 44 ∈ ms_ws := List.mem_filter.mpr ⟨List.mem_of_getElem? (i := 921) rfl, rfl⟩
theorem ms_o44 : ms_okm 44 = true := by decide +kernel
set_option maxRecDepth 100000 in
theorem ms_x45 : ms_cw 45 ∈ ms_ws := List.mem_filter.mpr ⟨List.mem_of_getElem? (i := 903) rfl, rfl⟩
theorem ms_o45 : ms_okm 45 = true := by decide +kernel
set_option maxRecDepth 100000 in
theorem ms_x46 : ms_cw 46 ∈ ms_ws := List.mem_filter.mpr ⟨List.mem_of_getElem? (i := 925) rfl, rfl⟩
theorem ms_o46 : ms_okm 46 = true := by decide +kernel
set_option maxRecDepth 100000 in
theorem ms_x47 : ms_cw 47 ∈ ms_ws := List.mem_filter.mpr ⟨List.mem_of_getElem? (i := 982) rfl, rfl⟩
theorem ms_o47 : ms_okm 47 = true := by decide +kernel
set_option maxRecDepth 100000 in
theorem ms_x48 : ms_cw 48 ∈ ms_ws := List.mem_filter.mpr ⟨List.mem_of_getElem? (i := 986) rfl, rfl⟩
theorem ms_o48 : ms_okm 48 = true := by decide +kernel
set_option maxRecDepth 100000 in
theorem ms_x49 : ms_cw 49 ∈ ms_ws := List.mem_filter.mpr ⟨List.mem_of_getElem? (i := 899) rfl, rfl⟩
theorem ms_o49 : ms_okm 49 = true := by decide +kernel
set_option maxRecDepth 100000 in
theorem ms_x50 : ms_cw 50 ∈ ms_ws := List.mem_filter.mpr ⟨List.mem_of_getElem? (i := 998) rfl, rfl⟩
theorem ms_o50 : ms_okm 50 = true := by decide +kernel
set_option maxRecDepth 100000 in
theorem ms_x51 : ms_cw 51 ∈ ms_ws := List.mem_filter.mpr ⟨List.mem_of_getElem? (i := 1005) rfl, rfl⟩
theorem ms_o51 : ms_okm 51 = true := by decide +kernel
set_option maxRecDepth 100000 in
theorem ms_x52 : ms_cw 52 ∈ ms_ws := List.mem_filter.mpr ⟨List.mem_of_getElem? (i := 994) rfl, rfl⟩
theorem ms_o52 : ms_okm 52 = true := by decide +kernel
set_option maxRecDepth 100000 in
theorem ms_x53 : ms_cw 53 ∈ ms_ws := List.mem_filter.mpr ⟨List.mem_of_getElem? (i := 990) rfl, rfl⟩
theorem ms_o53 : ms_okm 53 = true := by decide +kernel
set_option maxRecDepth 100000 in
theorem ms_x54 : ms_cw 54 ∈ ms_ws := List.mem_filter.mpr ⟨List.mem_of_getElem? (i := 1013) rfl, rfl⟩
theorem ms_o54 : ms_okm 54 = true := by decide +kernel
set_option maxRecDepth 100000 in
theorem ms_x55 : ms_cw 55 ∈ ms_ws := List.mem_filter.mpr ⟨List.mem_of_getElem? (i := 1017) rfl, rfl⟩
theorem ms_o55 : ms_okm 55 = true := by decide +kernel
set_option maxRecDepth 100000 in
theorem ms_x56 : ms_cw 56 ∈ ms_ws := List.mem_filter.mpr ⟨List.mem_of_getElem? (i := 1021) rfl, rfl⟩
theorem ms_o56 : ms_okm 56 = true := by decide +kernel
set_option maxRecDepth 100000 in
theorem ms_x57 : ms_cw 57 ∈ ms_ws := List.mem_filter.mpr ⟨List.mem_of_getElem? (i := 1038) rfl, rfl⟩
theorem ms_o57 : ms_okm 57 = true := by decide +kernel
set_option maxRecDepth 100000 in
theorem ms_x58 : ms_cw 58 ∈ ms_ws := List.mem_filter.mpr ⟨List.mem_of_getElem? (i := 1033) rfl, rfl⟩
theorem ms_o58 : ms_okm 58 = true := by decide +kernel
set_option maxRecDepth 100000 in
theorem ms_x59 : ms_cw 59 ∈ ms_ws := List.mem_filter.mpr ⟨List.mem_of_getElem? (i := 1029) rfl, rfl⟩
theorem ms_o59 : ms_okm 59 = true := by decide +kernel
set_option maxRecDepth 100000 in
theorem ms_x60 : ms_cw 60 ∈ ms_ws := List.mem_filter.mpr ⟨List.mem_of_getElem? (i := 1025) rfl, rfl⟩
theorem ms_o60 : ms_okm 60 = true := by decide +kernel
set_option maxRecDepth 100000 in
theorem ms_x61 : ms_cw 61 ∈ ms_ws := List.mem_filter.mpr ⟨List.mem_of_getElem? (i := 1042) rfl, rfl⟩
theorem ms_o61 : ms_okm 61 = true := by decide +kernel
set_option maxRecDepth 100000 in
theorem ms_x62 : ms_cw 62 ∈ ms_ws := List.mem_filter.mpr ⟨List.mem_of_getElem? (i := 1050) rfl, rfl⟩
theorem ms_o62 : ms_okm 62 = true := by decide +kernel
set_option maxRecDepth 100000 in
theorem ms_x63 : ms_cw 63 ∈ ms_ws := List.mem_filter.mpr ⟨List.mem_of_getElem? (i := 1054) rfl, rfl⟩
theorem ms_o63 : ms_okm 63 = true := by decide +kernel
set_option maxRecDepth 100000 in
theorem ms_x64 : ms_cw 64 ∈ ms_ws := List.mem_filter.mpr ⟨List.mem_of_getElem? (i := 1058) rfl, rfl⟩
theorem ms_o64 : ms_okm 64 = true := by decide +kernel
set_option maxRecDepth 100000 in
theorem ms_x65 : ms_cw 65 ∈ ms_ws := List.mem_filter.mpr ⟨List.mem_of_getElem? (i := 91) rfl, rfl⟩
theorem ms_o65 : ms_okm 65 = true := by decide +kernel
set_option maxRecDepth 100000 in
theorem ms_x66 : ms_cw 66 ∈ ms_ws := List.mem_filter.mpr ⟨List.mem_of_getElem? (i := 477) rfl, rfl⟩
theorem ms_o66 : ms_okm 66 = true := by decide +kernel
set_option maxRecDepth 100000 in
theorem ms_x67 : ms_cw 67 ∈ ms_ws := List.mem_filter.mpr ⟨List.mem_of_getElem? (i := 489) rfl, rfl⟩
theorem ms_o67 : ms_okm 67 = true := by decide +kernel
set_option maxRecDepth 100000 in
theorem ms_x68 : ms_cw 68 ∈ ms_ws := List.mem_filter.mpr ⟨List.mem_of_getElem? (i := 85) rfl, rfl⟩
theorem ms_o68 : ms_okm 68 = true := by decide +kernel
set_option maxRecDepth 100000 in
theorem ms_x69 : ms_cw 69 ∈ ms_ws := List.mem_filter.mpr ⟨List.mem_of_getElem? (i := 473) rfl, rfl⟩
theorem ms_o69 : ms_okm 69 = true := by decide +kernel
set_option maxRecDepth 100000 in
theorem ms_x70 : ms_cw 70 ∈ ms_ws := List.mem_filter.mpr ⟨List.mem_of_getElem? (i := 580) rfl, rfl⟩
theorem ms_o70 : ms_okm 70 = true := by decide +kernel
set_option maxRecDepth 100000 in
theorem ms_x71 : ms_cw 71 ∈ ms_ws := List.mem_filter.mpr ⟨List.mem_of_getElem? (i := 520) rfl, rfl⟩
theorem ms_o71 : ms_okm 71 = true := by decide +kernel
set_option maxRecDepth 100000 in
theorem ms_x72 : ms_cw 72 ∈ ms_ws := List.mem_filter.mpr ⟨List.mem_of_getElem? (i := 592) rfl, rfl⟩
theorem ms_o72 : ms_okm 72 = true := by decide +kernel
set_option maxRecDepth 100000 in
theorem ms_x73 : ms_cw 73 ∈ ms_ws := List.mem_filter.mpr ⟨List.mem_of_getElem? (i := 524) rfl, rfl⟩
theorem ms_o73 : ms_okm 73 = true := by decide +kernel
set_option maxRecDepth 100000 in
theorem ms_x74 : ms_cw 74 ∈ ms_ws := List.mem_filter.mpr ⟨List.mem_of_getElem? (i := 136) rfl, rfl⟩
theorem ms_o74 : ms_okm 74 = true := by decide +kernel
set_option maxRecDepth 100000 in
theorem ms_x75 : ms_cw 75 ∈ ms_ws := List.mem_filter.mpr ⟨List.mem_of_getElem? (i := 372) rfl, rfl⟩
theorem ms_o75 : ms_okm 75 = true := by decide +kernel
set_option maxRecDepth 100000 in
theorem ms_x76 : ms_cw 76 ∈ ms_ws := List.mem_filter.mpr ⟨List.mem_of_getElem? (i := 670) rfl, rfl⟩
theorem ms_o76 : ms_okm 76 = true := by decide +kernel
set_option maxRecDepth 100000 in
theorem ms_x77 : ms_cw 77 ∈ ms_ws := List.mem_filter.mpr ⟨List.mem_of_getElem? (i := 678) rfl, rfl⟩
theorem ms_o77 : ms_okm 77 = true := by decide +kernel
set_option maxRecDepth 100000 in
theorem ms_x78 : ms_cw 78 ∈ ms_ws := List.mem_filter.mpr ⟨List.mem_of_getElem? (i := 674) rfl, rfl⟩
theorem ms_o78 : ms_okm 78 = true := by decide +kernel
set_option maxRecDepth 100000 in
theorem ms_x79 : ms_cw 79 ∈ ms_ws := List.mem_filter.mpr ⟨List.mem_of_getElem? (i := 444) rfl, rfl⟩
theorem ms_o79 : ms_okm 79 = true := by decide +kernel
set_option maxRecDepth 100000 in
theorem ms_x80 : ms_cw 80 ∈ ms_ws := List.mem_filter.mpr ⟨List.mem_of_getElem? (i := 622) rfl, rfl⟩
theorem ms_o80 : ms_okm 80 = true := by decide +kernel
set_option maxRecDepth 100000 in
theorem ms_x81 : ms_cw 81 ∈ ms_ws := List.mem_filter.mpr ⟨List.mem_of_getElem? (i := 448) rfl, rfl⟩
theorem ms_o81 : ms_okm 81 = true := by decide +kernel
set_option maxRecDepth 100000 in
theorem ms_x82 : ms_cw 82 ∈ ms_ws := List.mem_filter.mpr ⟨List.mem_of_getElem? (i := 145) rfl, rfl⟩
theorem ms_o82 : ms_okm 82 = true := by decide +kernel
set_option maxRecDepth 100000 in
theorem ms_x83 : ms_cw 83 ∈ ms_ws := List.mem_filter.mpr ⟨List.mem_of_getElem? (i := 726) rfl, rfl⟩
theorem ms_o83 : ms_okm 83 = true := by decide +kernel
set_option maxRecDepth 100000 in
theorem ms_x84 : ms_cw 84 ∈ ms_ws := List.mem_filter.mpr ⟨List.mem_of_getElem? (i := 413) rfl, rfl⟩
theorem ms_o84 : ms_okm 84 = true := by decide +kernel
set_option maxRecDepth 100000 in
theorem ms_x85 : ms_cw 85 ∈ ms_ws := List.mem_filter.mpr ⟨List.mem_of_getElem? (i := 498) rfl, rfl⟩
theorem ms_o85 : ms_okm 85 = true := by decide +kernel
set_option maxRecDepth 100000 in
theorem ms_x86 : ms_cw 86 ∈ ms_ws := List.mem_filter.mpr ⟨List.mem_of_getElem? (i := 465) rfl, rfl⟩
theorem ms_o86 : ms_okm 86 = true := by decide +kernel
set_option maxRecDepth 100000 in
theorem ms_x87 : ms_cw 87 ∈ ms_ws := List.mem_filter.mpr ⟨List.mem_of_getElem? (i := 418) rfl, rfl⟩
theorem ms_o87 : ms_okm 87 = true := by decide +kernel
set_option maxRecDepth 100000 in
theorem ms_x88 : ms_cw 88 ∈ ms_ws := List.mem_filter.mpr ⟨List.mem_of_getElem? (i := 502) rfl, rfl⟩
theorem ms_o88 : ms_okm 88 = true := by decide +kernel
set_option maxRecDepth 100000 in
theorem ms_x89 : ms_cw 89 ∈ ms_ws := List.mem_filter.mpr ⟨List.mem_of_getElem? (i := 646) rfl, rfl⟩
theorem ms_o89 : ms_okm 89 = true := by decide +kernel
set_option maxRecDepth 100000 in
theorem ms_x90 : ms_cw 90 ∈ ms_ws := List.mem_filter.mpr ⟨List.mem_of_getElem? (i := 459) rfl, rfl⟩
theorem ms_o90 : ms_okm 90 = true := by decide +kernel
set_option maxRecDepth 100000 in
theorem ms_x91 : ms_cw 91 ∈ ms_ws := List.mem_filter.mpr ⟨List.mem_of_getElem? (i := 456) rfl, rfl⟩
theorem ms_o91 : ms_okm 91 = true := by decide +kernel
set_option maxRecDepth 100000 in
theorem ms_x92 : ms_cw 92 ∈ ms_ws := List.mem_filter.mpr ⟨List.mem_of_getElem? (i := 233) rfl, rfl⟩
theorem ms_o92 : ms_okm 92 = true := by decide +kernel
set_option maxRecDepth 100000 in
theorem ms_x93 : ms_cw 93 ∈ ms_ws := List.mem_filter.mpr ⟨List.mem_of_getElem? (i := 383) rfl, rfl⟩
theorem ms_o93 : ms_okm 93 = true := by decide +kernel
set_option maxRecDepth 100000 in
theorem ms_x94 : ms_cw 94 ∈ ms_ws := List.mem_filter.mpr ⟨List.mem_of_getElem? (i := 744) rfl, rfl⟩
theorem ms_o94 : ms_okm 94 = true := by decide +kernel
set_option maxRecDepth 100000 in
theorem ms_x95 : ms_cw 95 ∈ ms_ws := List.mem_filter.mpr ⟨List.mem_of_getElem? (i := 683) rfl, rfl⟩
theorem ms_o95 : ms_okm 95 = true := by decide +kernel
set_option maxRecDepth 100000 in
theorem ms_x96 : ms_cw 96 ∈ ms_ws := List.mem_filter.mpr ⟨List.mem_of_getElem? (i := 687) rfl, rfl⟩
theorem ms_o96 : ms_okm 96 = true := by decide +kernel
set_option maxRecDepth 100000 in
theorem ms_x97 : ms_cw 97 ∈ ms_ws := List.mem_filter.mpr ⟨List.mem_of_getElem? (i := 440) rfl, rfl⟩
theorem ms_o97 : ms_okm 97 = true := by decide +kernel
set_option maxRecDepth 100000 in
theorem ms_x98 : ms_cw 98 ∈ ms_ws := List.mem_filter.mpr ⟨List.mem_of_getElem? (i := 452) rfl, rfl⟩
theorem ms_o98 : ms_okm 98 = true := by decide +kernel
set_option maxRecDepth 100000 in
theorem ms_x99 : ms_cw 99 ∈ ms_ws := List.mem_filter.mpr ⟨List.mem_of_getElem? (i := 469) rfl, rfl⟩
theorem ms_o99 : ms_okm 99 = true := by decide +kernel
set_option maxRecDepth 100000 in
theorem ms_x100 : ms_cw 100 ∈ ms_ws := List.mem_filter.mpr ⟨List.mem_of_getElem? (i := 507) rfl, rfl⟩
theorem ms_o100 : ms_okm 100 = true := by decide +kernel
set_option maxRecDepth 100000 in
theorem ms_x101 : ms_cw 101 ∈ ms_ws := List.mem_filter.mpr ⟨List.mem_of_getElem? (i := 575) rfl, rfl⟩
theorem ms_o101 : ms_okm 101 = true := by decide +kernel
set_option maxRecDepth 100000 in
theorem ms_x102 : ms_cw 102 ∈ ms_ws := List.mem_filter.mpr ⟨List.mem_of_getElem? (i := 584) rfl, rfl⟩
theorem ms_o102 : ms_okm 102 = true := by decide +kernel
set_option maxRecDepth 100000 in
theorem ms_x103 : ms_cw 103 ∈ ms_ws := List.mem_filter.mpr ⟨List.mem_of_getElem? (i := 588) rfl, rfl⟩
theorem ms_o103 : ms_okm 103 = true := by decide +kernel
set_option maxRecDepth 100000 in
theorem ms_x104 : ms_cw 104 ∈ ms_ws := List.mem_filter.mpr ⟨List.mem_of_getElem? (i := 515) rfl, rfl⟩
theorem ms_o104 : ms_okm 104 = true := by decide +kernel
set_option maxRecDepth 100000 in
theorem ms_x105 : ms_cw 105 ∈ ms_ws := List.mem_filter.mpr ⟨List.mem_of_getElem? (i := 105) rfl, rfl⟩
theorem ms_o105 : ms_okm 105 = true := by decide +kernel
set_option maxRecDepth 100000 in
theorem ms_x106 : ms_cw 106 ∈ ms_ws := List.mem_filter.mpr ⟨List.mem_of_getElem? (i := 528) rfl, rfl⟩
theorem ms_o106 : ms_okm 106 = true := by decide +kernel
set_option maxRecDepth 100000 in
theorem ms_x107 : ms_cw 107 ∈ ms_ws := List.mem_filter.mpr ⟨List.mem_of_getElem? (i := 543) rfl, rfl⟩
theorem ms_o107 : ms_okm 107 = true := by decide +kernel
set_option maxRecDepth 100000 in
theorem ms_x108 : ms_cw 108 ∈ ms_ws := List.mem_filter.mpr ⟨List.mem_of_getElem? (i := 536) rfl, rfl⟩
theorem ms_o108 : ms_okm 108 = true := by decide +kernel
set_option maxRecDepth 100000 in
theorem ms_x109 : ms_cw 109 ∈ ms_ws := List.mem_filter.mpr ⟨List.mem_of_getElem? (i := 548) rfl, rfl⟩
theorem ms_o109 : ms_okm 109 = true := by decide +kernel
set_option maxRecDepth 100000 in
theorem ms_x110 : ms_cw 110 ∈ ms_ws := List.mem_filter.mpr ⟨List.mem_of_getElem? (i := 553) rfl, rfl⟩
theorem ms_o110 : ms_okm 110 = true := by decide +kernel
set_option maxRecDepth 100000 in
theorem ms_x111 : ms_cw 111 ∈ ms_ws := List.mem_filter.mpr ⟨List.mem_of_getElem? (i := 557) rfl, rfl⟩
theorem ms_o111 : ms_okm 111 = true := by decide +kernel
set_option maxRecDepth 100000 in
theorem ms_x112 : ms_cw 112 ∈ ms_ws := List.mem_filter.mpr ⟨List.mem_of_getElem? (i := 561) rfl, rfl⟩
theorem ms_o112 : ms_okm 112 = true := by decide +kernel
set_option maxRecDepth 100000 in
theorem ms_x113 : ms_cw 113 ∈ ms_ws := List.mem_filter.mpr ⟨List.mem_of_getElem? (i := 565) rfl, rfl⟩
theorem ms_o113 : ms_okm 113 = true := by decide +kernel
set_option maxRecDepth 100000 in
theorem ms_x114 : ms_cw 114 ∈ ms_ws := List.mem_filter.mpr ⟨List.mem_of_getElem? (i := 570) rfl, rfl⟩
theorem ms_o114 : ms_okm 114 = true := by decide +kernel
set_option maxRecDepth 100000 in
theorem ms_x115 : ms_cw 115 ∈ ms_ws := List.mem_filter.mpr ⟨List.mem_of_getElem? (i := 186) rfl, rfl⟩
theorem ms_o115 : ms_okm 115 = true := by decide +kernel
set_option maxRecDepth 100000 in
theorem ms_x116 : ms_cw 116 ∈ ms_ws := List.mem_filter.mpr ⟨List.mem_of_getElem? (i := 376) rfl, rfl⟩
theorem ms_o116 : ms_okm 116 = true := by decide +kernel
set_option maxRecDepth 100000 in
theorem ms_x117 : ms_cw 117 ∈ ms_ws := List.mem_filter.mpr ⟨List.mem_of_getElem? (i := 395) rfl, rfl⟩
theorem ms_o117 : ms_okm 117 = true := by decide +kernel
set_option maxRecDepth 100000 in
theorem ms_x118 : ms_cw 118 ∈ ms_ws := List.mem_filter.mpr ⟨List.mem_of_getElem? (i := 298) rfl, rfl⟩
theorem ms_o118 : ms_okm 118 = true := by decide +kernel
set_option maxRecDepth 100000 in
theorem ms_x119 : ms_cw 119 ∈ ms_ws := List.mem_filter.mpr ⟨List.mem_of_getElem? (i := 692) rfl, rfl⟩
theorem ms_o119 : ms_okm 119 = true := by decide +kernel
set_option maxRecDepth 100000 in
theorem ms_x120 : ms_cw 120 ∈ ms_ws := List.mem_filter.mpr ⟨List.mem_of_getElem? (i := 696) rfl, rfl⟩
theorem ms_o120 : ms_okm 120 = true := by decide +kernel
set_option maxRecDepth 100000 in
theorem ms_x121 : ms_cw 121 ∈ ms_ws := List.mem_filter.mpr ⟨List.mem_of_getElem? (i := 700) rfl, rfl⟩
theorem ms_o121 : ms_okm 121 = true := by decide +kernel
set_option maxRecDepth 100000 in
theorem ms_x122 : ms_cw 122 ∈ ms_ws := List.mem_filter.mpr ⟨List.mem_of_getElem? (i := 603) rfl, rfl⟩
theorem ms_o122 : ms_okm 122 = true := by decide +kernel
set_option maxRecDepth 100000 in
theorem ms_x123 : ms_cw 123 ∈ ms_ws := List.mem_filter.mpr ⟨List.mem_of_getElem? (i := 613) rfl, rfl⟩
theorem ms_o123 : ms_okm 123 = true := by decide +kernel
set_option maxRecDepth 100000 in
theorem ms_x124 : ms_cw 124 ∈ ms_ws := List.mem_filter.mpr ⟨List.mem_of_getElem? (i := 617) rfl, rfl⟩
theorem ms_o124 : ms_okm 124 = true := by decide +kernel
set_option maxRecDepth 100000 in
theorem ms_x125 : ms_cw 125 ∈ ms_ws := List.mem_filter.mpr ⟨List.mem_of_getElem? (i := 626) rfl, rfl⟩
theorem ms_o125 : ms_okm 125 = true := by decide +kernel
set_option maxRecDepth 100000 in
theorem ms_x126 : ms_cw 126 ∈ ms_ws := List.mem_filter.mpr ⟨List.mem_of_getElem? (i := 631) rfl, rfl⟩
theorem ms_o126 : ms_okm 126 = true := by decide +kernel
set_option maxRecDepth 100000 in
theorem ms_x127 : ms_cw 127 ∈ ms_ws := List.mem_filter.mpr ⟨List.mem_of_getElem? (i := 635) rfl, rfl⟩
theorem ms_o127 : ms_okm 127 = true := by decide +kernel
set_option maxRecDepth 100000 in
theorem ms_x128 : ms_cw 128 ∈ ms_ws := List.mem_filter.mpr ⟨List.mem_of_getElem? (i := 639) rfl, rfl⟩
theorem ms_o128 : ms_okm 128 = true := by decide +kernel
set_option maxRecDepth 100000 in
theorem ms_x129 : ms_cw 129 ∈ ms_ws := List.mem_filter.mpr ⟨List.mem_of_getElem? (i := 652) rfl, rfl⟩
theorem ms_o129 : ms_okm 129 = true := by decide +kernel
set_option maxRecDepth 100000 in
theorem ms_x130 : ms_cw 130 ∈ ms_ws := List.mem_filter.mpr ⟨List.mem_of_getElem? (i := 657) rfl, rfl⟩
theorem ms_o130 : ms_okm 130 = true := by decide +kernel
set_option maxRecDepth 100000 in
theorem ms_x131 : ms_cw 131 ∈ ms_ws := List.mem_filter.mpr ⟨List.mem_of_getElem? (i := 495) rfl, rfl⟩
theorem ms_o131 : ms_okm 131 = true := by decide +kernel
set_option maxRecDepth 100000 in
theorem ms_x132 : ms_cw 132 ∈ ms_ws := List.mem_filter.mpr ⟨List.mem_of_getElem? (i := 642) rfl, rfl⟩
theorem ms_o132 : ms_okm 132 = true := by decide +kernel
set_option maxRecDepth 100000 in
theorem ms_x133 : ms_cw 133 ∈ ms_ws := List.mem_filter.mpr ⟨List.mem_of_getElem? (i := 301) rfl, rfl⟩
theorem ms_o133 : ms_okm 133 = true := by decide +kernel
set_option maxRecDepth 100000 in
theorem ms_x134 : ms_cw 134 ∈ ms_ws := List.mem_filter.mpr ⟨List.mem_of_getElem? (i := 386) rfl, rfl⟩
theorem ms_o134 : ms_okm 134 = true := by decide +kernel
set_option maxRecDepth 100000 in
theorem ms_x135 : ms_cw 135 ∈ ms_ws := List.mem_filter.mpr ⟨List.mem_of_getElem? (i := 421) rfl, rfl⟩
theorem ms_o135 : ms_okm 135 = true := by decide +kernel
set_option maxRecDepth 100000 in
theorem ms_x136 : ms_cw 136 ∈ ms_ws := List.mem_filter.mpr ⟨List.mem_of_getElem? (i := 428) rfl, rfl⟩
theorem ms_o136 : ms_okm 136 = true := by decide +kernel
set_option maxRecDepth 100000 in
theorem ms_x137 : ms_cw 137 ∈ ms_ws := List.mem_filter.mpr ⟨List.mem_of_getElem? (i := 595) rfl, rfl⟩
theorem ms_o137 : ms_okm 137 = true := by decide +kernel
set_option maxRecDepth 100000 in
theorem ms_x138 : ms_cw 138 ∈ ms_ws := List.mem_filter.mpr ⟨List.mem_of_getElem? (i := 662) rfl, rfl⟩
theorem ms_o138 : ms_okm 138 = true := by decide +kernel
set_option maxRecDepth 100000 in
theorem ms_x139 : ms_cw 139 ∈ ms_ws := List.mem_filter.mpr ⟨List.mem_of_getElem? (i := 703) rfl, rfl⟩
theorem ms_o139 : ms_okm 139 = true := by decide +kernel
set_option maxRecDepth 100000 in
theorem ms_x140 : ms_cw 140 ∈ ms_ws := List.mem_filter.mpr ⟨List.mem_of_getElem? (i := 710) rfl, rfl⟩
theorem ms_o140 : ms_okm 140 = true := by decide +kernel
set_option maxRecDepth 100000 in
theorem ms_x141 : ms_cw 141 ∈ ms_ws := List.mem_filter.mpr ⟨List.mem_of_getElem? (i := 718) rfl, rfl⟩
theorem ms_o141 : ms_okm 141 = true := by decide +kernel
set_option maxRecDepth 100000 in
theorem ms_x142 : ms_cw 142 ∈ ms_ws := List.mem_filter.mpr ⟨List.mem_of_getElem? (i := 729) rfl, rfl⟩
theorem ms_o142 : ms_okm 142 = true := by decide +kernel
set_option maxRecDepth 100000 in
theorem ms_x143 : ms_cw 143 ∈ ms_ws := List.mem_filter.mpr ⟨List.mem_of_getElem? (i := 736) rfl, rfl⟩
theorem ms_o143 : ms_okm 143 = true := by decide +kernel
set_option maxRecDepth 100000 in
theorem ms_x144 : ms_cw 144 ∈ ms_ws := List.mem_filter.mpr ⟨List.mem_of_getElem? (i := 747) rfl, rfl⟩
theorem ms_o144 : ms_okm 144 = true := by decide +kernel
set_option maxRecDepth 100000 in
theorem ms_x146 : ms_cw 146 ∈ ms_ws := List.mem_filter.mpr ⟨List.mem_of_getElem? (i := 606) rfl, rfl⟩
theorem ms_o146 : ms_okm 146 = true := by decide +kernel
set_option maxRecDepth 100000 in
theorem ms_x147 : ms_cw 147 ∈ ms_ws := List.mem_filter.mpr ⟨List.mem_of_getElem? (i := 492) rfl, rfl⟩
theorem ms_o147 : ms_okm 147 = true := by decide +kernel
set_option maxRecDepth 100000 in
theorem ms_x148 : ms_cw 148 ∈ ms_ws := List.mem_filter.mpr ⟨List.mem_of_getElem? (i := 379) rfl, rfl⟩
theorem ms_o148 : ms_okm 148 = true := by decide +kernel
set_option maxRecDepth 100000 in
theorem ms_x149 : ms_cw 149 ∈ ms_ws := List.mem_filter.mpr ⟨List.mem_of_getElem? (i := 531) rfl, rfl⟩
theorem ms_o149 : ms_okm 149 = true := by decide +kernel
theorem ms_okms : ∀ k, k < 150 → k ≠ ms_law → ms_cw k ∈ ms_ws ∧ ms_okm k = true := by
  intro k h1 h2
  match k, h1, h2 with
  | 0, _, _ => exact ⟨ms_x0, ms_o0⟩
  | 1, _, _ => exact ⟨ms_x1, ms_o1⟩
  | 2, _, _ => exact ⟨ms_x2, ms_o2⟩
  | 3, _, _ => exact ⟨ms_x3, ms_o3⟩
  | 4, _, _ => exact ⟨ms_x4, ms_o4⟩
  | 5, _, _ => exact ⟨ms_x5, ms_o5⟩
  | 6, _, _ => exact ⟨ms_x6, ms_o6⟩
  | 7, _, _ => exact ⟨ms_x7, ms_o7⟩
  | 8, _, _ => exact ⟨ms_x8, ms_o8⟩
  | 9, _, _ => exact ⟨ms_x9, ms_o9⟩
  | 10, _, _ => exact ⟨ms_x10, ms_o10⟩
  | 11, _, _ => exact ⟨ms_x11, ms_o11⟩
  | 12, _, _ => exact ⟨ms_x12, ms_o12⟩
  | 13, _, _ => exact ⟨ms_x13, ms_o13⟩
  | 14, _, _ => exact ⟨ms_x14, ms_o14⟩
  | 15, _, _ => exact ⟨ms_x15, ms_o15⟩
  | 16, _, _ => exact ⟨ms_x16, ms_o16⟩
  | 17, _, _ => exact ⟨ms_x17, ms_o17⟩
  | 18, _, _ => exact ⟨ms_x18, ms_o18⟩
  | 19, _, _ => exact ⟨ms_x19, ms_o19⟩
  | 20, _, _ => exact ⟨ms_x20, ms_o20⟩
  | 21, _, _ => exact ⟨ms_x21, ms_o21⟩
  | 22, _, _ => exact ⟨ms_x22, ms_o22⟩
  | 23, _, _ => exact ⟨ms_x23, ms_o23⟩
  | 24, _, _ => exact ⟨ms_x24, ms_o24⟩
  | 25, _, _ => exact ⟨ms_x25, ms_o25⟩
  | 26, _, _ => exact ⟨ms_x26, ms_o26⟩
  | 27, _, _ => exact ⟨ms_x27, ms_o27⟩
  | 28, _, _ => exact ⟨ms_x28, ms_o28⟩
  | 29, _, _ => exact ⟨ms_x29, ms_o29⟩
  | 30, _, _ => exact ⟨ms_x30, ms_o30⟩
  | 31, _, _ => exact ⟨ms_x31, ms_o31⟩
  | 32, _, _ => exact ⟨ms_x32, ms_o32⟩
  | 33, _, _ => exact ⟨ms_x33, ms_o33⟩
  | 34, _, _ => exact ⟨ms_x34, ms_o34⟩
  | 35, _, _ => exact ⟨ms_x35, ms_o35⟩
  | 36, _, _ => exact ⟨ms_x36, ms_o36⟩
  | 37, _, _ => exact ⟨ms_x37, ms_o37⟩
  | 38, _, _ => exact ⟨ms_x38, ms_o38⟩
  | 39, _, _ => exact ⟨ms_x39, ms_o39⟩
  | 40, _, _ => exact ⟨ms_x40, ms_o40⟩
  | 41, _, _ => exact ⟨ms_x41, ms_o41⟩
  | 42, _, _ => exact ⟨ms_x42, ms_o42⟩
  | 43, _, _ => exact ⟨ms_x43, ms_o43⟩
  | 44, _, _ => exact ⟨ms_x44, ms_o44⟩
  | 45, _, _ => exact ⟨ms_x45, ms_o45⟩
  | 46, _, _ => exact ⟨ms_x46, ms_o46⟩
  | 47, _, _ => exact ⟨ms_x47, ms_o47⟩
  | 48, _, _ => exact ⟨ms_x48, ms_o48⟩
  | 49, _, _ => exact ⟨ms_x49, ms_o49⟩
  | 50, _, _ => exact ⟨ms_x50, ms_o50⟩
  | 51, _, _ => exact ⟨ms_x51, ms_o51⟩
  | 52, _, _ => exact ⟨ms_x52, ms_o52⟩
  | 53, _, _ => exact ⟨ms_x53, ms_o53⟩
  | 54, _, _ => exact ⟨ms_x54, ms_o54⟩
  | 55, _, _ => exact ⟨ms_x55, ms_o55⟩
  | 56, _, _ => exact ⟨ms_x56, ms_o56⟩
  | 57, _, _ => exact ⟨ms_x57, ms_o57⟩
  | 58, _, _ => exact ⟨ms_x58, ms_o58⟩
  | 59, _, _ => exact ⟨ms_x59, ms_o59⟩
  | 60, _, _ => exact ⟨ms_x60, ms_o60⟩
  | 61, _, _ => exact ⟨ms_x61, ms_o61⟩
  | 62, _, _ => exact ⟨ms_x62, ms_o62⟩
  | 63, _, _ => exact ⟨ms_x63, ms_o63⟩
  | 64, _, _ => exact ⟨ms_x64, ms_o64⟩
  | 65, _, _ => exact ⟨ms_x65, ms_o65⟩
  | 66, _, _ => exact ⟨ms_x66, ms_o66⟩
  | 67, _, _ => exact ⟨ms_x67, ms_o67⟩
  | 68, _, _ => exact ⟨ms_x68, ms_o68⟩
  | 69, _, _ => exact ⟨ms_x69, ms_o69⟩
  | 70, _, _ => exact ⟨ms_x70, ms_o70⟩
  | 71, _, _ => exact ⟨ms_x71, ms_o71⟩
  | 72, _, _ => exact ⟨ms_x72, ms_o72⟩
  | 73, _, _ => exact ⟨ms_x73, ms_o73⟩
  | 74, _, _ => exact ⟨ms_x74, ms_o74⟩
  | 75, _, _ => exact ⟨ms_x75, ms_o75⟩
  | 76, _, _ => exact ⟨ms_x76, ms_o76⟩
  | 77, _, _ => exact ⟨ms_x77, ms_o77⟩
  | 78, _, _ => exact ⟨ms_x78, ms_o78⟩
  | 79, _, _ => exact ⟨ms_x79, ms_o79⟩
  | 80, _, _ => exact ⟨ms_x80, ms_o80⟩
  | 81, _, _ => exact ⟨ms_x81, ms_o81⟩
  | 82, _, _ => exact ⟨ms_x82, ms_o82⟩
  | 83, _, _ => exact ⟨ms_x83, ms_o83⟩
  | 84, _, _ => exact ⟨ms_x84, ms_o84⟩
  | 85, _, _ => exact ⟨ms_x85, ms_o85⟩
  | 86, _, _ => exact ⟨ms_x86, ms_o86⟩
  | 87, _, _ => exact ⟨ms_x87, ms_o87⟩
  | 88, _, _ => exact ⟨ms_x88, ms_o88⟩
  | 89, _, _ => exact ⟨ms_x89, ms_o89⟩
  | 90, _, _ => exact ⟨ms_x90, ms_o90⟩
  | 91, _, _ => exact ⟨ms_x91, ms_o91⟩
  | 92, _, _ => exact ⟨ms_x92, ms_o92⟩
  | 93, _, _ => exact ⟨ms_x93, ms_o93⟩
  | 94, _, _ => exact ⟨ms_x94, ms_o94⟩
  | 95, _, _ => exact ⟨ms_x95, ms_o95⟩
  | 96, _, _ => exact ⟨ms_x96, ms_o96⟩
  | 97, _, _ => exact ⟨ms_x97, ms_o97⟩
  | 98, _, _ => exact ⟨ms_x98, ms_o98⟩
  | 99, _, _ => exact ⟨ms_x99, ms_o99⟩
  | 100, _, _ => exact ⟨ms_x100, ms_o100⟩
  | 101, _, _ => exact ⟨ms_x101, ms_o101⟩
  | 102, _, _ => exact ⟨ms_x102, ms_o102⟩
  | 103, _, _ => exact ⟨ms_x103, ms_o103⟩
  | 104, _, _ => exact ⟨ms_x104, ms_o104⟩
  | 105, _, _ => exact ⟨ms_x105, ms_o105⟩
  | 106, _, _ => exact ⟨ms_x106, ms_o106⟩
  | 107, _, _ => exact ⟨ms_x107, ms_o107⟩
  | 108, _, _ => exact ⟨ms_x108, ms_o108⟩
  | 109, _, _ => exact ⟨ms_x109, ms_o109⟩
  | 110, _, _ => exact ⟨ms_x110, ms_o110⟩
  | 111, _, _ => exact ⟨ms_x111, ms_o111⟩
  | 112, _, _ => exact ⟨ms_x112, ms_o112⟩
  | 113, _, _ => exact ⟨ms_x113, ms_o113⟩
  | 114, _, _ => exact ⟨ms_x114, ms_o114⟩
  | 115, _, _ => exact ⟨ms_x115, ms_o115⟩
  | 116, _, _ => exact ⟨ms_x116, ms_o116⟩
  | 117, _, _ => exact ⟨ms_x117, ms_o117⟩
  | 118, _, _ => exact ⟨ms_x118, ms_o118⟩
  | 119, _, _ => exact ⟨ms_x119, ms_o119⟩
  | 120, _, _ => exact ⟨ms_x120, ms_o120⟩
  | 121, _, _ => exact ⟨ms_x121, ms_o121⟩
  | 122, _, _ => exact ⟨ms_x122, ms_o122⟩
  | 123, _, _ => exact ⟨ms_x123, ms_o123⟩
  | 124, _, _ => exact ⟨ms_x124, ms_o124⟩
  | 125, _, _ => exact ⟨ms_x125, ms_o125⟩
  | 126, _, _ => exact ⟨ms_x126, ms_o126⟩
  | 127, _, _ => exact ⟨ms_x127, ms_o127⟩
  | 128, _, _ => exact ⟨ms_x128, ms_o128⟩
  | 129, _, _ => exact ⟨ms_x129, ms_o129⟩
  | 130, _, _ => exact ⟨ms_x130, ms_o130⟩
  | 131, _, _ => exact ⟨ms_x131, ms_o131⟩
  | 132, _, _ => exact ⟨ms_x132, ms_o132⟩
  | 133, _, _ => exact ⟨ms_x133, ms_o133⟩
  | 134, _, _ => exact ⟨ms_x134, ms_o134⟩
  | 135, _, _ => exact ⟨ms_x135, ms_o135⟩
  | 136, _, _ => exact ⟨ms_x136, ms_o136⟩
  | 137, _, _ => exact ⟨ms_x137, ms_o137⟩
  | 138, _, _ => exact ⟨ms_x138, ms_o138⟩
  | 139, _, _ => exact ⟨ms_x139, ms_o139⟩
  | 140, _, _ => exact ⟨ms_x140, ms_o140⟩
  | 141, _, _ => exact ⟨ms_x141, ms_o141⟩
  | 142, _, _ => exact ⟨ms_x142, ms_o142⟩
  | 143, _, _ => exact ⟨ms_x143, ms_o143⟩
  | 144, _, _ => exact ⟨ms_x144, ms_o144⟩
  | 145, _, h => exact absurd rfl h
  | 146, _, _ => exact ⟨ms_x146, ms_o146⟩
  | 147, _, _ => exact ⟨ms_x147, ms_o147⟩
  | 148, _, _ => exact ⟨ms_x148, ms_o148⟩
  | 149, _, _ => exact ⟨ms_x149, ms_o149⟩
  | q + 150, h, _ => exact absurd h (by omega)
