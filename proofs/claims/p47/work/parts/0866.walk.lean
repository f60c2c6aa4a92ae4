theorem sc_3_6_0 : scanS 3 6 729 0 (some (0, 1)) 0 = some (none, 130) := by decide +kernel
theorem wk_3_6 : WalkOk 3 6 := ⟨130, sc_3_6_0, by decide, by decide +kernel⟩
theorem sc_3_7_0 : scanS 3 7 2048 0 (some (0, 1)) 0 = some ((some (599186, 1)), 314) := by decide +kernel
theorem sc_3_7_2048 : scanS 3 7 139 2048 (some (599186, 1)) 314 = some (none, 315) := by decide +kernel
theorem sd_3_7_2187 : scanS 3 7 2187 0 (some (0, 1)) 0 = some (none, 315) := scan_cat2 (d := 2048) (e := 139) (x := 0) (x2 := 2048) (by decide) (by decide) sc_3_7_0 sc_3_7_2048
theorem wk_3_7 : WalkOk 3 7 := ⟨315, sd_3_7_2187, by decide, by decide +kernel⟩
theorem sc_3_8_0 : scanS 3 8 2048 0 (some (0, 1)) 0 = some ((some (594065, 4)), 763) := by decide +kernel
theorem sc_3_8_2048 : scanS 3 8 2048 2048 (some (594065, 4)) 763 = some ((some (2663050, 2)), 826) := by decide +kernel
theorem sc_3_8_4096 : scanS 3 8 2048 4096 (some (2663050, 2)) 826 = some ((some (4793490, 1)), 833) := by decide +kernel
theorem sc_3_8_6144 : scanS 3 8 417 6144 (some (4793490, 1)) 833 = some (none, 834) := by decide +kernel
theorem sd_3_8_4096 : scanS 3 8 4096 0 (some (0, 1)) 0 = some ((some (2663050, 2)), 826) := scan_cat2 (d := 2048) (e := 2048) (x := 0) (x2 := 2048) (by decide) (by decide) sc_3_8_0 sc_3_8_2048
theorem sd_3_8_6144 : scanS 3 8 6144 0 (some (0, 1)) 0 = some ((some (4793490, 1)), 833) := scan_cat2 (d := 4096) (e := 2048) (x := 0) (x2 := 4096) (by decide) (by decide) sd_3_8_4096 sc_3_8_4096
theorem sd_3_8_6561 : scanS 3 8 6561 0 (some (0, 1)) 0 = some (none, 834) := scan_cat2 (d := 6144) (e := 417) (x := 0) (x2 := 6144) (by decide) (by decide) sd_3_8_6144 sc_3_8_6144
theorem wk_3_8 : WalkOk 3 8 := ⟨834, sd_3_8_6561, by decide, by decide +kernel⟩
theorem sc_4_5_0 : scanS 4 5 1024 0 (some (0, 1)) 0 = some (none, 208) := by decide +kernel
theorem wk_4_5 : WalkOk 4 5 := ⟨208, sc_4_5_0, by decide, by decide +kernel⟩
theorem sc_4_6_0 : scanS 4 6 2048 0 (some (0, 1)) 0 = some ((some (74898, 1)), 686) := by decide +kernel
theorem sc_4_6_2048 : scanS 4 6 2048 2048 (some (74898, 1)) 686 = some (none, 700) := by decide +kernel
theorem sd_4_6_4096 : scanS 4 6 4096 0 (some (0, 1)) 0 = some (none, 700) := scan_cat2 (d := 2048) (e := 2048) (x := 0) (x2 := 2048) (by decide) (by decide) sc_4_6_0 sc_4_6_2048
theorem wk_4_6 : WalkOk 4 6 := ⟨700, sd_4_6_4096, by decide, by decide +kernel⟩
theorem sc_4_7_0 : scanS 4 7 2048 0 (some (0, 1)) 0 = some ((some (66577, 7)), 1303) := by decide +kernel
theorem sc_4_7_2048 : scanS 4 7 2048 2048 (some (66577, 7)) 1303 = some ((some (299593, 1)), 2029) := by decide +kernel
theorem sc_4_7_4096 : scanS 4 7 2048 4096 (some (299593, 1)) 2029 = some ((some (332882, 7)), 2180) := by decide +kernel
theorem sc_4_7_6144 : scanS 4 7 2048 6144 (some (332882, 7)) 2180 = some ((some (599186, 1)), 2324) := by decide +kernel
theorem sc_4_7_8192 : scanS 4 7 2048 8192 (some (599186, 1)) 2324 = some ((some (599186, 1)), 2324) := by decide +kernel
theorem sc_4_7_10240 : scanS 4 7 2048 10240 (some (599186, 1)) 2324 = some ((some (898779, 1)), 2343) := by decide +kernel
theorem sc_4_7_12288 : scanS 4 7 2048 12288 (some (898779, 1)) 2343 = some ((some (898779, 1)), 2343) := by decide +kernel
theorem sc_4_7_14336 : scanS 4 7 2048 14336 (some (898779, 1)) 2343 = some (none, 2344) := by decide +kernel
theorem sd_4_7_4096 : scanS 4 7 4096 0 (some (0, 1)) 0 = some ((some (299593, 1)), 2029) := scan_cat2 (d := 2048) (e := 2048) (x := 0) (x2 := 2048) (by decide) (by decide) sc_4_7_0 sc_4_7_2048
theorem sd_4_7_6144 : scanS 4 7 6144 0 (some (0, 1)) 0 = some ((some (332882, 7)), 2180) := scan_cat2 (d := 4096) (e := 2048) (x := 0) (x2 := 4096) (by decide) (by decide) sd_4_7_4096 sc_4_7_4096
theorem sd_4_7_8192 : scanS 4 7 8192 0 (some (0, 1)) 0 = some ((some (599186, 1)), 2324) := scan_cat2 (d := 6144) (e := 2048) (x := 0) (x2 := 6144) (by decide) (by decide) sd_4_7_6144 sc_4_7_6144
theorem sd_4_7_10240 : scanS 4 7 10240 0 (some (0, 1)) 0 = some ((some (599186, 1)), 2324) := scan_cat2 (d := 8192) (e := 2048) (x := 0) (x2 := 8192) (by decide) (by decide) sd_4_7_8192 sc_4_7_8192
theorem sd_4_7_12288 : scanS 4 7 12288 0 (some (0, 1)) 0 = some ((some (898779, 1)), 2343) := scan_cat2 (d := 10240) (e := 2048) (x := 0) (x2 := 10240) (by decide) (by decide) sd_4_7_10240 sc_4_7_10240
theorem sd_4_7_14336 : scanS 4 7 14336 0 (some (0, 1)) 0 = some ((some (898779, 1)), 2343) := scan_cat2 (d := 12288) (e := 2048) (x := 0) (x2 := 12288) (by decide) (by decide) sd_4_7_12288 sc_4_7_12288
theorem sd_4_7_16384 : scanS 4 7 16384 0 (some (0, 1)) 0 = some (none, 2344) := scan_cat2 (d := 14336) (e := 2048) (x := 0) (x2 := 14336) (by decide) (by decide) sd_4_7_14336 sc_4_7_14336
theorem wk_4_7 : WalkOk 4 7 := ⟨2344, sd_4_7_16384, by decide, by decide +kernel⟩
theorem sc_4_8_0 : scanS 4 8 2048 0 (some (0, 1)) 0 = some ((some (65665, 8)), 1498) := by decide +kernel
theorem sc_4_8_2048 : scanS 4 8 2048 2048 (some (65665, 8)) 1498 = some ((some (266305, 2)), 2863) := by decide +kernel
theorem sc_4_8_4096 : scanS 4 8 2048 4096 (some (266305, 2)) 2863 = some ((some (328322, 8)), 3914) := by decide +kernel
theorem sc_4_8_6144 : scanS 4 8 2048 6144 (some (328322, 8)) 3914 = some ((some (532610, 2)), 4969) := by decide +kernel
theorem sc_4_8_8192 : scanS 4 8 2048 8192 (some (532610, 2)) 4969 = some ((some (590979, 8)), 5660) := by decide +kernel
theorem sc_4_8_10240 : scanS 4 8 2048 10240 (some (590979, 8)) 5660 = some ((some (798915, 2)), 6441) := by decide +kernel
theorem sc_4_8_12288 : scanS 4 8 2048 12288 (some (798915, 2)) 6441 = some ((some (853641, 8)), 6853) := by decide +kernel
theorem sc_4_8_14336 : scanS 4 8 2048 14336 (some (853641, 8)) 6853 = some ((some (2396745, 1)), 7396) := by decide +kernel
theorem sc_4_8_16384 : scanS 4 8 2048 16384 (some (2396745, 1)) 7396 = some ((some (2396745, 1)), 7396) := by decide +kernel
theorem sc_4_8_18432 : scanS 4 8 2048 18432 (some (2396745, 1)) 7396 = some ((some (2396745, 1)), 7396) := by decide +kernel
theorem sc_4_8_20480 : scanS 4 8 2048 20480 (some (2396745, 1)) 7396 = some ((some (2429578, 8)), 7558) := by decide +kernel
theorem sc_4_8_22528 : scanS 4 8 2048 22528 (some (2429578, 8)) 7558 = some ((some (2663050, 2)), 7832) := by decide +kernel
theorem sc_4_8_24576 : scanS 4 8 2048 24576 (some (2663050, 2)) 7832 = some ((some (2692235, 8)), 7909) := by decide +kernel
theorem sc_4_8_26624 : scanS 4 8 2048 26624 (some (2692235, 8)) 7909 = some ((some (2929355, 2)), 8079) := by decide +kernel
theorem sc_4_8_28672 : scanS 4 8 2048 28672 (some (2929355, 2)) 8079 = some ((some (2954898, 8)), 8104) := by decide +kernel
theorem sc_4_8_30720 : scanS 4 8 2048 30720 (some (2954898, 8)) 8104 = some ((some (4793490, 1)), 8194) := by decide +kernel
theorem sc_4_8_32768 : scanS 4 8 2048 32768 (some (4793490, 1)) 8194 = some ((some (4793490, 1)), 8194) := by decide +kernel
theorem sc_4_8_34816 : scanS 4 8 2048 34816 (some (4793490, 1)) 8194 = some ((some (4793490, 1)), 8194) := by decide +kernel
theorem sc_4_8_36864 : scanS 4 8 2048 36864 (some (4793490, 1)) 8194 = some ((some (4793490, 1)), 8194) := by decide +kernel
theorem sc_4_8_38912 : scanS 4 8 2048 38912 (some (4793490, 1)) 8194 = some ((some (4793490, 1)), 8194) := by decide +kernel
theorem sc_4_8_40960 : scanS 4 8 2048 40960 (some (4793490, 1)) 8194 = some ((some (4793490, 1)), 8194) := by decide +kernel
theorem sc_4_8_43008 : scanS 4 8 2048 43008 (some (4793490, 1)) 8194 = some ((some (5059795, 2)), 8222) := by decide +kernel
theorem sc_4_8_45056 : scanS 4 8 2048 45056 (some (5059795, 2)) 8222 = some ((some (5059795, 2)), 8222) := by decide +kernel
theorem sc_4_8_47104 : scanS 4 8 2048 47104 (some (5059795, 2)) 8222 = some ((some (7190235, 1)), 8229) := by decide +kernel
theorem sc_4_8_49152 : scanS 4 8 2048 49152 (some (7190235, 1)) 8229 = some ((some (7190235, 1)), 8229) := by decide +kernel
theorem sc_4_8_51200 : scanS 4 8 2048 51200 (some (7190235, 1)) 8229 = some ((some (7190235, 1)), 8229) := by decide +kernel
theorem sc_4_8_53248 : scanS 4 8 2048 53248 (some (7190235, 1)) 8229 = some ((some (7190235, 1)), 8229) := by decide +kernel
theorem sc_4_8_55296 : scanS 4 8 2048 55296 (some (7190235, 1)) 8229 = some ((some (7190235, 1)), 8229) := by decide +kernel
theorem sc_4_8_57344 : scanS 4 8 2048 57344 (some (7190235, 1)) 8229 = some ((some (7190235, 1)), 8229) := by decide +kernel
theorem sc_4_8_59392 : scanS 4 8 2048 59392 (some (7190235, 1)) 8229 = some ((some (7190235, 1)), 8229) := by decide +kernel
theorem sc_4_8_61440 : scanS 4 8 2048 61440 (some (7190235, 1)) 8229 = some ((some (7190235, 1)), 8229) := by decide +kernel
theorem sc_4_8_63488 : scanS 4 8 2048 63488 (some (7190235, 1)) 8229 = some (none, 8230) := by decide +kernel
theorem sd_4_8_4096 : scanS 4 8 4096 0 (some (0, 1)) 0 = some ((some (266305, 2)), 2863) := scan_cat2 (d := 2048) (e := 2048) (x := 0) (x2 := 2048) (by decide) (by decide) sc_4_8_0 sc_4_8_2048
theorem sd_4_8_6144 : scanS 4 8 6144 0 (some (0, 1)) 0 = some ((some (328322, 8)), 3914) := scan_cat2 (d := 4096) (e := 2048) (x := 0) (x2 := 4096) (by decide) (by decide) sd_4_8_4096 sc_4_8_4096
theorem sd_4_8_8192 : scanS 4 8 8192 0 (some (0, 1)) 0 = some ((some (532610, 2)), 4969) := scan_cat2 (d := 6144) (e := 2048) (x := 0) (x2 := 6144) (by decide) (by decide) sd_4_8_6144 sc_4_8_6144
theorem sd_4_8_10240 : scanS 4 8 10240 0 (some (0, 1)) 0 = some ((some (590979, 8)), 5660) := scan_cat2 (d := 8192) (e := 2048) (x := 0) (x2 := 8192) (by decide) (by decide) sd_4_8_8192 sc_4_8_8192
theorem sd_4_8_12288 : scanS 4 8 12288 0 (some (0, 1)) 0 = some ((some (798915, 2)), 6441) := scan_cat2 (d := 10240) (e := 2048) (x := 0) (x2 := 10240) (by decide) (by decide) sd_4_8_10240 sc_4_8_10240
theorem sd_4_8_14336 : scanS 4 8 14336 0 (some (0, 1)) 0 = some ((some (853641, 8)), 6853) := scan_cat2 (d := 12288) (e := 2048) (x := 0) (x2 := 12288) (by decide) (by decide) sd_4_8_12288 sc_4_8_12288
theorem sd_4_8_16384 : scanS 4 8 16384 0 (some (0, 1)) 0 = some ((some (2396745, 1)), 7396) := scan_cat2 (d := 14336) (e := 2048) (x := 0) (x2 := 14336) (by decide) (by decide) sd_4_8_14336 sc_4_8_14336
theorem sd_4_8_18432 : scanS 4 8 18432 0 (some (0, 1)) 0 = some ((some (2396745, 1)), 7396) := scan_cat2 (d := 16384) (e := 2048) (x := 0) (x2 := 16384) (by decide) (by decide) sd_4_8_16384 sc_4_8_16384
theorem sd_4_8_20480 : scanS 4 8 20480 0 (some (0, 1)) 0 = some ((some (2396745, 1)), 7396) := scan_cat2 (d := 18432) (e := 2048) (x := 0) (x2 := 18432) (by decide) (by decide) sd_4_8_18432 sc_4_8_18432
theorem sd_4_8_22528 : scanS 4 8 22528 0 (some (0, 1)) 0 = some ((some (2429578, 8)), 7558) := scan_cat2 (d := 20480) (e := 2048) (x := 0) (x2 := 20480) (by decide) (by decide) sd_4_8_20480 sc_4_8_20480
theorem sd_4_8_24576 : scanS 4 8 24576 0 (some (0, 1)) 0 = some ((some (2663050, 2)), 7832) := scan_cat2 (d := 22528) (e := 2048) (x := 0) (x2 := 22528) (by decide) (by decide) sd_4_8_22528 sc_4_8_22528
theorem sd_4_8_26624 : scanS 4 8 26624 0 (some (0, 1)) 0 = some ((some (2692235, 8)), 7909) := scan_cat2 (d := 24576) (e := 2048) (x := 0) (x2 := 24576) (by decide) (by decide) sd_4_8_24576 sc_4_8_24576
theorem sd_4_8_28672 : scanS 4 8 28672 0 (some (0, 1)) 0 = some ((some (2929355, 2)), 8079) := scan_cat2 (d := 26624) (e := 2048) (x := 0) (x2 := 26624) (by decide) (by decide) sd_4_8_26624 sc_4_8_26624
theorem sd_4_8_30720 : scanS 4 8 30720 0 (some (0, 1)) 0 = some ((some (2954898, 8)), 8104) := scan_cat2 (d := 28672) (e := 2048) (x := 0) (x2 := 28672) (by decide) (by decide) sd_4_8_28672 sc_4_8_28672
theorem sd_4_8_32768 : scanS 4 8 32768 0 (some (0, 1)) 0 = some ((some (4793490, 1)), 8194) := scan_cat2 (d := 30720) (e := 2048) (x := 0) (x2 := 30720) (by decide) (by decide) sd_4_8_30720 sc_4_8_30720
theorem sd_4_8_34816 : scanS 4 8 34816 0 (some (0, 1)) 0 = some ((some (4793490, 1)), 8194) := scan_cat2 (d := 32768) (e := 2048) (x := 0) (x2 := 32768) (by decide) (by decide) sd_4_8_32768 sc_4_8_32768
theorem sd_4_8_36864 : scanS 4 8 36864 0 (some (0, 1)) 0 = some ((some (4793490, 1)), 8194) := scan_cat2 (d := 34816) (e := 2048) (x := 0) (x2 := 34816) (by decide) (by decide) sd_4_8_34816 sc_4_8_34816
theorem sd_4_8_38912 : scanS 4 8 38912 0 (some (0, 1)) 0 = some ((some (4793490, 1)), 8194) := scan_cat2 (d := 36864) (e := 2048) (x := 0) (x2 := 36864) (by decide) (by decide) sd_4_8_36864 sc_4_8_36864
theorem sd_4_8_40960 : scanS 4 8 40960 0 (some (0, 1)) 0 = some ((some (4793490, 1)), 8194) := scan_cat2 (d := 38912) (e := 2048) (x := 0) (x2 := 38912) (by decide) (by decide) sd_4_8_38912 sc_4_8_38912
theorem sd_4_8_43008 : scanS 4 8 43008 0 (some (0, 1)) 0 = some ((some (4793490, 1)), 8194) := scan_cat2 (d := 40960) (e := 2048) (x := 0) (x2 := 40960) (by decide) (by decide) sd_4_8_40960 sc_4_8_40960
theorem sd_4_8_45056 : scanS 4 8 45056 0 (some (0, 1)) 0 = some ((some (5059795, 2)), 8222) := scan_cat2 (d := 43008) (e := 2048) (x := 0) (x2 := 43008) (by decide) (by decide) sd_4_8_43008 sc_4_8_43008
theorem sd_4_8_47104 : scanS 4 8 47104 0 (some (0, 1)) 0 = some ((some (5059795, 2)), 8222) := scan_cat2 (d := 45056) (e := 2048) (x := 0) (x2 := 45056) (by decide) (by decide) sd_4_8_45056 sc_4_8_45056
theorem sd_4_8_49152 : scanS 4 8 49152 0 (some (0, 1)) 0 = some ((some (7190235, 1)), 8229) := scan_cat2 (d := 47104) (e := 2048) (x := 0) (x2 := 47104) (by decide) (by decide) sd_4_8_47104 sc_4_8_47104
theorem sd_4_8_51200 : scanS 4 8 51200 0 (some (0, 1)) 0 = some ((some (7190235, 1)), 8229) := scan_cat2 (d := 49152) (e := 2048) (x := 0) (x2 := 49152) (by decide) (by decide) sd_4_8_49152 sc_4_8_49152
theorem sd_4_8_53248 : scanS 4 8 53248 0 (some (0, 1)) 0 = some ((some (7190235, 1)), 8229) := scan_cat2 (d := 51200) (e := 2048) (x := 0) (x2 := 51200) (by decide) (by decide) sd_4_8_51200 sc_4_8_51200
theorem sd_4_8_55296 : scanS 4 8 55296 0 (some (0, 1)) 0 = some ((some (7190235, 1)), 8229) := scan_cat2 (d := 53248) (e := 2048) (x := 0) (x2 := 53248) (by decide) (by decide) sd_4_8_53248 sc_4_8_53248
theorem sd_4_8_57344 : scanS 4 8 57344 0 (some (0, 1)) 0 = some ((some (7190235, 1)), 8229) := scan_cat2 (d := 55296) (e := 2048) (x := 0) (x2 := 55296) (by decide) (by decide) sd_4_8_55296 sc_4_8_55296
theorem sd_4_8_59392 : scanS 4 8 59392 0 (some (0, 1)) 0 = some ((some (7190235, 1)), 8229) := scan_cat2 (d := 57344) (e := 2048) (x := 0) (x2 := 57344) (by decide) (by decide) sd_4_8_57344 sc_4_8_57344
theorem sd_4_8_61440 : scanS 4 8 61440 0 (some (0, 1)) 0 = some ((some (7190235, 1)), 8229) := scan_cat2 (d := 59392) (e := 2048) (x := 0) (x2 := 59392) (by decide) (by decide) sd_4_8_59392 sc_4_8_59392
theorem sd_4_8_63488 : scanS 4 8 63488 0 (some (0, 1)) 0 = some ((some (7190235, 1)), 8229) := scan_cat2 (d := 61440) (e := 2048) (x := 0) (x2 := 61440) (by decide) (by decide) sd_4_8_61440 sc_4_8_61440
theorem sd_4_8_65536 : scanS 4 8 65536 0 (some (0, 1)) 0 = some (none, 8230) := scan_cat2 (d := 63488) (e := 2048) (x := 0) (x2 := 63488) (by decide) (by decide) sd_4_8_63488 sc_4_8_63488
theorem wk_4_8 : WalkOk 4 8 := ⟨8230, sd_4_8_65536, by decide, by decide +kernel⟩
theorem chkS_small : ∀ L : Fin 5, ∀ m : Fin 9, L.val = 0 ∨ m.val = 0 ∨ 256 < L.val ^ m.val ∨ chkS L.val m.val = true := by decide +kernel
theorem walkOk {L m : Nat} (hL1 : 1 ≤ L) (hL : L ≤ 4) (hm1 : 1 ≤ m) (hm : m ≤ 8) : WalkOk L m := by
  rcases chkS_small ⟨L, by omega⟩ ⟨m, by omega⟩ with h | h | h | h
  · exact absurd h (show ¬ L = 0 by omega)
  · exact absurd h (show ¬ m = 0 by omega)
  · have h1 : L = 1 ∨ L = 2 ∨ L = 3 ∨ L = 4 := by omega
    have h2 : m = 1 ∨ m = 2 ∨ m = 3 ∨ m = 4 ∨ m = 5 ∨ m = 6 ∨ m = 7 ∨ m = 8 := by omega
    rcases h1 with rfl | rfl | rfl | rfl <;> rcases h2 with rfl | rfl | rfl | rfl | rfl | rfl | rfl | rfl
    · exact absurd h (show ¬ 256 < 1 ^ 1 by decide)
    · exact absurd h (show ¬ 256 < 1 ^ 2 by decide)
    · exact absurd h (show ¬ 256 < 1 ^ 3 by decide)
    · exact absurd h (show ¬ 256 < 1 ^ 4 by decide)
    · exact absurd h (show ¬ 256 < 1 ^ 5 by decide)
    · exact absurd h (show ¬ 256 < 1 ^ 6 by decide)
    · exact absurd h (show ¬ 256 < 1 ^ 7 by decide)
    · exact absurd h (show ¬ 256 < 1 ^ 8 by decide)
    · exact absurd h (show ¬ 256 < 2 ^ 1 by decide)
    · exact absurd h (show ¬ 256 < 2 ^ 2 by decide)
    · exact absurd h (show ¬ 256 < 2 ^ 3 by decide)
    · exact absurd h (show ¬ 256 < 2 ^ 4 by decide)
    · exact absurd h (show ¬ 256 < 2 ^ 5 by decide)
    · exact absurd h (show ¬ 256 < 2 ^ 6 by decide)
    · exact absurd h (show ¬ 256 < 2 ^ 7 by decide)
    · exact absurd h (show ¬ 256 < 2 ^ 8 by decide)
    · exact absurd h (show ¬ 256 < 3 ^ 1 by decide)
    · exact absurd h (show ¬ 256 < 3 ^ 2 by decide)
    · exact absurd h (show ¬ 256 < 3 ^ 3 by decide)
    · exact absurd h (show ¬ 256 < 3 ^ 4 by decide)
    · exact absurd h (show ¬ 256 < 3 ^ 5 by decide)
    · exact wk_3_6
    · exact wk_3_7
    · exact wk_3_8
    · exact absurd h (show ¬ 256 < 4 ^ 1 by decide)
    · exact absurd h (show ¬ 256 < 4 ^ 2 by decide)
    · exact absurd h (show ¬ 256 < 4 ^ 3 by decide)
    · exact absurd h (show ¬ 256 < 4 ^ 4 by decide)
    · exact wk_4_5
    · exact wk_4_6
    · exact wk_4_7
    · exact wk_4_8
  · exact chkS_ok h
