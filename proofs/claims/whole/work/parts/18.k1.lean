/-! the code lists are the code, and what they link is among the words -/
theorem vg0 : mv_goods 0 mk0 = true := by decide +kernel
theorem vd0 : mv_decs prog_8_method_2_code mk0 := by
  unfold mv_decs
  decide +kernel
theorem vg1 : mv_goods 1 mk1 = true := by decide +kernel
theorem vd1 : mv_decs prog_13_method_1_code mk1 := by
  unfold mv_decs
  decide +kernel
theorem vg2 : mv_goods 2 mk2 = true := by decide +kernel
theorem vd2 : mv_decs prog_3_method_1_code mk2 := by
  unfold mv_decs
  decide +kernel
theorem vg3 : mv_goods 3 mk3 = true := by decide +kernel
theorem vd3 : mv_decs prog_4_method_1_code mk3 := by
  unfold mv_decs
  decide +kernel
theorem vg4 : mv_goods 4 mk4 = true := by decide +kernel
theorem vd4 : mv_decs prog_2_method_1_code mk4 := by
  unfold mv_decs
  decide +kernel
theorem vg5 : mv_goods 5 mk5 = true := by decide +kernel
theorem vd5 : mv_decs prog_5_method_1_code mk5 := by
  unfold mv_decs
  decide +kernel
theorem vg6 : mv_goods 6 mk6 = true := by decide +kernel
theorem vd6 : mv_decs prog_12_method_152_code mk6 := by
  unfold mv_decs
  decide +kernel
theorem vg7 : mv_goods 7 mk7 = true := by decide +kernel
theorem vd7 : mv_decs prog_12_method_54_code mk7 := by
  unfold mv_decs
  decide +kernel
theorem vg10 : mv_goods 10 mk10 = true := by decide +kernel
theorem vd10 : mv_decs prog_8_method_10_code mk10 := by
  unfold mv_decs
  decide +kernel
theorem vg11 : mv_goods 11 mk11 = true := by decide +kernel
theorem vd11 : mv_decs prog_17_method_121_code mk11 := by
  unfold mv_decs
  decide +kernel
theorem vg12 : mv_goods 12 mk12 = true := by decide +kernel
theorem vd12 : mv_decs prog_8_method_9_code mk12 := by
  unfold mv_decs
  decide +kernel
theorem vg13 : mv_goods 13 mk13 = true := by decide +kernel
theorem vd13 : mv_decs prog_8_method_71_code mk13 := by
  unfold mv_decs
  decide +kernel
theorem vg14 : mv_goods 14 mk14 = true := by decide +kernel
theorem vd14 : mv_decs prog_12_method_147_code mk14 := by
  unfold mv_decs
  decide +kernel
theorem vg15 : mv_goods 15 mk15 = true := by decide +kernel
theorem vd15 : mv_decs prog_8_method_73_code mk15 := by
  unfold mv_decs
  decide +kernel
theorem vg16 : mv_goods 16 mk16 = true := by decide +kernel
theorem vd16 : mv_decs prog_8_method_22_code mk16 := by
  unfold mv_decs
  decide +kernel
theorem vg17 : mv_goods 17 mk17 = true := by decide +kernel
theorem vd17 : mv_decs prog_13_method_7_code mk17 := by
  unfold mv_decs
  decide +kernel
theorem vg18 : mv_goods 18 mk18 = true := by decide +kernel
theorem vd18 : mv_decs prog_3_method_2_code mk18 := by
  unfold mv_decs
  decide +kernel
theorem vg19 : mv_goods 19 mk19 = true := by decide +kernel
theorem vd19 : mv_decs prog_8_method_6_code mk19 := by
  unfold mv_decs
  decide +kernel
theorem vg20 : mv_goods 20 mk20 = true := by decide +kernel
theorem vd20 : mv_decs prog_13_method_93_code mk20 := by
  unfold mv_decs
  decide +kernel
theorem vg21 : mv_goods 21 mk21 = true := by decide +kernel
theorem vd21 : mv_decs prog_19_method_11_code mk21 := by
  unfold mv_decs
  decide +kernel
theorem vg22 : mv_goods 22 mk22 = true := by decide +kernel
theorem vd22 : mv_decs prog_12_method_155_code mk22 := by
  unfold mv_decs
  decide +kernel
theorem vg23 : mv_goods 23 mk23 = true := by decide +kernel
theorem vd23 : mv_decs prog_8_method_14_code mk23 := by
  unfold mv_decs
  decide +kernel
theorem vg24 : mv_goods 24 mk24 = true := by decide +kernel
theorem vd24 : mv_decs prog_13_method_88_code mk24 := by
  unfold mv_decs
  decide +kernel
theorem vg25 : mv_goods 25 mk25 = true := by decide +kernel
theorem vd25 : mv_decs prog_4_method_9_code mk25 := by
  unfold mv_decs
  decide +kernel
theorem vg26 : mv_goods 26 mk26 = true := by decide +kernel
theorem vd26 : mv_decs prog_4_method_10_code mk26 := by
  unfold mv_decs
  decide +kernel
theorem vg27 : mv_goods 27 mk27 = true := by decide +kernel
theorem vd27 : mv_decs prog_4_method_11_code mk27 := by
  unfold mv_decs
  decide +kernel
theorem vg28 : mv_goods 28 mk28 = true := by decide +kernel
theorem vd28 : mv_decs prog_4_method_12_code mk28 := by
  unfold mv_decs
  decide +kernel
theorem vg29 : mv_goods 29 mk29 = true := by decide +kernel
theorem vd29 : mv_decs prog_3_method_6_code mk29 := by
  unfold mv_decs
  decide +kernel
theorem vg30 : mv_goods 30 mk30 = true := by decide +kernel
theorem vd30 : mv_decs prog_3_method_13_code mk30 := by
  unfold mv_decs
  decide +kernel
theorem vg31 : mv_goods 31 mk31 = true := by decide +kernel
theorem vd31 : mv_decs prog_3_method_12_code mk31 := by
  unfold mv_decs
  decide +kernel
theorem vg32 : mv_goods 32 mk32 = true := by decide +kernel
theorem vd32 : mv_decs prog_4_method_4_code mk32 := by
  unfold mv_decs
  decide +kernel
theorem vg33 : mv_goods 33 mk33 = true := by decide +kernel
theorem vd33 : mv_decs prog_3_method_14_code mk33 := by
  unfold mv_decs
  decide +kernel
theorem vg34 : mv_goods 34 mk34 = true := by decide +kernel
theorem vd34 : mv_decs prog_4_method_5_code mk34 := by
  unfold mv_decs
  decide +kernel
theorem vg35 : mv_goods 35 mk35 = true := by decide +kernel
theorem vd35 : mv_decs prog_4_method_6_code mk35 := by
  unfold mv_decs
  decide +kernel
theorem vg36 : mv_goods 36 mk36 = true := by decide +kernel
theorem vd36 : mv_decs prog_4_method_8_code mk36 := by
  unfold mv_decs
  decide +kernel
theorem vg37 : mv_goods 37 mk37 = true := by decide +kernel
theorem vd37 : mv_decs prog_3_method_15_code mk37 := by
  unfold mv_decs
  decide +kernel
theorem vg38 : mv_goods 38 mk38 = true := by decide +kernel
theorem vd38 : mv_decs prog_4_method_7_code mk38 := by
  unfold mv_decs
  decide +kernel
theorem vg39 : mv_goods 39 mk39 = true := by decide +kernel
theorem vd39 : mv_decs prog_4_method_3_code mk39 := by
  unfold mv_decs
  decide +kernel
theorem vg40 : mv_goods 40 mk40 = true := by decide +kernel
theorem vd40 : mv_decs prog_4_method_2_code mk40 := by
  unfold mv_decs
  decide +kernel
theorem vg41 : mv_goods 41 mk41 = true := by decide +kernel
theorem vd41 : mv_decs prog_3_method_3_code mk41 := by
  unfold mv_decs
  decide +kernel
theorem vg42 : mv_goods 42 mk42 = true := by decide +kernel
theorem vd42 : mv_decs prog_17_method_103_code mk42 := by
  unfold mv_decs
  decide +kernel
theorem vg43 : mv_goods 43 mk43 = true := by decide +kernel
theorem vd43 : mv_decs prog_3_method_5_code mk43 := by
  unfold mv_decs
  decide +kernel
theorem vg44 : mv_goods 44 mk44 = true := by decide +kernel
theorem vd44 : mv_decs prog_2_method_5_code mk44 := by
  unfold mv_decs
  decide +kernel
theorem vg45 : mv_goods 45 mk45 = true := by decide +kernel
theorem vd45 : mv_decs prog_2_method_2_code mk45 := by
  unfold mv_decs
  decide +kernel
theorem vg46 : mv_goods 46 mk46 = true := by decide +kernel
theorem vd46 : mv_decs prog_1_method_5_code mk46 := by
  unfold mv_decs
  decide +kernel
theorem vg47 : mv_goods 47 mk47 = true := by decide +kernel
theorem vd47 : mv_decs prog_8_method_68_code mk47 := by
  unfold mv_decs
  decide +kernel
theorem vg48 : mv_goods 48 mk48 = true := by decide +kernel
theorem vd48 : mv_decs prog_8_method_13_code mk48 := by
  unfold mv_decs
  decide +kernel
theorem vg49 : mv_goods 49 mk49 = true := by decide +kernel
theorem vd49 : mv_decs prog_13_method_89_code mk49 := by
  unfold mv_decs
  decide +kernel
theorem vg50 : mv_goods 50 mk50 = true := by decide +kernel
theorem vd50 : mv_decs prog_1_method_1_code mk50 := by
  unfold mv_decs
  decide +kernel
theorem vg51 : mv_goods 51 mk51 = true := by decide +kernel
theorem vd51 : mv_decs prog_1_method_44_code mk51 := by
  unfold mv_decs
  decide +kernel
theorem vg52 : mv_goods 52 mk52 = true := by decide +kernel
theorem vd52 : mv_decs prog_2_method_3_code mk52 := by
  unfold mv_decs
  decide +kernel
theorem vg53 : mv_goods 53 mk53 = true := by decide +kernel
theorem vd53 : mv_decs prog_1_method_40_code mk53 := by
  unfold mv_decs
  decide +kernel
theorem vg54 : mv_goods 54 mk54 = true := by decide +kernel
theorem vd54 : mv_decs prog_3_method_9_code mk54 := by
  unfold mv_decs
  decide +kernel
