/-! the code lists are the code, and what they link is among the words -/
theorem vg55 : mv_goods 55 mk55 = true := by decide +kernel
theorem vd55 : mv_decs prog_3_method_10_code mk55 := by
  unfold mv_decs
  decide +kernel
theorem vg56 : mv_goods 56 mk56 = true := by decide +kernel
theorem vd56 : mv_decs prog_3_method_11_code mk56 := by
  unfold mv_decs
  decide +kernel
theorem vg57 : mv_goods 57 mk57 = true := by decide +kernel
theorem vd57 : mv_decs prog_3_method_7_code mk57 := by
  unfold mv_decs
  decide +kernel
theorem vg58 : mv_goods 58 mk58 = true := by decide +kernel
theorem vd58 : mv_decs prog_3_method_8_code mk58 := by
  unfold mv_decs
  decide +kernel
theorem vg59 : mv_goods 59 mk59 = true := by decide +kernel
theorem vd59 : mv_decs prog_3_method_4_code mk59 := by
  unfold mv_decs
  decide +kernel
theorem vg60 : mv_goods 60 mk60 = true := by decide +kernel
theorem vd60 : mv_decs prog_3_method_16_code mk60 := by
  unfold mv_decs
  decide +kernel
theorem vg61 : mv_goods 61 mk61 = true := by decide +kernel
theorem vd61 : mv_decs prog_2_method_4_code mk61 := by
  unfold mv_decs
  decide +kernel
theorem vg62 : mv_goods 62 mk62 = true := by decide +kernel
theorem vd62 : mv_decs prog_2_method_10_code mk62 := by
  unfold mv_decs
  decide +kernel
theorem vg63 : mv_goods 63 mk63 = true := by decide +kernel
theorem vd63 : mv_decs prog_2_method_12_code mk63 := by
  unfold mv_decs
  decide +kernel
theorem vg64 : mv_goods 64 mk64 = true := by decide +kernel
theorem vd64 : mv_decs prog_2_method_13_code mk64 := by
  unfold mv_decs
  decide +kernel
theorem vg65 : mv_goods 65 mk65 = true := by decide +kernel
theorem vd65 : mv_decs prog_1_method_45_code mk65 := by
  unfold mv_decs
  decide +kernel
theorem vg66 : mv_goods 66 mk66 = true := by decide +kernel
theorem vd66 : mv_decs prog_2_method_8_code mk66 := by
  unfold mv_decs
  decide +kernel
theorem vg67 : mv_goods 67 mk67 = true := by decide +kernel
theorem vd67 : mv_decs prog_3_method_18_code mk67 := by
  unfold mv_decs
  decide +kernel
theorem vg68 : mv_goods 68 mk68 = true := by decide +kernel
theorem vd68 : mv_decs prog_2_method_6_code mk68 := by
  unfold mv_decs
  decide +kernel
theorem vg69 : mv_goods 69 mk69 = true := by decide +kernel
theorem vd69 : mv_decs prog_2_method_7_code mk69 := by
  unfold mv_decs
  decide +kernel
theorem vg70 : mv_goods 70 mk70 = true := by decide +kernel
theorem vd70 : mv_decs prog_2_method_14_code mk70 := by
  unfold mv_decs
  decide +kernel
theorem vg71 : mv_goods 71 mk71 = true := by decide +kernel
theorem vd71 : mv_decs prog_1_method_13_code mk71 := by
  unfold mv_decs
  decide +kernel
theorem vg72 : mv_goods 72 mk72 = true := by decide +kernel
theorem vd72 : mv_decs prog_1_method_39_code mk72 := by
  unfold mv_decs
  decide +kernel
theorem vg73 : mv_goods 73 mk73 = true := by decide +kernel
theorem vd73 : mv_decs prog_3_method_20_code mk73 := by
  unfold mv_decs
  decide +kernel
theorem vg74 : mv_goods 74 mk74 = true := by decide +kernel
theorem vd74 : mv_decs prog_3_method_19_code mk74 := by
  unfold mv_decs
  decide +kernel
theorem vg75 : mv_goods 75 mk75 = true := by decide +kernel
theorem vd75 : mv_decs prog_1_method_30_code mk75 := by
  unfold mv_decs
  decide +kernel
theorem vg76 : mv_goods 76 mk76 = true := by decide +kernel
theorem vd76 : mv_decs prog_1_method_34_code mk76 := by
  unfold mv_decs
  decide +kernel
theorem vg77 : mv_goods 77 mk77 = true := by decide +kernel
theorem vd77 : mv_decs prog_1_method_41_code mk77 := by
  unfold mv_decs
  decide +kernel
theorem vg78 : mv_goods 78 mk78 = true := by decide +kernel
theorem vd78 : mv_decs prog_1_method_42_code mk78 := by
  unfold mv_decs
  decide +kernel
theorem vg79 : mv_goods 79 mk79 = true := by decide +kernel
theorem vd79 : mv_decs prog_1_method_32_code mk79 := by
  unfold mv_decs
  decide +kernel
theorem vg80 : mv_goods 80 mk80 = true := by decide +kernel
theorem vd80 : mv_decs prog_3_method_17_code mk80 := by
  unfold mv_decs
  decide +kernel
theorem vg81 : mv_goods 81 mk81 = true := by decide +kernel
theorem vd81 : mv_decs prog_5_method_2_code mk81 := by
  unfold mv_decs
  decide +kernel
theorem vg82 : mv_goods 82 mk82 = true := by decide +kernel
theorem vd82 : mv_decs prog_5_method_6_code mk82 := by
  unfold mv_decs
  decide +kernel
theorem vg83 : mv_goods 83 mk83 = true := by decide +kernel
theorem vd83 : mv_decs prog_5_method_5_code mk83 := by
  unfold mv_decs
  decide +kernel
theorem vg84 : mv_goods 84 mk84 = true := by decide +kernel
theorem vd84 : mv_decs prog_5_method_4_code mk84 := by
  unfold mv_decs
  decide +kernel
theorem vg85 : mv_goods 85 mk85 = true := by decide +kernel
theorem vd85 : mv_decs prog_5_method_7_code mk85 := by
  unfold mv_decs
  decide +kernel
theorem vg86 : mv_goods 86 mk86 = true := by decide +kernel
theorem vd86 : mv_decs prog_5_method_12_code mk86 := by
  unfold mv_decs
  decide +kernel
theorem vg87 : mv_goods 87 mk87 = true := by decide +kernel
theorem vd87 : mv_decs prog_5_method_11_code mk87 := by
  unfold mv_decs
  decide +kernel
theorem vg88 : mv_goods 88 mk88 = true := by decide +kernel
theorem vd88 : mv_decs prog_3_method_21_code mk88 := by
  unfold mv_decs
  decide +kernel
theorem vg89 : mv_goods 89 mk89 = true := by decide +kernel
theorem vd89 : mv_decs prog_5_method_14_code mk89 := by
  unfold mv_decs
  decide +kernel
theorem vg90 : mv_goods 90 mk90 = true := by decide +kernel
theorem vd90 : mv_decs prog_1_method_24_code mk90 := by
  unfold mv_decs
  decide +kernel
theorem vg91 : mv_goods 91 mk91 = true := by decide +kernel
theorem vd91 : mv_decs prog_1_method_36_code mk91 := by
  unfold mv_decs
  decide +kernel
theorem vg92 : mv_goods 92 mk92 = true := by decide +kernel
theorem vd92 : mv_decs prog_1_method_17_code mk92 := by
  unfold mv_decs
  decide +kernel
theorem vg93 : mv_goods 93 mk93 = true := by decide +kernel
theorem vd93 : mv_decs prog_1_method_43_code mk93 := by
  unfold mv_decs
  decide +kernel
theorem vg94 : mv_goods 94 mk94 = true := by decide +kernel
theorem vd94 : mv_decs prog_2_method_9_code mk94 := by
  unfold mv_decs
  decide +kernel
theorem vg95 : mv_goods 95 mk95 = true := by decide +kernel
theorem vd95 : mv_decs prog_1_method_35_code mk95 := by
  unfold mv_decs
  decide +kernel
theorem vg96 : mv_goods 96 mk96 = true := by decide +kernel
theorem vd96 : mv_decs prog_1_method_18_code mk96 := by
  unfold mv_decs
  decide +kernel
theorem vg97 : mv_goods 97 mk97 = true := by decide +kernel
theorem vd97 : mv_decs prog_1_method_9_code mk97 := by
  unfold mv_decs
  decide +kernel
theorem vg98 : mv_goods 98 mk98 = true := by decide +kernel
theorem vd98 : mv_decs prog_1_method_4_code mk98 := by
  unfold mv_decs
  decide +kernel
theorem vg99 : mv_goods 99 mk99 = true := by decide +kernel
theorem vd99 : mv_decs prog_5_method_3_code mk99 := by
  unfold mv_decs
  decide +kernel
theorem vg100 : mv_goods 100 mk100 = true := by decide +kernel
theorem vd100 : mv_decs prog_5_method_8_code mk100 := by
  unfold mv_decs
  decide +kernel
theorem vg101 : mv_goods 101 mk101 = true := by decide +kernel
theorem vd101 : mv_decs prog_5_method_9_code mk101 := by
  unfold mv_decs
  decide +kernel
theorem vg102 : mv_goods 102 mk102 = true := by decide +kernel
theorem vd102 : mv_decs prog_5_method_10_code mk102 := by
  unfold mv_decs
  decide +kernel
theorem vg103 : mv_goods 103 mk103 = true := by decide +kernel
theorem vd103 : mv_decs prog_1_method_23_code mk103 := by
  unfold mv_decs
  decide +kernel
theorem vg104 : mv_goods 104 mk104 = true := by decide +kernel
theorem vd104 : mv_decs prog_1_method_16_code mk104 := by
  unfold mv_decs
  decide +kernel
theorem vg105 : mv_goods 105 mk105 = true := by decide +kernel
theorem vd105 : mv_decs prog_1_method_27_code mk105 := by
  unfold mv_decs
  decide +kernel
theorem vg106 : mv_goods 106 mk106 = true := by decide +kernel
theorem vd106 : mv_decs prog_1_method_7_code mk106 := by
  unfold mv_decs
  decide +kernel
theorem vg107 : mv_goods 107 mk107 = true := by decide +kernel
theorem vd107 : mv_decs prog_1_method_37_code mk107 := by
  unfold mv_decs
  decide +kernel
theorem vg108 : mv_goods 108 mk108 = true := by decide +kernel
theorem vd108 : mv_decs prog_1_method_38_code mk108 := by
  unfold mv_decs
  decide +kernel
