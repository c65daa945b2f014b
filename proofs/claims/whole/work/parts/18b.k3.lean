/-! the code lists are the code, and what they link is among the words -/
theorem vg109 : mv_goods 109 mk109 = true := by decide +kernel
theorem vd109 : mv_decs prog_1_method_22_code mk109 := by
  unfold mv_decs
  decide +kernel
theorem vg110 : mv_goods 110 mk110 = true := by decide +kernel
theorem vd110 : mv_decs prog_1_method_33_code mk110 := by
  unfold mv_decs
  decide +kernel
theorem vg111 : mv_goods 111 mk111 = true := by decide +kernel
theorem vd111 : mv_decs prog_5_method_18_code mk111 := by
  unfold mv_decs
  decide +kernel
theorem vg112 : mv_goods 112 mk112 = true := by decide +kernel
theorem vd112 : mv_decs prog_5_method_20_code mk112 := by
  unfold mv_decs
  decide +kernel
theorem vg113 : mv_goods 113 mk113 = true := by decide +kernel
theorem vd113 : mv_decs prog_5_method_16_code mk113 := by
  unfold mv_decs
  decide +kernel
theorem vg114 : mv_goods 114 mk114 = true := by decide +kernel
theorem vd114 : mv_decs prog_5_method_19_code mk114 := by
  unfold mv_decs
  decide +kernel
theorem vg115 : mv_goods 115 mk115 = true := by decide +kernel
theorem vd115 : mv_decs prog_1_method_29_code mk115 := by
  unfold mv_decs
  decide +kernel
theorem vg116 : mv_goods 116 mk116 = true := by decide +kernel
theorem vd116 : mv_decs prog_5_method_13_code mk116 := by
  unfold mv_decs
  decide +kernel
theorem vg117 : mv_goods 117 mk117 = true := by decide +kernel
theorem vd117 : mv_decs prog_10_method_49_code mk117 := by
  unfold mv_decs
  decide +kernel
theorem vg118 : mv_goods 118 mk118 = true := by decide +kernel
theorem vd118 : mv_decs prog_1_method_25_code mk118 := by
  unfold mv_decs
  decide +kernel
theorem vg119 : mv_goods 119 mk119 = true := by decide +kernel
theorem vd119 : mv_decs prog_1_method_8_code mk119 := by
  unfold mv_decs
  decide +kernel
theorem vg120 : mv_goods 120 mk120 = true := by decide +kernel
theorem vd120 : mv_decs prog_1_method_20_code mk120 := by
  unfold mv_decs
  decide +kernel
theorem vg121 : mv_goods 121 mk121 = true := by decide +kernel
theorem vd121 : mv_decs prog_2_method_16_code mk121 := by
  unfold mv_decs
  decide +kernel
theorem vg122 : mv_goods 122 mk122 = true := by decide +kernel
theorem vd122 : mv_decs prog_2_method_17_code mk122 := by
  unfold mv_decs
  decide +kernel
theorem vg123 : mv_goods 123 mk123 = true := by decide +kernel
theorem vd123 : mv_decs prog_1_method_11_code mk123 := by
  unfold mv_decs
  decide +kernel
theorem vg124 : mv_goods 124 mk124 = true := by decide +kernel
theorem vd124 : mv_decs prog_1_method_26_code mk124 := by
  unfold mv_decs
  decide +kernel
theorem vg125 : mv_goods 125 mk125 = true := by decide +kernel
theorem vd125 : mv_decs prog_2_method_11_code mk125 := by
  unfold mv_decs
  decide +kernel
theorem vg126 : mv_goods 126 mk126 = true := by decide +kernel
theorem vd126 : mv_decs prog_1_method_31_code mk126 := by
  unfold mv_decs
  decide +kernel
theorem vg127 : mv_goods 127 mk127 = true := by decide +kernel
theorem vd127 : mv_decs prog_1_method_6_code mk127 := by
  unfold mv_decs
  decide +kernel
theorem vg128 : mv_goods 128 mk128 = true := by decide +kernel
theorem vd128 : mv_decs prog_1_method_10_code mk128 := by
  unfold mv_decs
  decide +kernel
theorem vg129 : mv_goods 129 mk129 = true := by decide +kernel
theorem vd129 : mv_decs prog_1_method_15_code mk129 := by
  unfold mv_decs
  decide +kernel
theorem vg130 : mv_goods 130 mk130 = true := by decide +kernel
theorem vd130 : mv_decs prog_1_method_21_code mk130 := by
  unfold mv_decs
  decide +kernel
theorem vg131 : mv_goods 131 mk131 = true := by decide +kernel
theorem vd131 : mv_decs prog_1_method_19_code mk131 := by
  unfold mv_decs
  decide +kernel
theorem vg132 : mv_goods 132 mk132 = true := by decide +kernel
theorem vd132 : mv_decs prog_2_method_15_code mk132 := by
  unfold mv_decs
  decide +kernel
theorem vg133 : mv_goods 133 mk133 = true := by decide +kernel
theorem vd133 : mv_decs prog_1_method_14_code mk133 := by
  unfold mv_decs
  decide +kernel
theorem vg134 : mv_goods 134 mk134 = true := by decide +kernel
theorem vd134 : mv_decs prog_5_method_17_code mk134 := by
  unfold mv_decs
  decide +kernel
theorem vg135 : mv_goods 135 mk135 = true := by decide +kernel
theorem vd135 : mv_decs prog_5_method_15_code mk135 := by
  unfold mv_decs
  decide +kernel
theorem vg136 : mv_goods 136 mk136 = true := by decide +kernel
theorem vd136 : mv_decs prog_1_method_28_code mk136 := by
  unfold mv_decs
  decide +kernel
theorem vg137 : mv_goods 137 mk137 = true := by decide +kernel
theorem vd137 : mv_decs prog_1_method_12_code mk137 := by
  unfold mv_decs
  decide +kernel
theorem vg138 : mv_goods 138 mk138 = true := by decide +kernel
theorem vd138 : mv_decs prog_1_method_3_code mk138 := by
  unfold mv_decs
  decide +kernel
theorem vg139 : mv_goods 139 mk139 = true := by decide +kernel
theorem vd139 : mv_decs prog_14_method_3_code mk139 := by
  unfold mv_decs
  decide +kernel
theorem vg140 : mv_goods 140 mk140 = true := by decide +kernel
theorem vd140 : mv_decs prog_8_method_31_code mk140 := by
  unfold mv_decs
  decide +kernel
theorem vg141 : mv_goods 141 mk141 = true := by decide +kernel
theorem vd141 : mv_decs prog_13_method_14_code mk141 := by
  unfold mv_decs
  decide +kernel
theorem vg142 : mv_goods 142 mk142 = true := by decide +kernel
theorem vd142 : mv_decs prog_1_method_2_code mk142 := by
  unfold mv_decs
  decide +kernel
theorem vg143 : mv_goods 143 mk143 = true := by decide +kernel
theorem vd143 : mv_decs prog_7_method_8_code mk143 := by
  unfold mv_decs
  decide +kernel
theorem vg144 : mv_goods 144 mk144 = true := by decide +kernel
theorem vd144 : mv_decs prog_7_method_2_code mk144 := by
  unfold mv_decs
  decide +kernel
theorem vg145 : mv_goods 145 mk145 = true := by decide +kernel
theorem vd145 : mv_decs prog_7_method_7_code mk145 := by
  unfold mv_decs
  decide +kernel
theorem vg146 : mv_goods 146 mk146 = true := by decide +kernel
theorem vd146 : mv_decs prog_7_method_9_code mk146 := by
  unfold mv_decs
  decide +kernel
theorem vg147 : mv_goods 147 mk147 = true := by decide +kernel
theorem vd147 : mv_decs prog_7_method_10_code mk147 := by
  unfold mv_decs
  decide +kernel
theorem vg148 : mv_goods 148 mk148 = true := by decide +kernel
theorem vd148 : mv_decs prog_7_method_3_code mk148 := by
  unfold mv_decs
  decide +kernel
theorem vg149 : mv_goods 149 mk149 = true := by decide +kernel
theorem vd149 : mv_decs prog_7_method_11_code mk149 := by
  unfold mv_decs
  decide +kernel
theorem vg150 : mv_goods 150 mk150 = true := by decide +kernel
theorem vd150 : mv_decs prog_7_method_12_code mk150 := by
  unfold mv_decs
  decide +kernel
theorem vg151 : mv_goods 151 mk151 = true := by decide +kernel
theorem vd151 : mv_decs prog_7_method_13_code mk151 := by
  unfold mv_decs
  decide +kernel
theorem vg152 : mv_goods 152 mk152 = true := by decide +kernel
theorem vd152 : mv_decs prog_7_method_14_code mk152 := by
  unfold mv_decs
  decide +kernel
theorem vg153 : mv_goods 153 mk153 = true := by decide +kernel
theorem vd153 : mv_decs prog_7_method_15_code mk153 := by
  unfold mv_decs
  decide +kernel
theorem vg154 : mv_goods 154 mk154 = true := by decide +kernel
theorem vd154 : mv_decs prog_7_method_17_code mk154 := by
  unfold mv_decs
  decide +kernel
theorem vg155 : mv_goods 155 mk155 = true := by decide +kernel
theorem mv_decs_take {b : ByteArray} : ∀ {cd : mv_Cd} {n : Nat}, mv_decs b (cd.take n) → mv_decs b (cd.drop n) → mv_decs b cd := by
  intro cd n h1 h2 q hq
  rw [← List.take_append_drop n cd] at hq
  rcases List.mem_append.mp hq with h | h
  · exact h1 q h
  · exact h2 q h
theorem vd155_0 : mv_decs prog_7_method_1_code ((mk155.drop 0).take 32) := by
  unfold mv_decs
  decide +kernel
theorem vd155_1 : mv_decs prog_7_method_1_code ((mk155.drop 32).take 32) := by
  unfold mv_decs
  decide +kernel
theorem vd155_2 : mv_decs prog_7_method_1_code ((mk155.drop 64).take 32) := by
  unfold mv_decs
  decide +kernel
theorem vd155_3 : mv_decs prog_7_method_1_code ((mk155.drop 96).take 32) := by
  unfold mv_decs
  decide +kernel
theorem vd155_4 : mv_decs prog_7_method_1_code ((mk155.drop 128).take 32) := by
  unfold mv_decs
  decide +kernel
theorem vd155_5 : mv_decs prog_7_method_1_code ((mk155.drop 160).take 32) := by
  unfold mv_decs
  decide +kernel
theorem vd155_6 : mv_decs prog_7_method_1_code ((mk155.drop 192).take 32) := by
  unfold mv_decs
  decide +kernel
theorem vd155_7 : mv_decs prog_7_method_1_code ((mk155.drop 224).take 32) := by
  unfold mv_decs
  decide +kernel
theorem vd155_8 : mv_decs prog_7_method_1_code ((mk155.drop 256).take 32) := by
  unfold mv_decs
  decide +kernel
theorem vd155_9 : mv_decs prog_7_method_1_code ((mk155.drop 288).take 32) := by
  unfold mv_decs
  decide +kernel
theorem vd155_10 : mv_decs prog_7_method_1_code ((mk155.drop 320).take 32) := by
  unfold mv_decs
  decide +kernel
theorem vd155_11 : mv_decs prog_7_method_1_code ((mk155.drop 352).take 32) := by
  unfold mv_decs
  decide +kernel
theorem vd155_12 : mv_decs prog_7_method_1_code ((mk155.drop 384).take 32) := by
  unfold mv_decs
  decide +kernel
theorem vd155_13 : mv_decs prog_7_method_1_code ((mk155.drop 416).take 32) := by
  unfold mv_decs
  decide +kernel
theorem vd155_14 : mv_decs prog_7_method_1_code ((mk155.drop 448).take 32) := by
  unfold mv_decs
  decide +kernel
theorem vd155_15 : mv_decs prog_7_method_1_code ((mk155.drop 480).take 32) := by
  unfold mv_decs
  decide +kernel
theorem vd155 : mv_decs prog_7_method_1_code mk155 := by
  have z : mk155.drop 512 = [] := by decide +kernel
  have h16 : mv_decs prog_7_method_1_code (mk155.drop 512) := by rw [z]; intro q hq; cases hq
  have h15 : mv_decs prog_7_method_1_code (mk155.drop 480) := mv_decs_take (n := 32) vd155_15 (by rw [List.drop_drop]; exact h16)
  have h14 : mv_decs prog_7_method_1_code (mk155.drop 448) := mv_decs_take (n := 32) vd155_14 (by rw [List.drop_drop]; exact h15)
  have h13 : mv_decs prog_7_method_1_code (mk155.drop 416) := mv_decs_take (n := 32) vd155_13 (by rw [List.drop_drop]; exact h14)
  have h12 : mv_decs prog_7_method_1_code (mk155.drop 384) := mv_decs_take (n := 32) vd155_12 (by rw [List.drop_drop]; exact h13)
  have h11 : mv_decs prog_7_method_1_code (mk155.drop 352) := mv_decs_take (n := 32) vd155_11 (by rw [List.drop_drop]; exact h12)
  have h10 : mv_decs prog_7_method_1_code (mk155.drop 320) := mv_decs_take (n := 32) vd155_10 (by rw [List.drop_drop]; exact h11)
  have h9 : mv_decs prog_7_method_1_code (mk155.drop 288) := mv_decs_take (n := 32) vd155_9 (by rw [List.drop_drop]; exact h10)
  have h8 : mv_decs prog_7_method_1_code (mk155.drop 256) := mv_decs_take (n := 32) vd155_8 (by rw [List.drop_drop]; exact h9)
  have h7 : mv_decs prog_7_method_1_code (mk155.drop 224) := mv_decs_take (n := 32) vd155_7 (by rw [List.drop_drop]; exact h8)
  have h6 : mv_decs prog_7_method_1_code (mk155.drop 192) := mv_decs_take (n := 32) vd155_6 (by rw [List.drop_drop]; exact h7)
  have h5 : mv_decs prog_7_method_1_code (mk155.drop 160) := mv_decs_take (n := 32) vd155_5 (by rw [List.drop_drop]; exact h6)
  have h4 : mv_decs prog_7_method_1_code (mk155.drop 128) := mv_decs_take (n := 32) vd155_4 (by rw [List.drop_drop]; exact h5)
  have h3 : mv_decs prog_7_method_1_code (mk155.drop 96) := mv_decs_take (n := 32) vd155_3 (by rw [List.drop_drop]; exact h4)
  have h2 : mv_decs prog_7_method_1_code (mk155.drop 64) := mv_decs_take (n := 32) vd155_2 (by rw [List.drop_drop]; exact h3)
  have h1 : mv_decs prog_7_method_1_code (mk155.drop 32) := mv_decs_take (n := 32) vd155_1 (by rw [List.drop_drop]; exact h2)
  have h0 : mv_decs prog_7_method_1_code (mk155.drop 0) := mv_decs_take (n := 32) vd155_0 (by rw [List.drop_drop]; exact h1)
  exact h0
theorem vg156 : mv_goods 156 mk156 = true := by decide +kernel
theorem vd156 : mv_decs prog_7_method_35_code mk156 := by
  unfold mv_decs
  decide +kernel
theorem vg157 : mv_goods 157 mk157 = true := by decide +kernel
theorem vd157 : mv_decs prog_7_method_36_code mk157 := by
  unfold mv_decs
  decide +kernel
theorem vg158 : mv_goods 158 mk158 = true := by decide +kernel
theorem vd158 : mv_decs prog_7_method_21_code mk158 := by
  unfold mv_decs
  decide +kernel
theorem vg159 : mv_goods 159 mk159 = true := by decide +kernel
theorem vd159 : mv_decs prog_7_method_22_code mk159 := by
  unfold mv_decs
  decide +kernel
theorem vg160 : mv_goods 160 mk160 = true := by decide +kernel
theorem vd160 : mv_decs prog_7_method_23_code mk160 := by
  unfold mv_decs
  decide +kernel
theorem vg161 : mv_goods 161 mk161 = true := by decide +kernel
theorem vd161 : mv_decs prog_7_method_27_code mk161 := by
  unfold mv_decs
  decide +kernel
theorem vg162 : mv_goods 162 mk162 = true := by decide +kernel
theorem vd162 : mv_decs prog_7_method_24_code mk162 := by
  unfold mv_decs
  decide +kernel
