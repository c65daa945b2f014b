/-! every method keeps its contract -/
def mv_SS : List mv_Sp := [sp0, sp1, sp2, sp3, sp4, sp5, sp6, sp7, (fun _ _ _ _ => False), sp9, sp10, sp11, sp12, sp13, sp14, sp15, sp16, sp17, sp18, sp19, sp20, sp21, sp22, sp23, sp24, sp25, sp26, sp27, sp28, sp29, sp30, sp31, sp32, sp33, sp34, sp35, sp36, sp37, sp38, sp39, sp40, sp41, sp42, sp43, sp44, sp45, sp46, sp47, sp48, sp49, sp50, sp51, sp52, sp53, sp54, sp55, sp56, sp57, sp58, sp59, sp60, sp61, sp62, sp63, sp64, sp65, sp66, sp67, sp68, sp69, sp70, sp71, sp72, sp73, sp74, sp75, sp76, sp77, sp78, sp79, sp80, sp81, sp82, sp83, sp84, sp85, sp86, sp87, sp88, sp89, sp90, sp91, sp92, sp93, sp94, sp95, sp96, sp97, sp98, sp99, sp100, sp101, sp102, sp103, sp104, sp105, sp106, sp107, sp108, sp109, sp110, sp111, sp112, sp113, sp114, sp115, sp116, sp117, sp118, sp119, sp120, sp121, sp122, sp123, sp124, sp125, sp126, sp127, sp128, sp129, sp130, sp131, sp132, sp133, sp134, sp135, sp136, sp137, sp138, sp139, sp140, sp141, sp142, sp143, sp144, sp145, sp146, sp147, sp148, sp149, sp150, sp151, sp152, sp153, sp154, sp155, sp156, sp157, sp158, sp159, sp160, sp161, sp162, sp163, sp164, sp165, sp166, sp167, sp168, sp169, sp170, sp171, sp172, sp173, sp174, sp175, sp176, sp177, sp178, sp179, sp180, sp181, sp182, sp183, sp184, sp185, sp186, sp187, sp188, sp189, sp190, sp191, sp192, sp193, sp194, sp195, sp196, sp197, sp198, sp199, sp200, sp201, sp202, sp203, sp204, sp205, sp206, sp207, sp208, sp209, sp210, sp211, sp212, sp213, sp214, sp215]
def mv_S (k : Nat) : mv_Sp := mv_SS.getD k (fun _ _ _ _ => False)
theorem eS0 : mv_S 0 = sp0 := rfl
theorem eS1 : mv_S 1 = sp1 := rfl
theorem eS2 : mv_S 2 = sp2 := rfl
theorem eS3 : mv_S 3 = sp3 := rfl
theorem eS4 : mv_S 4 = sp4 := rfl
theorem eS5 : mv_S 5 = sp5 := rfl
theorem eS6 : mv_S 6 = sp6 := rfl
theorem eS7 : mv_S 7 = sp7 := rfl
theorem eS9 : mv_S 9 = sp9 := rfl
theorem eS10 : mv_S 10 = sp10 := rfl
theorem eS11 : mv_S 11 = sp11 := rfl
theorem eS12 : mv_S 12 = sp12 := rfl
theorem eS13 : mv_S 13 = sp13 := rfl
theorem eS14 : mv_S 14 = sp14 := rfl
theorem eS15 : mv_S 15 = sp15 := rfl
theorem eS16 : mv_S 16 = sp16 := rfl
theorem eS17 : mv_S 17 = sp17 := rfl
theorem eS18 : mv_S 18 = sp18 := rfl
theorem eS19 : mv_S 19 = sp19 := rfl
theorem eS20 : mv_S 20 = sp20 := rfl
theorem eS21 : mv_S 21 = sp21 := rfl
theorem eS22 : mv_S 22 = sp22 := rfl
theorem eS23 : mv_S 23 = sp23 := rfl
theorem eS24 : mv_S 24 = sp24 := rfl
theorem eS25 : mv_S 25 = sp25 := rfl
theorem eS26 : mv_S 26 = sp26 := rfl
theorem eS27 : mv_S 27 = sp27 := rfl
theorem eS28 : mv_S 28 = sp28 := rfl
theorem eS29 : mv_S 29 = sp29 := rfl
theorem eS30 : mv_S 30 = sp30 := rfl
theorem eS31 : mv_S 31 = sp31 := rfl
theorem eS32 : mv_S 32 = sp32 := rfl
theorem eS33 : mv_S 33 = sp33 := rfl
theorem eS34 : mv_S 34 = sp34 := rfl
theorem eS35 : mv_S 35 = sp35 := rfl
theorem eS36 : mv_S 36 = sp36 := rfl
theorem eS37 : mv_S 37 = sp37 := rfl
theorem eS38 : mv_S 38 = sp38 := rfl
theorem eS39 : mv_S 39 = sp39 := rfl
theorem eS40 : mv_S 40 = sp40 := rfl
theorem eS41 : mv_S 41 = sp41 := rfl
theorem eS42 : mv_S 42 = sp42 := rfl
theorem eS43 : mv_S 43 = sp43 := rfl
theorem eS44 : mv_S 44 = sp44 := rfl
theorem eS45 : mv_S 45 = sp45 := rfl
theorem eS46 : mv_S 46 = sp46 := rfl
theorem eS47 : mv_S 47 = sp47 := rfl
theorem eS48 : mv_S 48 = sp48 := rfl
theorem eS49 : mv_S 49 = sp49 := rfl
theorem eS50 : mv_S 50 = sp50 := rfl
theorem eS51 : mv_S 51 = sp51 := rfl
theorem eS52 : mv_S 52 = sp52 := rfl
theorem eS53 : mv_S 53 = sp53 := rfl
theorem eS54 : mv_S 54 = sp54 := rfl
theorem eS55 : mv_S 55 = sp55 := rfl
theorem eS56 : mv_S 56 = sp56 := rfl
theorem eS57 : mv_S 57 = sp57 := rfl
theorem eS58 : mv_S 58 = sp58 := rfl
theorem eS59 : mv_S 59 = sp59 := rfl
theorem eS60 : mv_S 60 = sp60 := rfl
theorem eS61 : mv_S 61 = sp61 := rfl
theorem eS62 : mv_S 62 = sp62 := rfl
theorem eS63 : mv_S 63 = sp63 := rfl
theorem eS64 : mv_S 64 = sp64 := rfl
theorem eS65 : mv_S 65 = sp65 := rfl
theorem eS66 : mv_S 66 = sp66 := rfl
theorem eS67 : mv_S 67 = sp67 := rfl
theorem eS68 : mv_S 68 = sp68 := rfl
theorem eS69 : mv_S 69 = sp69 := rfl
theorem eS70 : mv_S 70 = sp70 := rfl
theorem eS71 : mv_S 71 = sp71 := rfl
theorem eS72 : mv_S 72 = sp72 := rfl
theorem eS73 : mv_S 73 = sp73 := rfl
theorem eS74 : mv_S 74 = sp74 := rfl
theorem eS75 : mv_S 75 = sp75 := rfl
theorem eS76 : mv_S 76 = sp76 := rfl
theorem eS77 : mv_S 77 = sp77 := rfl
theorem eS78 : mv_S 78 = sp78 := rfl
theorem eS79 : mv_S 79 = sp79 := rfl
theorem eS80 : mv_S 80 = sp80 := rfl
theorem eS81 : mv_S 81 = sp81 := rfl
theorem eS82 : mv_S 82 = sp82 := rfl
theorem eS83 : mv_S 83 = sp83 := rfl
theorem eS84 : mv_S 84 = sp84 := rfl
theorem eS85 : mv_S 85 = sp85 := rfl
theorem eS86 : mv_S 86 = sp86 := rfl
theorem eS87 : mv_S 87 = sp87 := rfl
theorem eS88 : mv_S 88 = sp88 := rfl
theorem eS89 : mv_S 89 = sp89 := rfl
theorem eS90 : mv_S 90 = sp90 := rfl
theorem eS91 : mv_S 91 = sp91 := rfl
theorem eS92 : mv_S 92 = sp92 := rfl
theorem eS93 : mv_S 93 = sp93 := rfl
theorem eS94 : mv_S 94 = sp94 := rfl
theorem eS95 : mv_S 95 = sp95 := rfl
theorem eS96 : mv_S 96 = sp96 := rfl
theorem eS97 : mv_S 97 = sp97 := rfl
theorem eS98 : mv_S 98 = sp98 := rfl
theorem eS99 : mv_S 99 = sp99 := rfl
theorem eS100 : mv_S 100 = sp100 := rfl
theorem eS101 : mv_S 101 = sp101 := rfl
theorem eS102 : mv_S 102 = sp102 := rfl
theorem eS103 : mv_S 103 = sp103 := rfl
theorem eS104 : mv_S 104 = sp104 := rfl
theorem eS105 : mv_S 105 = sp105 := rfl
theorem eS106 : mv_S 106 = sp106 := rfl
theorem eS107 : mv_S 107 = sp107 := rfl
theorem eS108 : mv_S 108 = sp108 := rfl
theorem eS109 : mv_S 109 = sp109 := rfl
theorem eS110 : mv_S 110 = sp110 := rfl
theorem eS111 : mv_S 111 = sp111 := rfl
theorem eS112 : mv_S 112 = sp112 := rfl
theorem eS113 : mv_S 113 = sp113 := rfl
theorem eS114 : mv_S 114 = sp114 := rfl
theorem eS115 : mv_S 115 = sp115 := rfl
theorem eS116 : mv_S 116 = sp116 := rfl
theorem eS117 : mv_S 117 = sp117 := rfl
theorem eS118 : mv_S 118 = sp118 := rfl
theorem eS119 : mv_S 119 = sp119 := rfl
theorem eS120 : mv_S 120 = sp120 := rfl
theorem eS121 : mv_S 121 = sp121 := rfl
theorem eS122 : mv_S 122 = sp122 := rfl
theorem eS123 : mv_S 123 = sp123 := rfl
theorem eS124 : mv_S 124 = sp124 := rfl
theorem eS125 : mv_S 125 = sp125 := rfl
theorem eS126 : mv_S 126 = sp126 := rfl
theorem eS127 : mv_S 127 = sp127 := rfl
theorem eS128 : mv_S 128 = sp128 := rfl
theorem eS129 : mv_S 129 = sp129 := rfl
theorem eS130 : mv_S 130 = sp130 := rfl
theorem eS131 : mv_S 131 = sp131 := rfl
theorem eS132 : mv_S 132 = sp132 := rfl
theorem eS133 : mv_S 133 = sp133 := rfl
theorem eS134 : mv_S 134 = sp134 := rfl
theorem eS135 : mv_S 135 = sp135 := rfl
theorem eS136 : mv_S 136 = sp136 := rfl
theorem eS137 : mv_S 137 = sp137 := rfl
theorem eS138 : mv_S 138 = sp138 := rfl
theorem eS139 : mv_S 139 = sp139 := rfl
theorem eS140 : mv_S 140 = sp140 := rfl
theorem eS141 : mv_S 141 = sp141 := rfl
theorem eS142 : mv_S 142 = sp142 := rfl
theorem eS143 : mv_S 143 = sp143 := rfl
theorem eS144 : mv_S 144 = sp144 := rfl
theorem eS145 : mv_S 145 = sp145 := rfl
theorem eS146 : mv_S 146 = sp146 := rfl
theorem eS147 : mv_S 147 = sp147 := rfl
theorem eS148 : mv_S 148 = sp148 := rfl
theorem eS149 : mv_S 149 = sp149 := rfl
theorem eS150 : mv_S 150 = sp150 := rfl
theorem eS151 : mv_S 151 = sp151 := rfl
theorem eS152 : mv_S 152 = sp152 := rfl
theorem eS153 : mv_S 153 = sp153 := rfl
theorem eS154 : mv_S 154 = sp154 := rfl
theorem eS155 : mv_S 155 = sp155 := rfl
theorem eS156 : mv_S 156 = sp156 := rfl
theorem eS157 : mv_S 157 = sp157 := rfl
theorem eS158 : mv_S 158 = sp158 := rfl
theorem eS159 : mv_S 159 = sp159 := rfl
theorem eS160 : mv_S 160 = sp160 := rfl
theorem eS161 : mv_S 161 = sp161 := rfl
theorem eS162 : mv_S 162 = sp162 := rfl
theorem eS163 : mv_S 163 = sp163 := rfl
theorem eS164 : mv_S 164 = sp164 := rfl
theorem eS165 : mv_S 165 = sp165 := rfl
theorem eS166 : mv_S 166 = sp166 := rfl
theorem eS167 : mv_S 167 = sp167 := rfl
theorem eS168 : mv_S 168 = sp168 := rfl
theorem eS169 : mv_S 169 = sp169 := rfl
theorem eS170 : mv_S 170 = sp170 := rfl
theorem eS171 : mv_S 171 = sp171 := rfl
theorem eS172 : mv_S 172 = sp172 := rfl
theorem eS173 : mv_S 173 = sp173 := rfl
theorem eS174 : mv_S 174 = sp174 := rfl
theorem eS175 : mv_S 175 = sp175 := rfl
theorem eS176 : mv_S 176 = sp176 := rfl
theorem eS177 : mv_S 177 = sp177 := rfl
theorem eS178 : mv_S 178 = sp178 := rfl
theorem eS179 : mv_S 179 = sp179 := rfl
theorem eS180 : mv_S 180 = sp180 := rfl
theorem eS181 : mv_S 181 = sp181 := rfl
theorem eS182 : mv_S 182 = sp182 := rfl
theorem eS183 : mv_S 183 = sp183 := rfl
theorem eS184 : mv_S 184 = sp184 := rfl
theorem eS185 : mv_S 185 = sp185 := rfl
theorem eS186 : mv_S 186 = sp186 := rfl
theorem eS187 : mv_S 187 = sp187 := rfl
theorem eS188 : mv_S 188 = sp188 := rfl
theorem eS189 : mv_S 189 = sp189 := rfl
theorem eS190 : mv_S 190 = sp190 := rfl
theorem eS191 : mv_S 191 = sp191 := rfl
theorem eS192 : mv_S 192 = sp192 := rfl
theorem eS193 : mv_S 193 = sp193 := rfl
theorem eS194 : mv_S 194 = sp194 := rfl
theorem eS195 : mv_S 195 = sp195 := rfl
theorem eS196 : mv_S 196 = sp196 := rfl
theorem eS197 : mv_S 197 = sp197 := rfl
theorem eS198 : mv_S 198 = sp198 := rfl
theorem eS199 : mv_S 199 = sp199 := rfl
theorem eS200 : mv_S 200 = sp200 := rfl
theorem eS201 : mv_S 201 = sp201 := rfl
theorem eS202 : mv_S 202 = sp202 := rfl
theorem eS203 : mv_S 203 = sp203 := rfl
theorem eS204 : mv_S 204 = sp204 := rfl
theorem eS205 : mv_S 205 = sp205 := rfl
theorem eS206 : mv_S 206 = sp206 := rfl
theorem eS207 : mv_S 207 = sp207 := rfl
theorem eS208 : mv_S 208 = sp208 := rfl
theorem eS209 : mv_S 209 = sp209 := rfl
theorem eS210 : mv_S 210 = sp210 := rfl
theorem eS211 : mv_S 211 = sp211 := rfl
theorem eS212 : mv_S 212 = sp212 := rfl
theorem eS213 : mv_S 213 = sp213 := rfl
theorem eS214 : mv_S 214 = sp214 := rfl
theorem eS215 : mv_S 215 = sp215 := rfl
section
variable {l : Launch}
theorem uS0 : ∀ j, j < 0 → mv_Ok l j (mv_S j) := fun j h => absurd h (Nat.not_lt_zero j)
theorem uS_up {k n : Nat} (h : ∀ j, j < k → mv_Ok l j (mv_S j)) (hk : mv_Ok l k (mv_S k)) (hn : n = k + 1) : ∀ j, j < n → mv_Ok l j (mv_S j) := by
  subst hn
  intro j hj
  rcases Nat.lt_succ_iff_lt_or_eq.mp hj with c | c
  · exact h j c
  · subst c; exact hk
theorem oS0 : mv_Ok l 0 (mv_S 0) := by
  rw [eS0]
  exact mv_met (mt := (⟨"java/lang/AbstractStringBuilder", "<init>", "(I)V"⟩, prog_8_method_2_code, 2, none, { frames := 1, cells := 1, slots := 16, locals := 26 })) rfl (by decide +kernel) vg0 vd0 (S := mv_S) uS0 (ctz0)
theorem uS1 : ∀ j, j < 1 → mv_Ok l j (mv_S j) := uS_up uS0 oS0 rfl
theorem oS1 : mv_Ok l 1 (mv_S 1) := by
  rw [eS1]
  exact mv_met (mt := (⟨"java/lang/StringBuilder", "<init>", "()V"⟩, prog_13_method_1_code, 1, none, { frames := 2, cells := 1, slots := 16, locals := 47 })) rfl (by decide +kernel) vg1 vd1 (S := mv_S) uS1 (ct1 eS0)
theorem uS2 : ∀ j, j < 2 → mv_Ok l j (mv_S j) := uS_up uS1 oS1 rfl
theorem oS2 : mv_Ok l 2 (mv_S 2) := by
  rw [eS2]
  exact mv_met (mt := (⟨"TurnedTablets$Loom", "<init>", "()V"⟩, prog_3_method_1_code, 1, none, { frames := 1, cells := 6, slots := 74, locals := 26 })) rfl (by decide +kernel) vg2 vd2 (S := mv_S) uS2 (ct2)
theorem uS3 : ∀ j, j < 3 → mv_Ok l j (mv_S j) := uS_up uS2 oS2 rfl
theorem oS3 : mv_Ok l 3 (mv_S 3) := by
  rw [eS3]
  exact mv_met (mt := (⟨"TurnedTablets$Reader", "<init>", "(Ljava/lang/StringBuilder;)V"⟩, prog_4_method_1_code, 2, none, { frames := 2, cells := 7, slots := 84, locals := 46 })) rfl (by decide +kernel) vg3 vd3 (S := mv_S) uS3 (ct3 eS2)
theorem uS4 : ∀ j, j < 4 → mv_Ok l j (mv_S j) := uS_up uS3 oS3 rfl
theorem oS4 : mv_Ok l 4 (mv_S 4) := by
  rw [eS4]
  exact mv_met (mt := (⟨"TurnedTablets$Cloth", "<init>", "()V"⟩, prog_2_method_1_code, 1, none, { frames := 1, cells := 2, slots := 798, locals := 26 })) rfl (by decide +kernel) vg4 vd4 (S := mv_S) uS4 (ct4)
theorem uS5 : ∀ j, j < 5 → mv_Ok l j (mv_S j) := uS_up uS4 oS4 rfl
theorem oS5 : mv_Ok l 5 (mv_S 5) := by
  rw [eS5]
  exact mv_met (mt := (⟨"TurnedTablets$Search", "<init>", "()V"⟩, prog_5_method_1_code, 1, none, { frames := 1, cells := 3, slots := 8204, locals := 26 })) rfl (by decide +kernel) vg5 vd5 (S := mv_S) uS5 (ct5)
theorem uS6 : ∀ j, j < 6 → mv_Ok l j (mv_S j) := uS_up uS5 oS5 rfl
theorem oS6 : mv_Ok l 6 (mv_S 6) := by
  rw [eS6]
  exact mv_met (mt := (⟨"java/lang/String", "coder", "()B"⟩, prog_12_method_152_code, 1, (some .byte), { frames := 0, cells := 0, slots := 0, locals := 0 })) rfl (by decide +kernel) vg6 vd6 (S := mv_S) uS6 (ct6)
theorem uS7 : ∀ j, j < 7 → mv_Ok l j (mv_S j) := uS_up uS6 oS6 rfl
theorem oS7 : mv_Ok l 7 (mv_S 7) := by
  rw [eS7]
  exact mv_met (mt := (⟨"java/lang/String", "length", "()I"⟩, prog_12_method_54_code, 1, (some .int), { frames := 1, cells := 0, slots := 0, locals := 20 })) rfl (by decide +kernel) vg7 vd7 (S := mv_S) uS7 (ct7 eS6)
theorem uS8 : ∀ j, j < 8 → mv_Ok l j (mv_S j) := uS_up uS7 oS7 rfl
theorem oS8 : mv_Ok l 8 (mv_S 8) := fun _ _ _ _ _ _ h => h.elim
theorem uS9 : ∀ j, j < 9 → mv_Ok l j (mv_S j) := uS_up uS8 oS8 rfl
theorem oS9 : mv_Ok l 9 (mv_S 9) := by
  rw [eS9]
  exact ok9 uS9
theorem uS10 : ∀ j, j < 10 → mv_Ok l j (mv_S j) := uS_up uS9 oS9 rfl
theorem oS10 : mv_Ok l 10 (mv_S 10) := by
  rw [eS10]
  exact mv_met (mt := (⟨"java/lang/AbstractStringBuilder", "newCapacity", "(I)I"⟩, prog_8_method_10_code, 6, (some .int), { frames := 2, cells := 0, slots := 0, locals := 44 })) rfl (by decide +kernel) vg10 vd10 (S := mv_S) uS10 (ct10 eS9)
theorem uS11 : ∀ j, j < 11 → mv_Ok l j (mv_S j) := uS_up uS10 oS10 rfl
theorem oS11 : mv_Ok l 11 (mv_S 11) := by
  rw [eS11]
  exact mv_met (mt := (⟨"java/util/Arrays", "copyOf", "([BI)[B"⟩, prog_17_method_121_code, 3, (some (.array .byte)), { frames := 1, cells := 1, slots := 96, locals := 26 })) rfl (by decide +kernel) vg11 vd11 (S := mv_S) uS11 (ct11)
theorem uS12 : ∀ j, j < 12 → mv_Ok l j (mv_S j) := uS_up uS11 oS11 rfl
theorem oS12 : mv_Ok l 12 (mv_S 12) := by
  rw [eS12]
  exact mv_met (mt := (⟨"java/lang/AbstractStringBuilder", "ensureCapacityInternal", "(I)V"⟩, prog_8_method_9_code, 3, none, { frames := 3, cells := 1, slots := 96, locals := 69 })) rfl (by decide +kernel) vg12 vd12 (S := mv_S) uS12 (ct12 eS10 eS11)
theorem uS13 : ∀ j, j < 13 → mv_Ok l j (mv_S j) := uS_up uS12 oS12 rfl
theorem oS13 : mv_Ok l 13 (mv_S 13) := by
  rw [eS13]
  exact mv_met (mt := (⟨"java/lang/AbstractStringBuilder", "inflateIfNeededFor", "(Ljava/lang/String;)V"⟩, prog_8_method_71_code, 2, none, { frames := 1, cells := 0, slots := 0, locals := 20 })) rfl (by decide +kernel) vg13 vd13 (S := mv_S) uS13 (ct13 eS6)
theorem uS14 : ∀ j, j < 14 → mv_Ok l j (mv_S j) := uS_up uS13 oS13 rfl
theorem oS14 : mv_Ok l 14 (mv_S 14) := by
  rw [eS14]
  exact mv_met (mt := (⟨"java/lang/String", "getBytes", "([BIB)V"⟩, prog_12_method_147_code, 4, none, { frames := 1, cells := 0, slots := 0, locals := 26 })) rfl (by decide +kernel) vg14 vd14 (S := mv_S) uS14 (ct14 eS6)
theorem uS15 : ∀ j, j < 15 → mv_Ok l j (mv_S j) := uS_up uS14 oS14 rfl
theorem oS15 : mv_Ok l 15 (mv_S 15) := by
  rw [eS15]
  exact mv_met (mt := (⟨"java/lang/AbstractStringBuilder", "putStringAt", "(ILjava/lang/String;)V"⟩, prog_8_method_73_code, 3, none, { frames := 2, cells := 0, slots := 0, locals := 49 })) rfl (by decide +kernel) vg15 vd15 (S := mv_S) uS15 (ct15 eS13 eS14)
theorem uS16 : ∀ j, j < 16 → mv_Ok l j (mv_S j) := uS_up uS15 oS15 rfl
theorem oS16 : mv_Ok l 16 (mv_S 16) := by
  rw [eS16]
  exact mv_met (mt := (⟨"java/lang/AbstractStringBuilder", "append", "(Ljava/lang/String;)Ljava/lang/AbstractStringBuilder;"⟩, prog_8_method_22_code, 3, (some (.object "java/lang/AbstractStringBuilder")), { frames := 4, cells := 1, slots := 96, locals := 91 })) rfl (by decide +kernel) vg16 vd16 (S := mv_S) uS16 (ct16 eS7 eS12 eS15)
theorem uS17 : ∀ j, j < 17 → mv_Ok l j (mv_S j) := uS_up uS16 oS16 rfl
theorem oS17 : mv_Ok l 17 (mv_S 17) := by
  rw [eS17]
  exact mv_met (mt := (⟨"java/lang/StringBuilder", "append", "(Ljava/lang/String;)Ljava/lang/StringBuilder;"⟩, prog_13_method_7_code, 2, (some (.object "java/lang/StringBuilder")), { frames := 5, cells := 1, slots := 96, locals := 113 })) rfl (by decide +kernel) vg17 vd17 (S := mv_S) uS17 (ct17 eS16)
theorem uS18 : ∀ j, j < 18 → mv_Ok l j (mv_S j) := uS_up uS17 oS17 rfl
theorem oS18 : mv_Ok l 18 (mv_S 18) := by
  rw [eS18]
  exact mv_met (mt := (⟨"TurnedTablets$Loom", "clear", "()V"⟩, prog_3_method_2_code, 1, none, { frames := 0, cells := 0, slots := 0, locals := 0 })) rfl (by decide +kernel) vg18 vd18 (S := mv_S) uS18 (ct18)
theorem uS19 : ∀ j, j < 19 → mv_Ok l j (mv_S j) := uS_up uS18 oS18 rfl
theorem oS19 : mv_Ok l 19 (mv_S 19) := by
  rw [eS19]
  exact mv_met (mt := (⟨"java/lang/AbstractStringBuilder", "length", "()I"⟩, prog_8_method_6_code, 1, (some .int), { frames := 0, cells := 0, slots := 0, locals := 0 })) rfl (by decide +kernel) vg19 vd19 (S := mv_S) uS19 (ct19)
theorem uS20 : ∀ j, j < 20 → mv_Ok l j (mv_S j) := uS_up uS19 oS19 rfl
theorem oS20 : mv_Ok l 20 (mv_S 20) := by
  rw [eS20]
  exact mv_met (mt := (⟨"java/lang/StringBuilder", "length", "()I"⟩, prog_13_method_93_code, 1, (some .int), { frames := 1, cells := 0, slots := 0, locals := 20 })) rfl (by decide +kernel) vg20 vd20 (S := mv_S) uS20 (ct20 eS19)
theorem uS21 : ∀ j, j < 21 → mv_Ok l j (mv_S j) := uS_up uS20 oS20 rfl
theorem oS21 : mv_Ok l 21 (mv_S 21) := by
  rw [eS21]
  exact mv_met (mt := (⟨"jdk/internal/util/Preconditions", "checkIndex", "(IILjava/util/function/BiFunction;)I"⟩, prog_19_method_11_code, 3, (some .int), { frames := 0, cells := 0, slots := 0, locals := 0 })) rfl (by decide +kernel) vg21 vd21 (S := mv_S) uS21 (ct21)
theorem uS22 : ∀ j, j < 22 → mv_Ok l j (mv_S j) := uS_up uS21 oS21 rfl
theorem oS22 : mv_Ok l 22 (mv_S 22) := by
  rw [eS22]
  exact mv_met (mt := (⟨"java/lang/String", "checkIndex", "(II)V"⟩, prog_12_method_155_code, 2, none, { frames := 1, cells := 0, slots := 0, locals := 22 })) rfl (by decide +kernel) vg22 vd22 (S := mv_S) uS22 (ct22 eS21)
theorem uS23 : ∀ j, j < 23 → mv_Ok l j (mv_S j) := uS_up uS22 oS22 rfl
theorem oS23 : mv_Ok l 23 (mv_S 23) := by
  rw [eS23]
  exact mv_met (mt := (⟨"java/lang/AbstractStringBuilder", "charAt", "(I)C"⟩, prog_8_method_14_code, 5, (some .char), { frames := 2, cells := 0, slots := 0, locals := 43 })) rfl (by decide +kernel) vg23 vd23 (S := mv_S) uS23 (ct23 eS22)
theorem uS24 : ∀ j, j < 24 → mv_Ok l j (mv_S j) := uS_up uS23 oS23 rfl
theorem oS24 : mv_Ok l 24 (mv_S 24) := by
  rw [eS24]
  exact mv_met (mt := (⟨"java/lang/StringBuilder", "charAt", "(I)C"⟩, prog_13_method_88_code, 2, (some .char), { frames := 3, cells := 0, slots := 0, locals := 67 })) rfl (by decide +kernel) vg24 vd24 (S := mv_S) uS24 (ct24 eS23)
theorem uS25 : ∀ j, j < 25 → mv_Ok l j (mv_S j) := uS_up uS24 oS24 rfl
theorem oS25 : mv_Ok l 25 (mv_S 25) := by
  rw [eS25]
  exact mv_met (mt := (⟨"TurnedTablets$Reader", "letterHere", "()I"⟩, prog_4_method_9_code, 1, (some .int), { frames := 4, cells := 0, slots := 0, locals := 88 })) rfl (by decide +kernel) vg25 vd25 (S := mv_S) uS25 (ct25 eS20 eS24)
theorem uS26 : ∀ j, j < 26 → mv_Ok l j (mv_S j) := uS_up uS25 oS25 rfl
theorem oS26 : mv_Ok l 26 (mv_S 26) := by
  rw [eS26]
  exact mv_met (mt := (⟨"TurnedTablets$Reader", "nextLetter", "()I"⟩, prog_4_method_10_code, 2, (some .int), { frames := 5, cells := 0, slots := 0, locals := 108 })) rfl (by decide +kernel) vg26 vd26 (S := mv_S) uS26 (ct26 eS20 eS25)
theorem uS27 : ∀ j, j < 27 → mv_Ok l j (mv_S j) := uS_up uS26 oS26 rfl
theorem oS27 : mv_Ok l 27 (mv_S 27) := by
  rw [eS27]
  exact mv_met (mt := (⟨"TurnedTablets$Reader", "readFigure", "()I"⟩, prog_4_method_11_code, 2, (some .int), { frames := 5, cells := 0, slots := 0, locals := 108 })) rfl (by decide +kernel) vg27 vd27 (S := mv_S) uS27 (ct27 eS25)
theorem uS28 : ∀ j, j < 28 → mv_Ok l j (mv_S j) := uS_up uS27 oS27 rfl
theorem oS28 : mv_Ok l 28 (mv_S 28) := by
  rw [eS28]
  exact mv_met (mt := (⟨"TurnedTablets$Reader", "readNumber", "()I"⟩, prog_4_method_12_code, 3, (some .int), { frames := 6, cells := 0, slots := 0, locals := 129 })) rfl (by decide +kernel) vg28 vd28 (S := mv_S) uS28 (ct28 eS27)
theorem uS29 : ∀ j, j < 29 → mv_Ok l j (mv_S j) := uS_up uS28 oS28 rfl
theorem oS29 : mv_Ok l 29 (mv_S 29) := by
  rw [eS29]
  exact mv_met (mt := (⟨"TurnedTablets$Loom", "colour", "(II)I"⟩, prog_3_method_6_code, 3, (some .int), { frames := 0, cells := 0, slots := 0, locals := 0 })) rfl (by decide +kernel) vg29 vd29 (S := mv_S) uS29 (ct29)
theorem uS30 : ∀ j, j < 30 → mv_Ok l j (mv_S j) := uS_up uS29 oS29 rfl
theorem oS30 : mv_Ok l 30 (mv_S 30) := by
  rw [eS30]
  exact mv_met (mt := (⟨"TurnedTablets$Loom", "findFirstAlike", "(II)I"⟩, prog_3_method_13_code, 4, (some .int), { frames := 1, cells := 0, slots := 0, locals := 22 })) rfl (by decide +kernel) vg30 vd30 (S := mv_S) uS30 (ct30 eS29)
theorem uS31 : ∀ j, j < 31 → mv_Ok l j (mv_S j) := uS_up uS30 oS30 rfl
theorem oS31 : mv_Ok l 31 (mv_S 31) := by
  rw [eS31]
  exact mv_met (mt := (⟨"TurnedTablets$Loom", "addTablet", "(III)Z"⟩, prog_3_method_12_code, 6, (some .boolean), { frames := 2, cells := 0, slots := 0, locals := 45 })) rfl (by decide +kernel) vg31 vd31 (S := mv_S) uS31 (ct31 eS30)
theorem uS32 : ∀ j, j < 32 → mv_Ok l j (mv_S j) := uS_up uS31 oS31 rfl
theorem oS32 : mv_Ok l 32 (mv_S 32) := by
  rw [eS32]
  exact mv_met (mt := (⟨"TurnedTablets$Reader", "readTablet", "()Z"⟩, prog_4_method_4_code, 6, (some .boolean), { frames := 7, cells := 0, slots := 0, locals := 151 })) rfl (by decide +kernel) vg32 vd32 (S := mv_S) uS32 (ct32 eS26 eS27 eS28 eS31)
theorem uS33 : ∀ j, j < 33 → mv_Ok l j (mv_S j) := uS_up uS32 oS32 rfl
theorem oS33 : mv_Ok l 33 (mv_S 33) := by
  rw [eS33]
  exact mv_met (mt := (⟨"TurnedTablets$Loom", "addPack", "(I)Z"⟩, prog_3_method_14_code, 2, (some .boolean), { frames := 0, cells := 0, slots := 0, locals := 0 })) rfl (by decide +kernel) vg33 vd33 (S := mv_S) uS33 (ct33)
theorem uS34 : ∀ j, j < 34 → mv_Ok l j (mv_S j) := uS_up uS33 oS33 rfl
theorem oS34 : mv_Ok l 34 (mv_S 34) := by
  rw [eS34]
  exact mv_met (mt := (⟨"TurnedTablets$Reader", "readPack", "()Z"⟩, prog_4_method_5_code, 4, (some .boolean), { frames := 6, cells := 0, slots := 0, locals := 129 })) rfl (by decide +kernel) vg34 vd34 (S := mv_S) uS34 (ct34 eS25 eS26 eS27 eS33)
theorem uS35 : ∀ j, j < 35 → mv_Ok l j (mv_S j) := uS_up uS34 oS34 rfl
theorem oS35 : mv_Ok l 35 (mv_S 35) := by
  rw [eS35]
  exact mv_met (mt := (⟨"TurnedTablets$Reader", "readLimit", "()Z"⟩, prog_4_method_6_code, 2, (some .boolean), { frames := 7, cells := 0, slots := 0, locals := 151 })) rfl (by decide +kernel) vg35 vd35 (S := mv_S) uS35 (ct35 eS26 eS28)
theorem uS36 : ∀ j, j < 36 → mv_Ok l j (mv_S j) := uS_up uS35 oS35 rfl
theorem oS36 : mv_Ok l 36 (mv_S 36) := by
  rw [eS36]
  exact mv_met (mt := (⟨"TurnedTablets$Reader", "wayOf", "(I)I"⟩, prog_4_method_8_code, 1, (some .int), { frames := 0, cells := 0, slots := 0, locals := 0 })) rfl (by decide +kernel) vg36 vd36 (S := mv_S) uS36 (ct36)
theorem uS37 : ∀ j, j < 37 → mv_Ok l j (mv_S j) := uS_up uS36 oS36 rfl
theorem oS37 : mv_Ok l 37 (mv_S 37) := by
  rw [eS37]
  exact mv_met (mt := (⟨"TurnedTablets$Loom", "addPick", "(II)Z"⟩, prog_3_method_15_code, 3, (some .boolean), { frames := 0, cells := 0, slots := 0, locals := 0 })) rfl (by decide +kernel) vg37 vd37 (S := mv_S) uS37 (ct37)
theorem uS38 : ∀ j, j < 38 → mv_Ok l j (mv_S j) := uS_up uS37 oS37 rfl
theorem oS38 : mv_Ok l 38 (mv_S 38) := by
  rw [eS38]
  exact mv_met (mt := (⟨"TurnedTablets$Reader", "readDraft", "()Z"⟩, prog_4_method_7_code, 4, (some .boolean), { frames := 6, cells := 0, slots := 0, locals := 129 })) rfl (by decide +kernel) vg38 vd38 (S := mv_S) uS38 (ct38 eS25 eS26 eS27 eS36 eS37)
theorem uS39 : ∀ j, j < 39 → mv_Ok l j (mv_S j) := uS_up uS38 oS38 rfl
theorem oS39 : mv_Ok l 39 (mv_S 39) := by
  rw [eS39]
  exact mv_met (mt := (⟨"TurnedTablets$Reader", "readItem", "()Z"⟩, prog_4_method_3_code, 1, (some .boolean), { frames := 8, cells := 0, slots := 0, locals := 176 })) rfl (by decide +kernel) vg39 vd39 (S := mv_S) uS39 (ct39 eS26 eS32 eS34 eS35 eS38)
theorem uS40 : ∀ j, j < 40 → mv_Ok l j (mv_S j) := uS_up uS39 oS39 rfl
theorem oS40 : mv_Ok l 40 (mv_S 40) := by
  rw [eS40]
  exact mv_met (mt := (⟨"TurnedTablets$Reader", "readText", "()I"⟩, prog_4_method_2_code, 3, (some .int), { frames := 9, cells := 0, slots := 0, locals := 196 })) rfl (by decide +kernel) vg40 vd40 (S := mv_S) uS40 (ct40 eS18 eS20 eS39)
theorem uS41 : ∀ j, j < 41 → mv_Ok l j (mv_S j) := uS_up uS40 oS40 rfl
theorem oS41 : mv_Ok l 41 (mv_S 41) := by
  rw [eS41]
  exact mv_met (mt := (⟨"TurnedTablets$Loom", "copyFrom", "(LTurnedTablets$Loom;)V"⟩, prog_3_method_3_code, 2, none, { frames := 1, cells := 0, slots := 0, locals := 26 })) rfl (by decide +kernel) vg41 vd41 (S := mv_S) uS41 (ct41)
theorem uS42 : ∀ j, j < 42 → mv_Ok l j (mv_S j) := uS_up uS41 oS41 rfl
theorem oS42 : mv_Ok l 42 (mv_S 42) := by
  rw [eS42]
  exact mv_met (mt := (⟨"java/util/Arrays", "fill", "([II)V"⟩, prog_17_method_103_code, 4, none, { frames := 0, cells := 0, slots := 0, locals := 0 })) rfl (by decide +kernel) vg42 vd42 (S := mv_S) uS42 (ct42)
theorem uS43 : ∀ j, j < 43 → mv_Ok l j (mv_S j) := uS_up uS42 oS42 rfl
theorem oS43 : mv_Ok l 43 (mv_S 43) := by
  rw [eS43]
  exact mv_met (mt := (⟨"TurnedTablets$Loom", "threading", "(I)I"⟩, prog_3_method_5_code, 2, (some .int), { frames := 0, cells := 0, slots := 0, locals := 0 })) rfl (by decide +kernel) vg43 vd43 (S := mv_S) uS43 (ct43)
theorem uS44 : ∀ j, j < 44 → mv_Ok l j (mv_S j) := uS_up uS43 oS43 rfl
theorem oS44 : mv_Ok l 44 (mv_S 44) := by
  rw [eS44]
  exact mv_met (mt := (⟨"TurnedTablets$Cloth", "set", "(III)V"⟩, prog_2_method_5_code, 4, none, { frames := 0, cells := 0, slots := 0, locals := 0 })) rfl (by decide +kernel) vg44 vd44 (S := mv_S) uS44 (ct44)
theorem uS45 : ∀ j, j < 45 → mv_Ok l j (mv_S j) := uS_up uS44 oS44 rfl
theorem oS45 : mv_Ok l 45 (mv_S 45) := by
  rw [eS45]
  exact mv_met (mt := (⟨"TurnedTablets$Cloth", "start", "(LTurnedTablets$Loom;)V"⟩, prog_2_method_2_code, 3, none, { frames := 1, cells := 0, slots := 0, locals := 23 })) rfl (by decide +kernel) vg45 vd45 (S := mv_S) uS45 (ct45 eS42 eS43 eS44)
theorem uS46 : ∀ j, j < 46 → mv_Ok l j (mv_S j) := uS_up uS45 oS45 rfl
theorem oS46 : mv_Ok l 46 (mv_S 46) := by
  rw [eS46]
  exact mv_met (mt := (⟨"TurnedTablets", "lay", "()I"⟩, prog_1_method_5_code, 1, (some .int), { frames := 10, cells := 0, slots := 0, locals := 218 })) rfl (by decide +kernel) vg46 vd46 (S := mv_S) uS46 (ct46 eS40 eS41 eS45)
theorem uS47 : ∀ j, j < 47 → mv_Ok l j (mv_S j) := uS_up uS46 oS46 rfl
theorem oS47 : mv_Ok l 47 (mv_S 47) := by
  rw [eS47]
  exact mv_met (mt := (⟨"java/lang/AbstractStringBuilder", "isLatin1", "()Z"⟩, prog_8_method_68_code, 1, (some .boolean), { frames := 0, cells := 0, slots := 0, locals := 0 })) rfl (by decide +kernel) vg47 vd47 (S := mv_S) uS47 (ct47)
theorem uS48 : ∀ j, j < 48 → mv_Ok l j (mv_S j) := uS_up uS47 oS47 rfl
theorem oS48 : mv_Ok l 48 (mv_S 48) := by
  rw [eS48]
  exact mv_met (mt := (⟨"java/lang/AbstractStringBuilder", "setLength", "(I)V"⟩, prog_8_method_13_code, 2, none, { frames := 4, cells := 1, slots := 96, locals := 91 })) rfl (by decide +kernel) vg48 vd48 (S := mv_S) uS48 (ct48 eS12 eS47)
theorem uS49 : ∀ j, j < 49 → mv_Ok l j (mv_S j) := uS_up uS48 oS48 rfl
theorem oS49 : mv_Ok l 49 (mv_S 49) := by
  rw [eS49]
  exact mv_met (mt := (⟨"java/lang/StringBuilder", "setLength", "(I)V"⟩, prog_13_method_89_code, 2, none, { frames := 5, cells := 1, slots := 96, locals := 112 })) rfl (by decide +kernel) vg49 vd49 (S := mv_S) uS49 (ct49 eS48)
theorem uS50 : ∀ j, j < 50 → mv_Ok l j (mv_S j) := uS_up uS49 oS49 rfl
theorem oS50 : mv_Ok l 50 (mv_S 50) := by
  rw [eS50]
  exact mv_met (mt := (⟨"TurnedTablets", "<init>", "()V"⟩, prog_1_method_1_code, 2, none, { frames := 11, cells := 62, slots := 18219, locals := 238 })) rfl (by decide +kernel) vg50 vd50 (S := mv_S) uS50 (ct50 eS1 eS2 eS3 eS4 eS5 eS17 eS46 eS49)
theorem uS51 : ∀ j, j < 51 → mv_Ok l j (mv_S j) := uS_up uS50 oS50 rfl
theorem oS51 : mv_Ok l 51 (mv_S 51) := by
  rw [eS51]
  exact mv_met (mt := (⟨"TurnedTablets", "addTops", "(II)I"⟩, prog_1_method_44_code, 2, (some .int), { frames := 0, cells := 0, slots := 0, locals := 0 })) rfl (by decide +kernel) vg51 vd51 (S := mv_S) uS51 (ct51)
theorem uS52 : ∀ j, j < 52 → mv_Ok l j (mv_S j) := uS_up uS51 oS51 rfl
theorem oS52 : mv_Ok l 52 (mv_S 52) := by
  rw [eS52]
  exact mv_met (mt := (⟨"TurnedTablets$Cloth", "copyFrom", "(LTurnedTablets$Cloth;)V"⟩, prog_2_method_3_code, 2, none, { frames := 1, cells := 0, slots := 0, locals := 26 })) rfl (by decide +kernel) vg52 vd52 (S := mv_S) uS52 (ct52)
theorem uS53 : ∀ j, j < 53 → mv_Ok l j (mv_S j) := uS_up uS52 oS52 rfl
theorem oS53 : mv_Ok l 53 (mv_S 53) := by
  rw [eS53]
  exact mv_met (mt := (⟨"TurnedTablets", "remember", "()V"⟩, prog_1_method_40_code, 1, none, { frames := 2, cells := 0, slots := 0, locals := 47 })) rfl (by decide +kernel) vg53 vd53 (S := mv_S) uS53 (ct53 eS52)
theorem uS54 : ∀ j, j < 54 → mv_Ok l j (mv_S j) := uS_up uS53 oS53 rfl
theorem oS54 : mv_Ok l 54 (mv_S 54) := by
  rw [eS54]
  exact mv_met (mt := (⟨"TurnedTablets$Loom", "pick", "(I)I"⟩, prog_3_method_9_code, 2, (some .int), { frames := 0, cells := 0, slots := 0, locals := 0 })) rfl (by decide +kernel) vg54 vd54 (S := mv_S) uS54 (ct54)
theorem uS55 : ∀ j, j < 55 → mv_Ok l j (mv_S j) := uS_up uS54 oS54 rfl
theorem oS55 : mv_Ok l 55 (mv_S 55) := by
  rw [eS55]
  exact mv_met (mt := (⟨"TurnedTablets$Loom", "pickPack", "(I)I"⟩, prog_3_method_10_code, 2, (some .int), { frames := 1, cells := 0, slots := 0, locals := 21 })) rfl (by decide +kernel) vg55 vd55 (S := mv_S) uS55 (ct55 eS54)
theorem uS56 : ∀ j, j < 56 → mv_Ok l j (mv_S j) := uS_up uS55 oS55 rfl
theorem oS56 : mv_Ok l 56 (mv_S 56) := by
  rw [eS56]
  exact mv_met (mt := (⟨"TurnedTablets$Loom", "pickWay", "(I)I"⟩, prog_3_method_11_code, 2, (some .int), { frames := 1, cells := 0, slots := 0, locals := 21 })) rfl (by decide +kernel) vg56 vd56 (S := mv_S) uS56 (ct56 eS54)
theorem uS57 : ∀ j, j < 57 → mv_Ok l j (mv_S j) := uS_up uS56 oS56 rfl
theorem oS57 : mv_Ok l 57 (mv_S 57) := by
  rw [eS57]
  exact mv_met (mt := (⟨"TurnedTablets$Loom", "members", "(I)I"⟩, prog_3_method_7_code, 2, (some .int), { frames := 0, cells := 0, slots := 0, locals := 0 })) rfl (by decide +kernel) vg57 vd57 (S := mv_S) uS57 (ct57)
theorem uS58 : ∀ j, j < 58 → mv_Ok l j (mv_S j) := uS_up uS57 oS57 rfl
theorem oS58 : mv_Ok l 58 (mv_S 58) := by
  rw [eS58]
  exact mv_met (mt := (⟨"TurnedTablets$Loom", "isMember", "(II)Z"⟩, prog_3_method_8_code, 3, (some .boolean), { frames := 1, cells := 0, slots := 0, locals := 21 })) rfl (by decide +kernel) vg58 vd58 (S := mv_S) uS58 (ct58 eS57)
theorem uS59 : ∀ j, j < 59 → mv_Ok l j (mv_S j) := uS_up uS58 oS58 rfl
theorem oS59 : mv_Ok l 59 (mv_S 59) := by
  rw [eS59]
  exact mv_met (mt := (⟨"TurnedTablets$Loom", "kind", "(I)I"⟩, prog_3_method_4_code, 2, (some .int), { frames := 0, cells := 0, slots := 0, locals := 0 })) rfl (by decide +kernel) vg59 vd59 (S := mv_S) uS59 (ct59)
theorem uS60 : ∀ j, j < 60 → mv_Ok l j (mv_S j) := uS_up uS59 oS59 rfl
theorem oS60 : mv_Ok l 60 (mv_S 60) := by
  rw [eS60]
  exact mv_met (mt := (⟨"TurnedTablets$Loom", "quarters", "(II)I"⟩, prog_3_method_16_code, 4, (some .int), { frames := 1, cells := 0, slots := 0, locals := 21 })) rfl (by decide +kernel) vg60 vd60 (S := mv_S) uS60 (ct60 eS59)
theorem uS61 : ∀ j, j < 61 → mv_Ok l j (mv_S j) := uS_up uS60 oS60 rfl
theorem oS61 : mv_Ok l 61 (mv_S 61) := by
  rw [eS61]
  exact mv_met (mt := (⟨"TurnedTablets$Cloth", "get", "(II)I"⟩, prog_2_method_4_code, 3, (some .int), { frames := 0, cells := 0, slots := 0, locals := 0 })) rfl (by decide +kernel) vg61 vd61 (S := mv_S) uS61 (ct61)
theorem uS62 : ∀ j, j < 62 → mv_Ok l j (mv_S j) := uS_up uS61 oS61 rfl
theorem oS62 : mv_Ok l 62 (mv_S 62) := by
  rw [eS62]
  exact mv_met (mt := (⟨"TurnedTablets$Cloth", "outcome", "(LTurnedTablets$Loom;II)I"⟩, prog_2_method_10_code, 5, (some .int), { frames := 2, cells := 0, slots := 0, locals := 44 })) rfl (by decide +kernel) vg62 vd62 (S := mv_S) uS62 (ct62 eS60 eS61)
theorem uS63 : ∀ j, j < 63 → mv_Ok l j (mv_S j) := uS_up uS62 oS62 rfl
theorem oS63 : mv_Ok l 63 (mv_S 63) := by
  rw [eS63]
  exact mv_met (mt := (⟨"TurnedTablets$Cloth", "turnTablet", "(LTurnedTablets$Loom;II)I"⟩, prog_2_method_12_code, 6, (some .int), { frames := 3, cells := 0, slots := 0, locals := 68 })) rfl (by decide +kernel) vg63 vd63 (S := mv_S) uS63 (ct63 eS44 eS60 eS61 eS62)
theorem uS64 : ∀ j, j < 64 → mv_Ok l j (mv_S j) := uS_up uS63 oS63 rfl
theorem oS64 : mv_Ok l 64 (mv_S 64) := by
  rw [eS64]
  exact mv_met (mt := (⟨"TurnedTablets$Cloth", "turnPack", "(LTurnedTablets$Loom;II)I"⟩, prog_2_method_13_code, 7, (some .int), { frames := 4, cells := 0, slots := 0, locals := 93 })) rfl (by decide +kernel) vg64 vd64 (S := mv_S) uS64 (ct64 eS44 eS58 eS61 eS63)
theorem uS65 : ∀ j, j < 65 → mv_Ok l j (mv_S j) := uS_up uS64 oS64 rfl
theorem oS65 : mv_Ok l 65 (mv_S 65) := by
  rw [eS65]
  exact mv_met (mt := (⟨"TurnedTablets", "topOf", "(II)I"⟩, prog_1_method_45_code, 2, (some .int), { frames := 0, cells := 0, slots := 0, locals := 0 })) rfl (by decide +kernel) vg65 vd65 (S := mv_S) uS65 (ct65)
theorem uS66 : ∀ j, j < 66 → mv_Ok l j (mv_S j) := uS_up uS65 oS65 rfl
theorem oS66 : mv_Ok l 66 (mv_S 66) := by
  rw [eS66]
  exact mv_met (mt := (⟨"TurnedTablets$Cloth", "tops", "()I"⟩, prog_2_method_8_code, 3, (some .int), { frames := 1, cells := 0, slots := 0, locals := 22 })) rfl (by decide +kernel) vg66 vd66 (S := mv_S) uS66 (ct66 eS61 eS65)
theorem uS67 : ∀ j, j < 67 → mv_Ok l j (mv_S j) := uS_up uS66 oS66 rfl
theorem oS67 : mv_Ok l 67 (mv_S 67) := by
  rw [eS67]
  exact mv_met (mt := (⟨"TurnedTablets$Loom", "coloursOf", "(I)I"⟩, prog_3_method_18_code, 4, (some .int), { frames := 1, cells := 0, slots := 0, locals := 22 })) rfl (by decide +kernel) vg67 vd67 (S := mv_S) uS67 (ct67 eS29)
theorem uS68 : ∀ j, j < 68 → mv_Ok l j (mv_S j) := uS_up uS67 oS67 rfl
theorem oS68 : mv_Ok l 68 (mv_S 68) := by
  rw [eS68]
  exact mv_met (mt := (⟨"TurnedTablets$Cloth", "slant", "(I)I"⟩, prog_2_method_6_code, 3, (some .int), { frames := 1, cells := 0, slots := 0, locals := 22 })) rfl (by decide +kernel) vg68 vd68 (S := mv_S) uS68 (ct68 eS61)
theorem uS69 : ∀ j, j < 69 → mv_Ok l j (mv_S j) := uS_up uS68 oS68 rfl
theorem oS69 : mv_Ok l 69 (mv_S 69) := by
  rw [eS69]
  exact mv_met (mt := (⟨"TurnedTablets$Cloth", "slants", "(I)I"⟩, prog_2_method_7_code, 4, (some .int), { frames := 2, cells := 0, slots := 0, locals := 44 })) rfl (by decide +kernel) vg69 vd69 (S := mv_S) uS69 (ct69 eS68)
theorem uS70 : ∀ j, j < 70 → mv_Ok l j (mv_S j) := uS_up uS69 oS69 rfl
theorem oS70 : mv_Ok l 70 (mv_S 70) := by
  rw [eS70]
  exact mv_met (mt := (⟨"TurnedTablets$Cloth", "weavePick", "(LTurnedTablets$Loom;II)I"⟩, prog_2_method_14_code, 6, (some .int), { frames := 5, cells := 0, slots := 0, locals := 119 })) rfl (by decide +kernel) vg70 vd70 (S := mv_S) uS70 (ct70 eS64 eS66 eS67 eS69)
theorem uS71 : ∀ j, j < 71 → mv_Ok l j (mv_S j) := uS_up uS70 oS70 rfl
theorem oS71 : mv_Ok l 71 (mv_S 71) := by
  rw [eS71]
  exact mv_met (mt := (⟨"TurnedTablets", "again", "()I"⟩, prog_1_method_13_code, 3, (some .int), { frames := 6, cells := 0, slots := 0, locals := 144 })) rfl (by decide +kernel) vg71 vd71 (S := mv_S) uS71 (ct71 eS53 eS55 eS56 eS70)
theorem uS72 : ∀ j, j < 72 → mv_Ok l j (mv_S j) := uS_up uS71 oS71 rfl
theorem oS72 : mv_Ok l 72 (mv_S 72) := by
  rw [eS72]
  exact mv_met (mt := (⟨"TurnedTablets", "allPacks", "()I"⟩, prog_1_method_39_code, 1, (some .int), { frames := 0, cells := 0, slots := 0, locals := 0 })) rfl (by decide +kernel) vg72 vd72 (S := mv_S) uS72 (ct72)
theorem uS73 : ∀ j, j < 73 → mv_Ok l j (mv_S j) := uS_up uS72 oS72 rfl
theorem oS73 : mv_Ok l 73 (mv_S 73) := by
  rw [eS73]
  exact mv_met (mt := (⟨"TurnedTablets$Loom", "areColours", "(I)Z"⟩, prog_3_method_20_code, 4, (some .boolean), { frames := 0, cells := 0, slots := 0, locals := 0 })) rfl (by decide +kernel) vg73 vd73 (S := mv_S) uS73 (ct73)
theorem uS74 : ∀ j, j < 74 → mv_Ok l j (mv_S j) := uS_up uS73 oS73 rfl
theorem oS74 : mv_Ok l 74 (mv_S 74) := by
  rw [eS74]
  exact mv_met (mt := (⟨"TurnedTablets$Loom", "shows", "(II)Z"⟩, prog_3_method_19_code, 5, (some .boolean), { frames := 1, cells := 0, slots := 0, locals := 22 })) rfl (by decide +kernel) vg74 vd74 (S := mv_S) uS74 (ct74 eS29)
theorem uS75 : ∀ j, j < 75 → mv_Ok l j (mv_S j) := uS_up uS74 oS74 rfl
theorem oS75 : mv_Ok l 75 (mv_S 75) := by
  rw [eS75]
  exact mv_met (mt := (⟨"TurnedTablets", "amiss", "(I)I"⟩, prog_1_method_30_code, 5, (some .int), { frames := 2, cells := 0, slots := 0, locals := 46 })) rfl (by decide +kernel) vg75 vd75 (S := mv_S) uS75 (ct75 eS51 eS65 eS66 eS73 eS74)
theorem uS76 : ∀ j, j < 76 → mv_Ok l j (mv_S j) := uS_up uS75 oS75 rfl
theorem oS76 : mv_Ok l 76 (mv_S 76) := by
  rw [eS76]
  exact mv_met (mt := (⟨"TurnedTablets", "back", "()I"⟩, prog_1_method_34_code, 1, (some .int), { frames := 2, cells := 0, slots := 0, locals := 47 })) rfl (by decide +kernel) vg76 vd76 (S := mv_S) uS76 (ct76 eS52)
theorem uS77 : ∀ j, j < 77 → mv_Ok l j (mv_S j) := uS_up uS76 oS76 rfl
theorem oS77 : mv_Ok l 77 (mv_S 77) := by
  rw [eS77]
  exact mv_met (mt := (⟨"TurnedTablets", "drawOf", "(II)I"⟩, prog_1_method_41_code, 4, (some .int), { frames := 0, cells := 0, slots := 0, locals := 0 })) rfl (by decide +kernel) vg77 vd77 (S := mv_S) uS77 (ct77)
theorem uS78 : ∀ j, j < 78 → mv_Ok l j (mv_S j) := uS_up uS77 oS77 rfl
theorem oS78 : mv_Ok l 78 (mv_S 78) := by
  rw [eS78]
  exact mv_met (mt := (⟨"TurnedTablets", "combDrawn", "(I)V"⟩, prog_1_method_42_code, 2, none, { frames := 1, cells := 0, slots := 0, locals := 23 })) rfl (by decide +kernel) vg78 vd78 (S := mv_S) uS78 (ct78 eS44)
theorem uS79 : ∀ j, j < 79 → mv_Ok l j (mv_S j) := uS_up uS78 oS78 rfl
theorem oS79 : mv_Ok l 79 (mv_S 79) := by
  rw [eS79]
  exact mv_met (mt := (⟨"TurnedTablets", "bands", "(III)I"⟩, prog_1_method_32_code, 8, (some .int), { frames := 6, cells := 0, slots := 0, locals := 144 })) rfl (by decide +kernel) vg79 vd79 (S := mv_S) uS79 (ct79 eS52 eS70 eS77 eS78)
theorem uS80 : ∀ j, j < 80 → mv_Ok l j (mv_S j) := uS_up uS79 oS79 rfl
theorem oS80 : mv_Ok l 80 (mv_S 80) := by
  rw [eS80]
  exact mv_met (mt := (⟨"TurnedTablets$Loom", "step", "(II)I"⟩, prog_3_method_17_code, 5, (some .int), { frames := 2, cells := 0, slots := 0, locals := 44 })) rfl (by decide +kernel) vg80 vd80 (S := mv_S) uS80 (ct80 eS58 eS60 eS65)
theorem uS81 : ∀ j, j < 81 → mv_Ok l j (mv_S j) := uS_up uS80 oS80 rfl
theorem oS81 : mv_Ok l 81 (mv_S 81) := by
  rw [eS81]
  exact mv_met (mt := (⟨"TurnedTablets$Search", "takeSteps", "(LTurnedTablets$Loom;)I"⟩, prog_5_method_2_code, 3, (some .int), { frames := 3, cells := 0, slots := 0, locals := 68 })) rfl (by decide +kernel) vg81 vd81 (S := mv_S) uS81 (ct81 eS80)
theorem uS82 : ∀ j, j < 82 → mv_Ok l j (mv_S j) := uS_up uS81 oS81 rfl
theorem oS82 : mv_Ok l 82 (mv_S 82) := by
  rw [eS82]
  exact mv_met (mt := (⟨"TurnedTablets$Search", "enlist", "(II)V"⟩, prog_5_method_6_code, 3, none, { frames := 0, cells := 0, slots := 0, locals := 0 })) rfl (by decide +kernel) vg82 vd82 (S := mv_S) uS82 (ct82)
theorem uS83 : ∀ j, j < 83 → mv_Ok l j (mv_S j) := uS_up uS82 oS82 rfl
theorem oS83 : mv_Ok l 83 (mv_S 83) := by
  rw [eS83]
  exact mv_met (mt := (⟨"TurnedTablets$Search", "startList", "(II)V"⟩, prog_5_method_5_code, 3, none, { frames := 1, cells := 0, slots := 0, locals := 23 })) rfl (by decide +kernel) vg83 vd83 (S := mv_S) uS83 (ct83 eS42 eS82)
theorem uS84 : ∀ j, j < 84 → mv_Ok l j (mv_S j) := uS_up uS83 oS83 rfl
theorem oS84 : mv_Ok l 84 (mv_S 84) := by
  rw [eS84]
  exact mv_met (mt := (⟨"TurnedTablets$Search", "onBy", "(II)I"⟩, prog_5_method_4_code, 3, (some .int), { frames := 1, cells := 0, slots := 0, locals := 21 })) rfl (by decide +kernel) vg84 vd84 (S := mv_S) uS84 (ct84 eS51)
theorem uS85 : ∀ j, j < 85 → mv_Ok l j (mv_S j) := uS_up uS84 oS84 rfl
theorem oS85 : mv_Ok l 85 (mv_S 85) := by
  rw [eS85]
  exact mv_met (mt := (⟨"TurnedTablets$Search", "markOf", "(I)I"⟩, prog_5_method_7_code, 2, (some .int), { frames := 0, cells := 0, slots := 0, locals := 0 })) rfl (by decide +kernel) vg85 vd85 (S := mv_S) uS85 (ct85)
theorem uS86 : ∀ j, j < 86 → mv_Ok l j (mv_S j) := uS_up uS85 oS85 rfl
theorem oS86 : mv_Ok l 86 (mv_S 86) := by
  rw [eS86]
  exact mv_met (mt := (⟨"TurnedTablets$Search", "spread", "(II)V"⟩, prog_5_method_12_code, 7, none, { frames := 1, cells := 0, slots := 0, locals := 22 })) rfl (by decide +kernel) vg86 vd86 (S := mv_S) uS86 (ct86 eS51 eS82 eS85)
theorem uS87 : ∀ j, j < 87 → mv_Ok l j (mv_S j) := uS_up uS86 oS86 rfl
theorem oS87 : mv_Ok l 87 (mv_S 87) := by
  rw [eS87]
  exact mv_met (mt := (⟨"TurnedTablets$Search", "reach", "(LTurnedTablets$Loom;II)V"⟩, prog_5_method_11_code, 6, none, { frames := 4, cells := 0, slots := 0, locals := 90 })) rfl (by decide +kernel) vg87 vd87 (S := mv_S) uS87 (ct87 eS81 eS83 eS84 eS86)
theorem uS88 : ∀ j, j < 88 → mv_Ok l j (mv_S j) := uS_up uS87 oS87 rfl
theorem oS88 : mv_Ok l 88 (mv_S 88) := by
  rw [eS88]
  exact mv_met (mt := (⟨"TurnedTablets$Loom", "firstAlikeOf", "(I)I"⟩, prog_3_method_21_code, 4, (some .int), { frames := 1, cells := 0, slots := 0, locals := 21 })) rfl (by decide +kernel) vg88 vd88 (S := mv_S) uS88 (ct88 eS65)
theorem uS89 : ∀ j, j < 89 → mv_Ok l j (mv_S j) := uS_up uS88 oS88 rfl
theorem oS89 : mv_Ok l 89 (mv_S 89) := by
  rw [eS89]
  exact mv_met (mt := (⟨"TurnedTablets$Search", "countRows", "(LTurnedTablets$Loom;)I"⟩, prog_5_method_14_code, 4, (some .int), { frames := 2, cells := 0, slots := 0, locals := 44 })) rfl (by decide +kernel) vg89 vd89 (S := mv_S) uS89 (ct89 eS42 eS82 eS88)
theorem uS90 : ∀ j, j < 90 → mv_Ok l j (mv_S j) := uS_up uS89 oS89 rfl
theorem oS90 : mv_Ok l 90 (mv_S 90) := by
  rw [eS90]
  exact mv_met (mt := (⟨"TurnedTablets", "can", "()I"⟩, prog_1_method_24_code, 1, (some .int), { frames := 5, cells := 0, slots := 0, locals := 115 })) rfl (by decide +kernel) vg90 vd90 (S := mv_S) uS90 (ct90 eS66 eS72 eS87 eS89)
theorem uS91 : ∀ j, j < 91 → mv_Ok l j (mv_S j) := uS_up uS90 oS90 rfl
theorem oS91 : mv_Ok l 91 (mv_S 91) := by
  rw [eS91]
  exact mv_met (mt := (⟨"TurnedTablets", "isTablet", "(I)Z"⟩, prog_1_method_36_code, 2, (some .boolean), { frames := 0, cells := 0, slots := 0, locals := 0 })) rfl (by decide +kernel) vg91 vd91 (S := mv_S) uS91 (ct91)
theorem uS92 : ∀ j, j < 92 → mv_Ok l j (mv_S j) := uS_up uS91 oS91 rfl
theorem oS92 : mv_Ok l 92 (mv_S 92) := by
  rw [eS92]
  exact mv_met (mt := (⟨"TurnedTablets", "comb", "(I)I"⟩, prog_1_method_17_code, 3, (some .int), { frames := 3, cells := 0, slots := 0, locals := 67 })) rfl (by decide +kernel) vg92 vd92 (S := mv_S) uS92 (ct92 eS44 eS53 eS61 eS91)
theorem uS93 : ∀ j, j < 93 → mv_Ok l j (mv_S j) := uS_up uS92 oS92 rfl
theorem oS93 : mv_Ok l 93 (mv_S 93) := by
  rw [eS93]
  exact mv_met (mt := (⟨"TurnedTablets", "commonDivisor", "(II)I"⟩, prog_1_method_43_code, 6, (some .int), { frames := 0, cells := 0, slots := 0, locals := 0 })) rfl (by decide +kernel) vg93 vd93 (S := mv_S) uS93 (ct93)
theorem uS94 : ∀ j, j < 94 → mv_Ok l j (mv_S j) := uS_up uS93 oS93 rfl
theorem oS94 : mv_Ok l 94 (mv_S 94) := by
  rw [eS94]
  exact mv_met (mt := (⟨"TurnedTablets$Cloth", "longFloats", "(I)I"⟩, prog_2_method_9_code, 4, (some .int), { frames := 1, cells := 0, slots := 0, locals := 22 })) rfl (by decide +kernel) vg94 vd94 (S := mv_S) uS94 (ct94 eS61)
theorem uS95 : ∀ j, j < 95 → mv_Ok l j (mv_S j) := uS_up uS94 oS94 rfl
theorem oS95 : mv_Ok l 95 (mv_S 95) := by
  rw [eS95]
  exact mv_met (mt := (⟨"TurnedTablets", "count", "(I)I"⟩, prog_1_method_35_code, 2, (some .int), { frames := 2, cells := 0, slots := 0, locals := 45 })) rfl (by decide +kernel) vg95 vd95 (S := mv_S) uS95 (ct95 eS20 eS94)
theorem uS96 : ∀ j, j < 96 → mv_Ok l j (mv_S j) := uS_up uS95 oS95 rfl
theorem oS96 : mv_Ok l 96 (mv_S 96) := by
  rw [eS96]
  exact mv_met (mt := (⟨"TurnedTablets", "cut", "()I"⟩, prog_1_method_18_code, 2, (some .int), { frames := 3, cells := 0, slots := 0, locals := 67 })) rfl (by decide +kernel) vg96 vd96 (S := mv_S) uS96 (ct96 eS53)
theorem uS97 : ∀ j, j < 97 → mv_Ok l j (mv_S j) := uS_up uS96 oS96 rfl
theorem oS97 : mv_Ok l 97 (mv_S 97) := by
  rw [eS97]
  exact mv_met (mt := (⟨"TurnedTablets", "draft", "(I)I"⟩, prog_1_method_9_code, 2, (some .int), { frames := 1, cells := 0, slots := 0, locals := 21 })) rfl (by decide +kernel) vg97 vd97 (S := mv_S) uS97 (ct97 eS54)
theorem uS98 : ∀ j, j < 98 → mv_Ok l j (mv_S j) := uS_up uS97 oS97 rfl
theorem oS98 : mv_Ok l 98 (mv_S 98) := by
  rw [eS98]
  exact mv_met (mt := (⟨"TurnedTablets", "fault", "()I"⟩, prog_1_method_4_code, 1, (some .int), { frames := 10, cells := 0, slots := 0, locals := 218 })) rfl (by decide +kernel) vg98 vd98 (S := mv_S) uS98 (ct98 eS40)
theorem uS99 : ∀ j, j < 99 → mv_Ok l j (mv_S j) := uS_up uS98 oS98 rfl
theorem oS99 : mv_Ok l 99 (mv_S 99) := by
  rw [eS99]
  exact mv_met (mt := (⟨"TurnedTablets$Search", "seek", "(LTurnedTablets$Loom;II)I"⟩, prog_5_method_3_code, 8, (some .int), { frames := 4, cells := 0, slots := 0, locals := 90 })) rfl (by decide +kernel) vg99 vd99 (S := mv_S) uS99 (ct99 eS74 eS81 eS82 eS83 eS84)
theorem uS100 : ∀ j, j < 100 → mv_Ok l j (mv_S j) := uS_up uS99 oS99 rfl
theorem oS100 : mv_Ok l 100 (mv_S 100) := by
  rw [eS100]
  exact mv_met (mt := (⟨"TurnedTablets$Search", "comesFrom", "(I)I"⟩, prog_5_method_8_code, 3, (some .int), { frames := 1, cells := 0, slots := 0, locals := 21 })) rfl (by decide +kernel) vg100 vd100 (S := mv_S) uS100 (ct100 eS85)
theorem uS101 : ∀ j, j < 101 → mv_Ok l j (mv_S j) := uS_up uS100 oS100 rfl
theorem oS101 : mv_Ok l 101 (mv_S 101) := by
  rw [eS101]
  exact mv_met (mt := (⟨"TurnedTablets$Search", "stepsTo", "(I)I"⟩, prog_5_method_9_code, 4, (some .int), { frames := 2, cells := 0, slots := 0, locals := 43 })) rfl (by decide +kernel) vg101 vd101 (S := mv_S) uS101 (ct101 eS85 eS100)
theorem uS102 : ∀ j, j < 102 → mv_Ok l j (mv_S j) := uS_up uS101 oS101 rfl
theorem oS102 : mv_Ok l 102 (mv_S 102) := by
  rw [eS102]
  exact mv_met (mt := (⟨"TurnedTablets$Search", "pickAt", "(II)I"⟩, prog_5_method_10_code, 5, (some .int), { frames := 2, cells := 0, slots := 0, locals := 43 })) rfl (by decide +kernel) vg102 vd102 (S := mv_S) uS102 (ct102 eS85 eS100)
theorem uS103 : ∀ j, j < 103 → mv_Ok l j (mv_S j) := uS_up uS102 oS102 rfl
theorem oS103 : mv_Ok l 103 (mv_S 103) := by
  rw [eS103]
  exact mv_met (mt := (⟨"TurnedTablets", "fewest", "(II)I"⟩, prog_1_method_23_code, 5, (some .int), { frames := 5, cells := 0, slots := 0, locals := 117 })) rfl (by decide +kernel) vg103 vd103 (S := mv_S) uS103 (ct103 eS66 eS73 eS99 eS101 eS102)
theorem uS104 : ∀ j, j < 104 → mv_Ok l j (mv_S j) := uS_up uS103 oS103 rfl
theorem oS104 : mv_Ok l 104 (mv_S 104) := by
  rw [eS104]
  exact mv_met (mt := (⟨"TurnedTablets", "flip", "(I)I"⟩, prog_1_method_16_code, 2, (some .int), { frames := 3, cells := 0, slots := 0, locals := 67 })) rfl (by decide +kernel) vg104 vd104 (S := mv_S) uS104 (ct104 eS44 eS53 eS61 eS91)
theorem uS105 : ∀ j, j < 105 → mv_Ok l j (mv_S j) := uS_up uS104 oS104 rfl
theorem oS105 : mv_Ok l 105 (mv_S 105) := by
  rw [eS105]
  exact mv_met (mt := (⟨"TurnedTablets", "forget", "()I"⟩, prog_1_method_27_code, 2, (some .int), { frames := 0, cells := 0, slots := 0, locals := 0 })) rfl (by decide +kernel) vg105 vd105 (S := mv_S) uS105 (ct105)
theorem uS106 : ∀ j, j < 106 → mv_Ok l j (mv_S j) := uS_up uS105 oS105 rfl
theorem oS106 : mv_Ok l 106 (mv_S 106) := by
  rw [eS106]
  exact mv_met (mt := (⟨"TurnedTablets", "hole", "(II)I"⟩, prog_1_method_7_code, 3, (some .int), { frames := 1, cells := 0, slots := 0, locals := 22 })) rfl (by decide +kernel) vg106 vd106 (S := mv_S) uS106 (ct106 eS29 eS91)
theorem uS107 : ∀ j, j < 107 → mv_Ok l j (mv_S j) := uS_up uS106 oS106 rfl
theorem oS107 : mv_Ok l 107 (mv_S 107) := by
  rw [eS107]
  exact mv_met (mt := (⟨"TurnedTablets", "isPack", "(I)Z"⟩, prog_1_method_37_code, 2, (some .boolean), { frames := 0, cells := 0, slots := 0, locals := 0 })) rfl (by decide +kernel) vg107 vd107 (S := mv_S) uS107 (ct107)
theorem uS108 : ∀ j, j < 108 → mv_Ok l j (mv_S j) := uS_up uS107 oS107 rfl
theorem oS108 : mv_Ok l 108 (mv_S 108) := by
  rw [eS108]
  exact mv_met (mt := (⟨"TurnedTablets", "isWay", "(I)Z"⟩, prog_1_method_38_code, 1, (some .boolean), { frames := 0, cells := 0, slots := 0, locals := 0 })) rfl (by decide +kernel) vg108 vd108 (S := mv_S) uS108 (ct108)
theorem uS109 : ∀ j, j < 109 → mv_Ok l j (mv_S j) := uS_up uS108 oS108 rfl
theorem oS109 : mv_Ok l 109 (mv_S 109) := by
  rw [eS109]
  exact mv_met (mt := (⟨"TurnedTablets", "jammed", "()I"⟩, prog_1_method_22_code, 3, (some .int), { frames := 5, cells := 0, slots := 0, locals := 119 })) rfl (by decide +kernel) vg109 vd109 (S := mv_S) uS109 (ct109 eS52 eS55 eS56 eS64)
theorem uS110 : ∀ j, j < 110 → mv_Ok l j (mv_S j) := uS_up uS109 oS109 rfl
theorem oS110 : mv_Ok l 110 (mv_S 110) := by
  rw [eS110]
  exact mv_met (mt := (⟨"TurnedTablets", "keep", "()I"⟩, prog_1_method_33_code, 1, (some .int), { frames := 2, cells := 0, slots := 0, locals := 47 })) rfl (by decide +kernel) vg110 vd110 (S := mv_S) uS110 (ct110 eS52)
theorem uS111 : ∀ j, j < 111 → mv_Ok l j (mv_S j) := uS_up uS110 oS110 rfl
theorem oS111 : mv_Ok l 111 (mv_S 111) := by
  rw [eS111]
  exact mv_met (mt := (⟨"TurnedTablets$Search", "keepThose", "(LTurnedTablets$Loom;I)V"⟩, prog_5_method_18_code, 4, none, { frames := 2, cells := 0, slots := 0, locals := 46 })) rfl (by decide +kernel) vg111 vd111 (S := mv_S) uS111 (ct111 eS74)
theorem uS112 : ∀ j, j < 112 → mv_Ok l j (mv_S j) := uS_up uS111 oS111 rfl
theorem oS112 : mv_Ok l 112 (mv_S 112) := by
  rw [eS112]
  exact mv_met (mt := (⟨"TurnedTablets$Search", "goBack", "(I)V"⟩, prog_5_method_20_code, 5, none, { frames := 2, cells := 0, slots := 0, locals := 43 })) rfl (by decide +kernel) vg112 vd112 (S := mv_S) uS112 (ct112 eS42 eS84)
theorem uS113 : ∀ j, j < 113 → mv_Ok l j (mv_S j) := uS_up uS112 oS112 rfl
theorem oS113 : mv_Ok l 113 (mv_S 113) := by
  rw [eS113]
  exact mv_met (mt := (⟨"TurnedTablets$Search", "sumOfMarks", "()I"⟩, prog_5_method_16_code, 3, (some .int), { frames := 0, cells := 0, slots := 0, locals := 0 })) rfl (by decide +kernel) vg113 vd113 (S := mv_S) uS113 (ct113)
theorem uS114 : ∀ j, j < 114 → mv_Ok l j (mv_S j) := uS_up uS113 oS113 rfl
theorem oS114 : mv_Ok l 114 (mv_S 114) := by
  rw [eS114]
  exact mv_met (mt := (⟨"TurnedTablets$Search", "countStarts", "(LTurnedTablets$Loom;[II)I"⟩, prog_5_method_19_code, 7, (some .int), { frames := 4, cells := 0, slots := 0, locals := 90 })) rfl (by decide +kernel) vg114 vd114 (S := mv_S) uS114 (ct114 eS81 eS111 eS112 eS113)
theorem uS115 : ∀ j, j < 115 → mv_Ok l j (mv_S j) := uS_up uS114 oS114 rfl
theorem oS115 : mv_Ok l 115 (mv_S 115) := by
  rw [eS115]
  exact mv_met (mt := (⟨"TurnedTablets", "lies", "()I"⟩, prog_1_method_29_code, 1, (some .int), { frames := 5, cells := 0, slots := 0, locals := 116 })) rfl (by decide +kernel) vg115 vd115 (S := mv_S) uS115 (ct115 eS114)
theorem uS116 : ∀ j, j < 116 → mv_Ok l j (mv_S j) := uS_up uS115 oS115 rfl
theorem oS116 : mv_Ok l 116 (mv_S 116) := by
  rw [eS116]
  exact mv_met (mt := (⟨"TurnedTablets$Search", "reaches", "(LTurnedTablets$Loom;III)Z"⟩, prog_5_method_13_code, 6, (some .boolean), { frames := 5, cells := 0, slots := 0, locals := 115 })) rfl (by decide +kernel) vg116 vd116 (S := mv_S) uS116 (ct116 eS74 eS87)
theorem uS117 : ∀ j, j < 117 → mv_Ok l j (mv_S j) := uS_up uS116 oS116 rfl
theorem oS117 : mv_Ok l 117 (mv_S 117) := by
  rw [eS117]
  exact mv_met (mt := (⟨"java/lang/Integer", "bitCount", "(I)I"⟩, prog_10_method_49_code, 1, (some .int), { frames := 0, cells := 0, slots := 0, locals := 0 })) rfl (by decide +kernel) vg117 vd117 (S := mv_S) uS117 (ct117)
theorem uS118 : ∀ j, j < 118 → mv_Ok l j (mv_S j) := uS_up uS117 oS117 rfl
theorem oS118 : mv_Ok l 118 (mv_S 118) := by
  rw [eS118]
  exact mv_met (mt := (⟨"TurnedTablets", "needs", "(I)I"⟩, prog_1_method_25_code, 5, (some .int), { frames := 6, cells := 0, slots := 0, locals := 140 })) rfl (by decide +kernel) vg118 vd118 (S := mv_S) uS118 (ct118 eS66 eS72 eS73 eS116 eS117)
theorem uS119 : ∀ j, j < 119 → mv_Ok l j (mv_S j) := uS_up uS118 oS118 rfl
theorem oS119 : mv_Ok l 119 (mv_S 119) := by
  rw [eS119]
  exact mv_met (mt := (⟨"TurnedTablets", "pack", "(I)I"⟩, prog_1_method_8_code, 2, (some .int), { frames := 1, cells := 0, slots := 0, locals := 21 })) rfl (by decide +kernel) vg119 vd119 (S := mv_S) uS119 (ct119 eS57 eS107)
theorem uS120 : ∀ j, j < 120 → mv_Ok l j (mv_S j) := uS_up uS119 oS119 rfl
theorem oS120 : mv_Ok l 120 (mv_S 120) := by
  rw [eS120]
  exact mv_met (mt := (⟨"TurnedTablets", "round", "()I"⟩, prog_1_method_20_code, 3, (some .int), { frames := 3, cells := 0, slots := 0, locals := 68 })) rfl (by decide +kernel) vg120 vd120 (S := mv_S) uS120 (ct120 eS51 eS55 eS56 eS80)
theorem uS121 : ∀ j, j < 121 → mv_Ok l j (mv_S j) := uS_up uS120 oS120 rfl
theorem oS121 : mv_Ok l 121 (mv_S 121) := by
  rw [eS121]
  exact mv_met (mt := (⟨"TurnedTablets$Cloth", "rowColours", "(I)I"⟩, prog_2_method_16_code, 2, (some .int), { frames := 0, cells := 0, slots := 0, locals := 0 })) rfl (by decide +kernel) vg121 vd121 (S := mv_S) uS121 (ct121)
theorem uS122 : ∀ j, j < 122 → mv_Ok l j (mv_S j) := uS_up uS121 oS121 rfl
theorem oS122 : mv_Ok l 122 (mv_S 122) := by
  rw [eS122]
  exact mv_met (mt := (⟨"TurnedTablets$Cloth", "rowSlants", "(I)I"⟩, prog_2_method_17_code, 2, (some .int), { frames := 0, cells := 0, slots := 0, locals := 0 })) rfl (by decide +kernel) vg122 vd122 (S := mv_S) uS122 (ct122)
theorem uS123 : ∀ j, j < 123 → mv_Ok l j (mv_S j) := uS_up uS122 oS122 rfl
theorem oS123 : mv_Ok l 123 (mv_S 123) := by
  rw [eS123]
  exact mv_met (mt := (⟨"TurnedTablets", "row", "(II)I"⟩, prog_1_method_11_code, 3, (some .int), { frames := 1, cells := 0, slots := 0, locals := 21 })) rfl (by decide +kernel) vg123 vd123 (S := mv_S) uS123 (ct123 eS121 eS122)
theorem uS124 : ∀ j, j < 124 → mv_Ok l j (mv_S j) := uS_up uS123 oS123 rfl
theorem oS124 : mv_Ok l 124 (mv_S 124) := by
  rw [eS124]
  exact mv_met (mt := (⟨"TurnedTablets", "see", "(I)I"⟩, prog_1_method_26_code, 2, (some .int), { frames := 1, cells := 0, slots := 0, locals := 23 })) rfl (by decide +kernel) vg124 vd124 (S := mv_S) uS124 (ct124 eS73)
theorem uS125 : ∀ j, j < 125 → mv_Ok l j (mv_S j) := uS_up uS124 oS124 rfl
theorem oS125 : mv_Ok l 125 (mv_S 125) := by
  rw [eS125]
  exact mv_met (mt := (⟨"TurnedTablets$Cloth", "showsTurn", "(LTurnedTablets$Loom;II)Z"⟩, prog_2_method_11_code, 6, (some .boolean), { frames := 3, cells := 0, slots := 0, locals := 68 })) rfl (by decide +kernel) vg125 vd125 (S := mv_S) uS125 (ct125 eS29 eS60 eS61 eS62)
theorem uS126 : ∀ j, j < 126 → mv_Ok l j (mv_S j) := uS_up uS125 oS125 rfl
theorem oS126 : mv_Ok l 126 (mv_S 126) := by
  rw [eS126]
  exact mv_met (mt := (⟨"TurnedTablets", "slips", "(IIII)I"⟩, prog_1_method_31_code, 8, (some .int), { frames := 4, cells := 0, slots := 0, locals := 93 })) rfl (by decide +kernel) vg126 vd126 (S := mv_S) uS126 (ct126 eS58 eS93 eS107 eS108 eS125)
theorem uS127 : ∀ j, j < 127 → mv_Ok l j (mv_S j) := uS_up uS126 oS126 rfl
theorem oS127 : mv_Ok l 127 (mv_S 127) := by
  rw [eS127]
  exact mv_met (mt := (⟨"TurnedTablets", "tablet", "(II)I"⟩, prog_1_method_6_code, 3, (some .int), { frames := 2, cells := 0, slots := 0, locals := 44 })) rfl (by decide +kernel) vg127 vd127 (S := mv_S) uS127 (ct127 eS29 eS59 eS61 eS68 eS91)
theorem uS128 : ∀ j, j < 128 → mv_Ok l j (mv_S j) := uS_up uS127 oS127 rfl
theorem oS128 : mv_Ok l 128 (mv_S 128) := by
  rw [eS128]
  exact mv_met (mt := (⟨"TurnedTablets", "top", "(I)I"⟩, prog_1_method_10_code, 2, (some .int), { frames := 3, cells := 0, slots := 0, locals := 67 })) rfl (by decide +kernel) vg128 vd128 (S := mv_S) uS128 (ct128 eS66 eS67 eS69)
theorem uS129 : ∀ j, j < 129 → mv_Ok l j (mv_S j) := uS_up uS128 oS128 rfl
theorem oS129 : mv_Ok l 129 (mv_S 129) := by
  rw [eS129]
  exact mv_met (mt := (⟨"TurnedTablets", "turn", "(II)I"⟩, prog_1_method_15_code, 3, (some .int), { frames := 4, cells := 0, slots := 0, locals := 93 })) rfl (by decide +kernel) vg129 vd129 (S := mv_S) uS129 (ct129 eS53 eS61 eS62 eS63 eS91 eS108)
theorem uS130 : ∀ j, j < 130 → mv_Ok l j (mv_S j) := uS_up uS129 oS129 rfl
theorem oS130 : mv_Ok l 130 (mv_S 130) := by
  rw [eS130]
  exact mv_met (mt := (⟨"TurnedTablets", "twist", "(I)I"⟩, prog_1_method_21_code, 4, (some .int), { frames := 2, cells := 0, slots := 0, locals := 44 })) rfl (by decide +kernel) vg130 vd130 (S := mv_S) uS130 (ct130 eS55 eS56 eS58 eS60 eS91)
theorem uS131 : ∀ j, j < 131 → mv_Ok l j (mv_S j) := uS_up uS130 oS130 rfl
theorem oS131 : mv_Ok l 131 (mv_S 131) := by
  rw [eS131]
  exact mv_met (mt := (⟨"TurnedTablets", "undo", "()I"⟩, prog_1_method_19_code, 1, (some .int), { frames := 2, cells := 0, slots := 0, locals := 47 })) rfl (by decide +kernel) vg131 vd131 (S := mv_S) uS131 (ct131 eS52)
theorem uS132 : ∀ j, j < 132 → mv_Ok l j (mv_S j) := uS_up uS131 oS131 rfl
theorem oS132 : mv_Ok l 132 (mv_S 132) := by
  rw [eS132]
  exact mv_met (mt := (⟨"TurnedTablets$Cloth", "unweaveRow", "()V"⟩, prog_2_method_15_code, 1, none, { frames := 1, cells := 0, slots := 0, locals := 26 })) rfl (by decide +kernel) vg132 vd132 (S := mv_S) uS132 (ct132)
theorem uS133 : ∀ j, j < 133 → mv_Ok l j (mv_S j) := uS_up uS132 oS132 rfl
theorem oS133 : mv_Ok l 133 (mv_S 133) := by
  rw [eS133]
  exact mv_met (mt := (⟨"TurnedTablets", "unweave", "()I"⟩, prog_1_method_14_code, 1, (some .int), { frames := 3, cells := 0, slots := 0, locals := 67 })) rfl (by decide +kernel) vg133 vd133 (S := mv_S) uS133 (ct133 eS53 eS132)
theorem uS134 : ∀ j, j < 134 → mv_Ok l j (mv_S j) := uS_up uS133 oS133 rfl
theorem oS134 : mv_Ok l 134 (mv_S 134) := by
  rw [eS134]
  exact mv_met (mt := (⟨"TurnedTablets$Search", "goOn", "(I)V"⟩, prog_5_method_17_code, 5, none, { frames := 2, cells := 0, slots := 0, locals := 43 })) rfl (by decide +kernel) vg134 vd134 (S := mv_S) uS134 (ct134 eS42 eS84)
theorem uS135 : ∀ j, j < 135 → mv_Ok l j (mv_S j) := uS_up uS134 oS134 rfl
theorem oS135 : mv_Ok l 135 (mv_S 135) := by
  rw [eS135]
  exact mv_met (mt := (⟨"TurnedTablets$Search", "countWays", "(LTurnedTablets$Loom;I[II)I"⟩, prog_5_method_15_code, 7, (some .int), { frames := 4, cells := 0, slots := 0, locals := 90 })) rfl (by decide +kernel) vg135 vd135 (S := mv_S) uS135 (ct135 eS42 eS81 eS111 eS113 eS134)
theorem uS136 : ∀ j, j < 136 → mv_Ok l j (mv_S j) := uS_up uS135 oS135 rfl
theorem oS136 : mv_Ok l 136 (mv_S 136) := by
  rw [eS136]
  exact mv_met (mt := (⟨"TurnedTablets", "ways", "()I"⟩, prog_1_method_28_code, 1, (some .int), { frames := 5, cells := 0, slots := 0, locals := 116 })) rfl (by decide +kernel) vg136 vd136 (S := mv_S) uS136 (ct136 eS66 eS135)
theorem uS137 : ∀ j, j < 137 → mv_Ok l j (mv_S j) := uS_up uS136 oS136 rfl
theorem oS137 : mv_Ok l 137 (mv_S 137) := by
  rw [eS137]
  exact mv_met (mt := (⟨"TurnedTablets", "weave", "(II)I"⟩, prog_1_method_12_code, 3, (some .int), { frames := 6, cells := 0, slots := 0, locals := 144 })) rfl (by decide +kernel) vg137 vd137 (S := mv_S) uS137 (ct137 eS53 eS66 eS67 eS70 eS107 eS108)
theorem uS138 : ∀ j, j < 138 → mv_Ok l j (mv_S j) := uS_up uS137 oS137 rfl
theorem oS138 : mv_Ok l 138 (mv_S 138) := by
  rw [eS138]
  exact mv_met (mt := (⟨"TurnedTablets", "wipe", "()I"⟩, prog_1_method_3_code, 2, (some .int), { frames := 6, cells := 1, slots := 96, locals := 133 })) rfl (by decide +kernel) vg138 vd138 (S := mv_S) uS138 (ct138 eS20 eS49)
theorem uS139 : ∀ j, j < 139 → mv_Ok l j (mv_S j) := uS_up uS138 oS138 rfl
theorem oS139 : mv_Ok l 139 (mv_S 139) := by
  rw [eS139]
  exact mv_met (mt := (⟨"java/lang/StringLatin1", "canEncode", "(C)Z"⟩, prog_14_method_3_code, 1, (some .boolean), { frames := 0, cells := 0, slots := 0, locals := 0 })) rfl (by decide +kernel) vg139 vd139 (S := mv_S) uS139 (ct139)
theorem uS140 : ∀ j, j < 140 → mv_Ok l j (mv_S j) := uS_up uS139 oS139 rfl
theorem oS140 : mv_Ok l 140 (mv_S 140) := by
  rw [eS140]
  exact mv_met (mt := (⟨"java/lang/AbstractStringBuilder", "append", "(C)Ljava/lang/AbstractStringBuilder;"⟩, prog_8_method_31_code, 2, (some (.object "java/lang/AbstractStringBuilder")), { frames := 4, cells := 1, slots := 96, locals := 91 })) rfl (by decide +kernel) vg140 vd140 (S := mv_S) uS140 (ct140 eS12 eS47 eS139)
theorem uS141 : ∀ j, j < 141 → mv_Ok l j (mv_S j) := uS_up uS140 oS140 rfl
theorem oS141 : mv_Ok l 141 (mv_S 141) := by
  rw [eS141]
  exact mv_met (mt := (⟨"java/lang/StringBuilder", "append", "(C)Ljava/lang/StringBuilder;"⟩, prog_13_method_14_code, 2, (some (.object "java/lang/StringBuilder")), { frames := 5, cells := 1, slots := 96, locals := 112 })) rfl (by decide +kernel) vg141 vd141 (S := mv_S) uS141 (ct141 eS140)
theorem uS142 : ∀ j, j < 142 → mv_Ok l j (mv_S j) := uS_up uS141 oS141 rfl
theorem oS142 : mv_Ok l 142 (mv_S 142) := by
  rw [eS142]
  exact mv_met (mt := (⟨"TurnedTablets", "write", "(I)I"⟩, prog_1_method_2_code, 2, (some .int), { frames := 6, cells := 1, slots := 96, locals := 133 })) rfl (by decide +kernel) vg142 vd142 (S := mv_S) uS142 (ct142 eS20 eS141)
theorem uS143 : ∀ j, j < 143 → mv_Ok l j (mv_S j) := uS_up uS142 oS142 rfl
theorem oS143 : mv_Ok l 143 (mv_S 143) := by
  rw [eS143]
  exact mv_met (mt := (⟨"TurnedTabletsModel", "sign", "(I)Z"⟩, prog_7_method_8_code, 3, (some .boolean), { frames := 0, cells := 0, slots := 0, locals := 0 })) rfl (by decide +kernel) vg143 vd143 (S := mv_S) uS143 (ct143)
theorem uS144 : ∀ j, j < 144 → mv_Ok l j (mv_S j) := uS_up uS143 oS143 rfl
theorem oS144 : mv_Ok l 144 (mv_S 144) := by
  rw [eS144]
  exact mv_met (mt := (⟨"TurnedTabletsModel", "in", "(JJJ)Z"⟩, prog_7_method_2_code, 6, (some .boolean), { frames := 0, cells := 0, slots := 0, locals := 0 })) rfl (by decide +kernel) vg144 vd144 (S := mv_S) uS144 (ct144)
theorem uS145 : ∀ j, j < 145 → mv_Ok l j (mv_S j) := uS_up uS144 oS144 rfl
theorem oS145 : mv_Ok l 145 (mv_S 145) := by
  rw [eS145]
  exact mv_met (mt := (⟨"TurnedTabletsModel", "isFigure", "()Z"⟩, prog_7_method_7_code, 1, (some .boolean), { frames := 1, cells := 0, slots := 0, locals := 25 })) rfl (by decide +kernel) vg145 vd145 (S := mv_S) uS145 (ct145 eS144)
theorem uS146 : ∀ j, j < 146 → mv_Ok l j (mv_S j) := uS_up uS145 oS145 rfl
theorem oS146 : mv_Ok l 146 (mv_S 146) := by
  rw [eS146]
  exact mv_met (mt := (⟨"TurnedTabletsModel", "readsNumber", "(II)Z"⟩, prog_7_method_9_code, 4, (some .boolean), { frames := 2, cells := 0, slots := 0, locals := 45 })) rfl (by decide +kernel) vg146 vd146 (S := mv_S) uS146 (ct146 eS144 eS145)
theorem uS147 : ∀ j, j < 147 → mv_Ok l j (mv_S j) := uS_up uS146 oS146 rfl
theorem oS147 : mv_Ok l 147 (mv_S 147) := by
  rw [eS147]
  exact mv_met (mt := (⟨"TurnedTabletsModel", "readsTablet", "()Z"⟩, prog_7_method_10_code, 3, (some .boolean), { frames := 3, cells := 0, slots := 0, locals := 68 })) rfl (by decide +kernel) vg147 vd147 (S := mv_S) uS147 (ct147 eS143 eS145 eS146)
theorem uS148 : ∀ j, j < 148 → mv_Ok l j (mv_S j) := uS_up uS147 oS147 rfl
theorem oS148 : mv_Ok l 148 (mv_S 148) := by
  rw [eS148]
  exact mv_met (mt := (⟨"TurnedTabletsModel", "has", "(II)Z"⟩, prog_7_method_3_code, 2, (some .boolean), { frames := 0, cells := 0, slots := 0, locals := 0 })) rfl (by decide +kernel) vg148 vd148 (S := mv_S) uS148 (ct148)
theorem uS149 : ∀ j, j < 149 → mv_Ok l j (mv_S j) := uS_up uS148 oS148 rfl
theorem oS149 : mv_Ok l 149 (mv_S 149) := by
  rw [eS149]
  exact mv_met (mt := (⟨"TurnedTabletsModel", "readsPack", "()Z"⟩, prog_7_method_11_code, 3, (some .boolean), { frames := 2, cells := 0, slots := 0, locals := 45 })) rfl (by decide +kernel) vg149 vd149 (S := mv_S) uS149 (ct149 eS145 eS148)
theorem uS150 : ∀ j, j < 150 → mv_Ok l j (mv_S j) := uS_up uS149 oS149 rfl
theorem oS150 : mv_Ok l 150 (mv_S 150) := by
  rw [eS150]
  exact mv_met (mt := (⟨"TurnedTabletsModel", "readsMost", "()Z"⟩, prog_7_method_12_code, 2, (some .boolean), { frames := 3, cells := 0, slots := 0, locals := 68 })) rfl (by decide +kernel) vg150 vd150 (S := mv_S) uS150 (ct150 eS146)
theorem uS151 : ∀ j, j < 151 → mv_Ok l j (mv_S j) := uS_up uS150 oS150 rfl
theorem oS151 : mv_Ok l 151 (mv_S 151) := by
  rw [eS151]
  exact mv_met (mt := (⟨"TurnedTabletsModel", "readsDraft", "()Z"⟩, prog_7_method_13_code, 4, (some .boolean), { frames := 2, cells := 0, slots := 0, locals := 45 })) rfl (by decide +kernel) vg151 vd151 (S := mv_S) uS151 (ct151 eS145)
theorem uS152 : ∀ j, j < 152 → mv_Ok l j (mv_S j) := uS_up uS151 oS151 rfl
theorem oS152 : mv_Ok l 152 (mv_S 152) := by
  rw [eS152]
  exact mv_met (mt := (⟨"TurnedTabletsModel", "readsItem", "()Z"⟩, prog_7_method_14_code, 2, (some .boolean), { frames := 4, cells := 0, slots := 0, locals := 90 })) rfl (by decide +kernel) vg152 vd152 (S := mv_S) uS152 (ct152 eS143 eS147 eS149 eS150 eS151)
theorem uS153 : ∀ j, j < 153 → mv_Ok l j (mv_S j) := uS_up uS152 oS152 rfl
theorem oS153 : mv_Ok l 153 (mv_S 153) := by
  rw [eS153]
  exact mv_met (mt := (⟨"TurnedTabletsModel", "faultAt", "()I"⟩, prog_7_method_15_code, 2, (some .int), { frames := 5, cells := 0, slots := 0, locals := 111 })) rfl (by decide +kernel) vg153 vd153 (S := mv_S) uS153 (ct153 eS152)
theorem uS154 : ∀ j, j < 154 → mv_Ok l j (mv_S j) := uS_up uS153 oS153 rfl
theorem oS154 : mv_Ok l 154 (mv_S 154) := by
  rw [eS154]
  exact mv_met (mt := (⟨"TurnedTabletsModel", "lay", "()I"⟩, prog_7_method_17_code, 2, (some .int), { frames := 6, cells := 0, slots := 0, locals := 132 })) rfl (by decide +kernel) vg154 vd154 (S := mv_S) uS154 (ct154 eS153)
theorem uS155 : ∀ j, j < 155 → mv_Ok l j (mv_S j) := uS_up uS154 oS154 rfl
theorem oS155 : mv_Ok l 155 (mv_S 155) := by
  rw [eS155]
  exact mv_met (mt := (⟨"TurnedTabletsModel", "<init>", "()V"⟩, prog_7_method_1_code, 2, none, { frames := 7, cells := 23, slots := 42770, locals := 153 })) rfl (by decide +kernel) vg155 vd155 (S := mv_S) uS155 (ct155 eS154)
theorem uS156 : ∀ j, j < 156 → mv_Ok l j (mv_S j) := uS_up uS155 oS155 rfl
theorem oS156 : mv_Ok l 156 (mv_S 156) := by
  rw [eS156]
  exact mv_met (mt := (⟨"TurnedTabletsModel", "copyLoom", "(II)V"⟩, prog_7_method_35_code, 4, none, { frames := 0, cells := 0, slots := 0, locals := 0 })) rfl (by decide +kernel) vg156 vd156 (S := mv_S) uS156 (ct156)
theorem uS157 : ∀ j, j < 157 → mv_Ok l j (mv_S j) := uS_up uS156 oS156 rfl
theorem oS157 : mv_Ok l 157 (mv_S 157) := by
  rw [eS157]
  exact mv_met (mt := (⟨"TurnedTabletsModel", "keepPast", "()V"⟩, prog_7_method_36_code, 2, none, { frames := 1, cells := 0, slots := 0, locals := 23 })) rfl (by decide +kernel) vg157 vd157 (S := mv_S) uS157 (ct157 eS156)
theorem uS158 : ∀ j, j < 158 → mv_Ok l j (mv_S j) := uS_up uS157 oS157 rfl
theorem oS158 : mv_Ok l 158 (mv_S 158) := by
  rw [eS158]
  exact mv_met (mt := (⟨"TurnedTabletsModel", "quarters", "(II)I"⟩, prog_7_method_21_code, 3, (some .int), { frames := 0, cells := 0, slots := 0, locals := 0 })) rfl (by decide +kernel) vg158 vd158 (S := mv_S) uS158 (ct158)
theorem uS159 : ∀ j, j < 159 → mv_Ok l j (mv_S j) := uS_up uS158 oS158 rfl
theorem oS159 : mv_Ok l 159 (mv_S 159) := by
  rw [eS159]
  exact mv_met (mt := (⟨"TurnedTabletsModel", "jams", "(III)Z"⟩, prog_7_method_22_code, 5, (some .boolean), { frames := 1, cells := 0, slots := 0, locals := 25 })) rfl (by decide +kernel) vg159 vd159 (S := mv_S) uS159 (ct159 eS144 eS158)
theorem uS160 : ∀ j, j < 160 → mv_Ok l j (mv_S j) := uS_up uS159 oS159 rfl
theorem oS160 : mv_Ok l 160 (mv_S 160) := by
  rw [eS160]
  exact mv_met (mt := (⟨"TurnedTabletsModel", "turns", "(III)Z"⟩, prog_7_method_23_code, 6, (some .boolean), { frames := 2, cells := 0, slots := 0, locals := 49 })) rfl (by decide +kernel) vg160 vd160 (S := mv_S) uS160 (ct160 eS158 eS159)
theorem uS161 : ∀ j, j < 161 → mv_Ok l j (mv_S j) := uS_up uS160 oS160 rfl
theorem oS161 : mv_Ok l 161 (mv_S 161) := by
  rw [eS161]
  exact mv_met (mt := (⟨"TurnedTabletsModel", "picks", "(III)I"⟩, prog_7_method_27_code, 9, (some .int), { frames := 3, cells := 0, slots := 0, locals := 74 })) rfl (by decide +kernel) vg161 vd161 (S := mv_S) uS161 (ct161 eS148 eS159 eS160)
theorem uS162 : ∀ j, j < 162 → mv_Ok l j (mv_S j) := uS_up uS161 oS161 rfl
theorem oS162 : mv_Ok l 162 (mv_S 162) := by
  rw [eS162]
  exact mv_met (mt := (⟨"TurnedTabletsModel", "coloursAt", "(I)I"⟩, prog_7_method_24_code, 4, (some .int), { frames := 0, cells := 0, slots := 0, locals := 0 })) rfl (by decide +kernel) vg162 vd162 (S := mv_S) uS162 (ct162)
theorem uS163 : ∀ j, j < 163 → mv_Ok l j (mv_S j) := uS_up uS162 oS162 rfl
theorem oS163 : mv_Ok l 163 (mv_S 163) := by
  rw [eS163]
  exact mv_met (mt := (⟨"TurnedTabletsModel", "slantOf", "(II)I"⟩, prog_7_method_25_code, 3, (some .int), { frames := 0, cells := 0, slots := 0, locals := 0 })) rfl (by decide +kernel) vg163 vd163 (S := mv_S) uS163 (ct163)
theorem uS164 : ∀ j, j < 164 → mv_Ok l j (mv_S j) := uS_up uS163 oS163 rfl
theorem oS164 : mv_Ok l 164 (mv_S 164) := by
  rw [eS164]
  exact mv_met (mt := (⟨"TurnedTabletsModel", "slantsAt", "(I)I"⟩, prog_7_method_26_code, 4, (some .int), { frames := 1, cells := 0, slots := 0, locals := 22 })) rfl (by decide +kernel) vg164 vd164 (S := mv_S) uS164 (ct164 eS163)
theorem uS165 : ∀ j, j < 165 → mv_Ok l j (mv_S j) := uS_up uS164 oS164 rfl
theorem oS165 : mv_Ok l 165 (mv_S 165) := by
  rw [eS165]
  exact mv_met (mt := (⟨"TurnedTabletsModel", "weaves", "(III)I"⟩, prog_7_method_28_code, 6, (some .int), { frames := 4, cells := 0, slots := 0, locals := 102 })) rfl (by decide +kernel) vg165 vd165 (S := mv_S) uS165 (ct165 eS161 eS162 eS164)
theorem uS166 : ∀ j, j < 166 → mv_Ok l j (mv_S j) := uS_up uS165 oS165 rfl
theorem oS166 : mv_Ok l 166 (mv_S 166) := by
  rw [eS166]
  exact mv_met (mt := (⟨"TurnedTabletsModel", "again", "()I"⟩, prog_7_method_38_code, 2, (some .int), { frames := 5, cells := 0, slots := 0, locals := 127 })) rfl (by decide +kernel) vg166 vd166 (S := mv_S) uS166 (ct166 eS157 eS165)
theorem uS167 : ∀ j, j < 167 → mv_Ok l j (mv_S j) := uS_up uS166 oS166 rfl
theorem oS167 : mv_Ok l 167 (mv_S 167) := by
  rw [eS167]
  exact mv_met (mt := (⟨"TurnedTabletsModel", "areColours", "(I)Z"⟩, prog_7_method_56_code, 4, (some .boolean), { frames := 1, cells := 0, slots := 0, locals := 25 })) rfl (by decide +kernel) vg167 vd167 (S := mv_S) uS167 (ct167 eS144)
theorem uS168 : ∀ j, j < 168 → mv_Ok l j (mv_S j) := uS_up uS167 oS167 rfl
theorem oS168 : mv_Ok l 168 (mv_S 168) := by
  rw [eS168]
  exact mv_met (mt := (⟨"TurnedTabletsModel", "firstLike", "(II)I"⟩, prog_7_method_49_code, 4, (some .int), { frames := 0, cells := 0, slots := 0, locals := 0 })) rfl (by decide +kernel) vg168 vd168 (S := mv_S) uS168 (ct168)
theorem uS169 : ∀ j, j < 169 → mv_Ok l j (mv_S j) := uS_up uS168 oS168 rfl
theorem oS169 : mv_Ok l 169 (mv_S 169) := by
  rw [eS169]
  exact mv_met (mt := (⟨"TurnedTabletsModel", "layHoles", "()V"⟩, prog_7_method_50_code, 5, none, { frames := 1, cells := 0, slots := 0, locals := 23 })) rfl (by decide +kernel) vg169 vd169 (S := mv_S) uS169 (ct169 eS148 eS158 eS168)
theorem uS170 : ∀ j, j < 170 → mv_Ok l j (mv_S j) := uS_up uS169 oS169 rfl
theorem oS170 : mv_Ok l 170 (mv_S 170) := by
  rw [eS170]
  exact mv_met (mt := (⟨"TurnedTabletsModel", "holesNow", "()I"⟩, prog_7_method_52_code, 3, (some .int), { frames := 0, cells := 0, slots := 0, locals := 0 })) rfl (by decide +kernel) vg170 vd170 (S := mv_S) uS170 (ct170)
theorem uS171 : ∀ j, j < 171 → mv_Ok l j (mv_S j) := uS_up uS170 oS170 rfl
theorem oS171 : mv_Ok l 171 (mv_S 171) := by
  rw [eS171]
  exact mv_met (mt := (⟨"TurnedTabletsModel", "plus", "(II)I"⟩, prog_7_method_51_code, 2, (some .int), { frames := 0, cells := 0, slots := 0, locals := 0 })) rfl (by decide +kernel) vg171 vd171 (S := mv_S) uS171 (ct171)
theorem uS172 : ∀ j, j < 172 → mv_Ok l j (mv_S j) := uS_up uS171 oS171 rfl
theorem oS172 : mv_Ok l 172 (mv_S 172) := by
  rw [eS172]
  exact mv_met (mt := (⟨"TurnedTabletsModel", "amiss", "(I)I"⟩, prog_7_method_67_code, 4, (some .int), { frames := 2, cells := 0, slots := 0, locals := 48 })) rfl (by decide +kernel) vg172 vd172 (S := mv_S) uS172 (ct172 eS167 eS169 eS170 eS171)
theorem uS173 : ∀ j, j < 173 → mv_Ok l j (mv_S j) := uS_up uS172 oS172 rfl
theorem oS173 : mv_Ok l 173 (mv_S 173) := by
  rw [eS173]
  exact mv_met (mt := (⟨"TurnedTabletsModel", "back", "()I"⟩, prog_7_method_71_code, 1, (some .int), { frames := 1, cells := 0, slots := 0, locals := 23 })) rfl (by decide +kernel) vg173 vd173 (S := mv_S) uS173 (ct173 eS156)
theorem uS174 : ∀ j, j < 174 → mv_Ok l j (mv_S j) := uS_up uS173 oS173 rfl
theorem oS174 : mv_Ok l 174 (mv_S 174) := by
  rw [eS174]
  exact mv_met (mt := (⟨"TurnedTabletsModel", "bands", "(III)I"⟩, prog_7_method_69_code, 11, (some .int), { frames := 5, cells := 0, slots := 0, locals := 127 })) rfl (by decide +kernel) vg174 vd174 (S := mv_S) uS174 (ct174 eS144 eS156 eS165)
theorem uS175 : ∀ j, j < 175 → mv_Ok l j (mv_S j) := uS_up uS174 oS174 rfl
theorem oS175 : mv_Ok l 175 (mv_S 175) := by
  rw [eS175]
  exact mv_met (mt := (⟨"TurnedTabletsModel", "bits", "(I)I"⟩, prog_7_method_4_code, 3, (some .int), { frames := 0, cells := 0, slots := 0, locals := 0 })) rfl (by decide +kernel) vg175 vd175 (S := mv_S) uS175 (ct175)
theorem uS176 : ∀ j, j < 176 → mv_Ok l j (mv_S j) := uS_up uS175 oS175 rfl
theorem oS176 : mv_Ok l 176 (mv_S 176) := by
  rw [eS176]
  exact mv_met (mt := (⟨"TurnedTabletsModel", "everyPack", "()I"⟩, prog_7_method_57_code, 1, (some .int), { frames := 0, cells := 0, slots := 0, locals := 0 })) rfl (by decide +kernel) vg176 vd176 (S := mv_S) uS176 (ct176)
theorem uS177 : ∀ j, j < 177 → mv_Ok l j (mv_S j) := uS_up uS176 oS176 rfl
theorem oS177 : mv_Ok l 177 (mv_S 177) := by
  rw [eS177]
  exact mv_met (mt := (⟨"TurnedTabletsModel", "comeTo", "(III)V"⟩, prog_7_method_53_code, 4, none, { frames := 0, cells := 0, slots := 0, locals := 0 })) rfl (by decide +kernel) vg177 vd177 (S := mv_S) uS177 (ct177)
theorem uS178 : ∀ j, j < 178 → mv_Ok l j (mv_S j) := uS_up uS177 oS177 rfl
theorem oS178 : mv_Ok l 178 (mv_S 178) := by
  rw [eS178]
  exact mv_met (mt := (⟨"TurnedTabletsModel", "goOnFrom", "(II)V"⟩, prog_7_method_54_code, 4, none, { frames := 1, cells := 0, slots := 0, locals := 23 })) rfl (by decide +kernel) vg178 vd178 (S := mv_S) uS178 (ct178 eS148 eS171 eS177)
theorem uS179 : ∀ j, j < 179 → mv_Ok l j (mv_S j) := uS_up uS178 oS178 rfl
theorem oS179 : mv_Ok l 179 (mv_S 179) := by
  rw [eS179]
  exact mv_met (mt := (⟨"TurnedTabletsModel", "goTo", "(II)I"⟩, prog_7_method_55_code, 4, (some .int), { frames := 2, cells := 0, slots := 0, locals := 46 })) rfl (by decide +kernel) vg179 vd179 (S := mv_S) uS179 (ct179 eS170 eS177 eS178)
theorem uS180 : ∀ j, j < 180 → mv_Ok l j (mv_S j) := uS_up uS179 oS179 rfl
theorem oS180 : mv_Ok l 180 (mv_S 180) := by
  rw [eS180]
  exact mv_met (mt := (⟨"TurnedTabletsModel", "can", "()I"⟩, prog_7_method_59_code, 4, (some .int), { frames := 3, cells := 0, slots := 0, locals := 69 })) rfl (by decide +kernel) vg180 vd180 (S := mv_S) uS180 (ct180 eS169 eS176 eS179)
theorem uS181 : ∀ j, j < 181 → mv_Ok l j (mv_S j) := uS_up uS180 oS180 rfl
theorem oS181 : mv_Ok l 181 (mv_S 181) := by
  rw [eS181]
  exact mv_met (mt := (⟨"TurnedTabletsModel", "isTablet", "(I)Z"⟩, prog_7_method_18_code, 2, (some .boolean), { frames := 1, cells := 0, slots := 0, locals := 25 })) rfl (by decide +kernel) vg181 vd181 (S := mv_S) uS181 (ct181 eS144)
theorem uS182 : ∀ j, j < 182 → mv_Ok l j (mv_S j) := uS_up uS181 oS181 rfl
theorem oS182 : mv_Ok l 182 (mv_S 182) := by
  rw [eS182]
  exact mv_met (mt := (⟨"TurnedTabletsModel", "comb", "(I)I"⟩, prog_7_method_42_code, 3, (some .int), { frames := 2, cells := 0, slots := 0, locals := 46 })) rfl (by decide +kernel) vg182 vd182 (S := mv_S) uS182 (ct182 eS157 eS181)
theorem uS183 : ∀ j, j < 183 → mv_Ok l j (mv_S j) := uS_up uS182 oS182 rfl
theorem oS183 : mv_Ok l 183 (mv_S 183) := by
  rw [eS183]
  exact mv_met (mt := (⟨"TurnedTabletsModel", "floating", "()I"⟩, prog_7_method_72_code, 3, (some .int), { frames := 0, cells := 0, slots := 0, locals := 0 })) rfl (by decide +kernel) vg183 vd183 (S := mv_S) uS183 (ct183)
theorem uS184 : ∀ j, j < 184 → mv_Ok l j (mv_S j) := uS_up uS183 oS183 rfl
theorem oS184 : mv_Ok l 184 (mv_S 184) := by
  rw [eS184]
  exact mv_met (mt := (⟨"TurnedTabletsModel", "count", "(I)I"⟩, prog_7_method_73_code, 2, (some .int), { frames := 1, cells := 0, slots := 0, locals := 22 })) rfl (by decide +kernel) vg184 vd184 (S := mv_S) uS184 (ct184 eS183)
theorem uS185 : ∀ j, j < 185 → mv_Ok l j (mv_S j) := uS_up uS184 oS184 rfl
theorem oS185 : mv_Ok l 185 (mv_S 185) := by
  rw [eS185]
  exact mv_met (mt := (⟨"TurnedTabletsModel", "cut", "()I"⟩, prog_7_method_43_code, 2, (some .int), { frames := 2, cells := 0, slots := 0, locals := 44 })) rfl (by decide +kernel) vg185 vd185 (S := mv_S) uS185 (ct185 eS157)
theorem uS186 : ∀ j, j < 186 → mv_Ok l j (mv_S j) := uS_up uS185 oS185 rfl
theorem oS186 : mv_Ok l 186 (mv_S 186) := by
  rw [eS186]
  exact mv_met (mt := (⟨"TurnedTabletsModel", "draft", "(I)I"⟩, prog_7_method_32_code, 2, (some .int), { frames := 0, cells := 0, slots := 0, locals := 0 })) rfl (by decide +kernel) vg186 vd186 (S := mv_S) uS186 (ct186)
theorem uS187 : ∀ j, j < 187 → mv_Ok l j (mv_S j) := uS_up uS186 oS186 rfl
theorem oS187 : mv_Ok l 187 (mv_S 187) := by
  rw [eS187]
  exact mv_met (mt := (⟨"TurnedTabletsModel", "fault", "()I"⟩, prog_7_method_16_code, 1, (some .int), { frames := 6, cells := 0, slots := 0, locals := 132 })) rfl (by decide +kernel) vg187 vd187 (S := mv_S) uS187 (ct187 eS153)
theorem uS188 : ∀ j, j < 188 → mv_Ok l j (mv_S j) := uS_up uS187 oS187 rfl
theorem oS188 : mv_Ok l 188 (mv_S 188) := by
  rw [eS188]
  exact mv_met (mt := (⟨"TurnedTabletsModel", "fewest", "(II)I"⟩, prog_7_method_58_code, 7, (some .int), { frames := 3, cells := 0, slots := 0, locals := 69 })) rfl (by decide +kernel) vg188 vd188 (S := mv_S) uS188 (ct188 eS167 eS169 eS176 eS179)
theorem uS189 : ∀ j, j < 189 → mv_Ok l j (mv_S j) := uS_up uS188 oS188 rfl
theorem oS189 : mv_Ok l 189 (mv_S 189) := by
  rw [eS189]
  exact mv_met (mt := (⟨"TurnedTabletsModel", "flip", "(I)I"⟩, prog_7_method_41_code, 2, (some .int), { frames := 2, cells := 0, slots := 0, locals := 46 })) rfl (by decide +kernel) vg189 vd189 (S := mv_S) uS189 (ct189 eS157 eS181)
theorem uS190 : ∀ j, j < 190 → mv_Ok l j (mv_S j) := uS_up uS189 oS189 rfl
theorem oS190 : mv_Ok l 190 (mv_S 190) := by
  rw [eS190]
  exact mv_met (mt := (⟨"TurnedTabletsModel", "forget", "()I"⟩, prog_7_method_62_code, 2, (some .int), { frames := 0, cells := 0, slots := 0, locals := 0 })) rfl (by decide +kernel) vg190 vd190 (S := mv_S) uS190 (ct190)
theorem uS191 : ∀ j, j < 191 → mv_Ok l j (mv_S j) := uS_up uS190 oS190 rfl
theorem oS191 : mv_Ok l 191 (mv_S 191) := by
  rw [eS191]
  exact mv_met (mt := (⟨"TurnedTabletsModel", "gathers", "(I)I"⟩, prog_7_method_45_code, 4, (some .int), { frames := 1, cells := 0, slots := 0, locals := 22 })) rfl (by decide +kernel) vg191 vd191 (S := mv_S) uS191 (ct191 eS148 eS158)
theorem uS192 : ∀ j, j < 192 → mv_Ok l j (mv_S j) := uS_up uS191 oS191 rfl
theorem oS192 : mv_Ok l 192 (mv_S 192) := by
  rw [eS192]
  exact mv_met (mt := (⟨"TurnedTabletsModel", "hole", "(II)I"⟩, prog_7_method_30_code, 3, (some .int), { frames := 2, cells := 0, slots := 0, locals := 46 })) rfl (by decide +kernel) vg192 vd192 (S := mv_S) uS192 (ct192 eS144 eS181)
theorem uS193 : ∀ j, j < 193 → mv_Ok l j (mv_S j) := uS_up uS192 oS192 rfl
theorem oS193 : mv_Ok l 193 (mv_S 193) := by
  rw [eS193]
  exact mv_met (mt := (⟨"TurnedTabletsModel", "isPack", "(I)Z"⟩, prog_7_method_19_code, 2, (some .boolean), { frames := 1, cells := 0, slots := 0, locals := 25 })) rfl (by decide +kernel) vg193 vd193 (S := mv_S) uS193 (ct193 eS144)
theorem uS194 : ∀ j, j < 194 → mv_Ok l j (mv_S j) := uS_up uS193 oS193 rfl
theorem oS194 : mv_Ok l 194 (mv_S 194) := by
  rw [eS194]
  exact mv_met (mt := (⟨"TurnedTabletsModel", "isWay", "(I)Z"⟩, prog_7_method_20_code, 1, (some .boolean), { frames := 1, cells := 0, slots := 0, locals := 25 })) rfl (by decide +kernel) vg194 vd194 (S := mv_S) uS194 (ct194 eS144)
theorem uS195 : ∀ j, j < 195 → mv_Ok l j (mv_S j) := uS_up uS194 oS194 rfl
theorem oS195 : mv_Ok l 195 (mv_S 195) := by
  rw [eS195]
  exact mv_met (mt := (⟨"TurnedTabletsModel", "jammed", "()I"⟩, prog_7_method_48_code, 4, (some .int), { frames := 4, cells := 0, slots := 0, locals := 102 })) rfl (by decide +kernel) vg195 vd195 (S := mv_S) uS195 (ct195 eS156 eS161)
theorem uS196 : ∀ j, j < 196 → mv_Ok l j (mv_S j) := uS_up uS195 oS195 rfl
theorem oS196 : mv_Ok l 196 (mv_S 196) := by
  rw [eS196]
  exact mv_met (mt := (⟨"TurnedTabletsModel", "keep", "()I"⟩, prog_7_method_70_code, 1, (some .int), { frames := 1, cells := 0, slots := 0, locals := 23 })) rfl (by decide +kernel) vg196 vd196 (S := mv_S) uS196 (ct196 eS156)
theorem uS197 : ∀ j, j < 197 → mv_Ok l j (mv_S j) := uS_up uS196 oS196 rfl
theorem oS197 : mv_Ok l 197 (mv_S 197) := by
  rw [eS197]
  exact mv_met (mt := (⟨"TurnedTabletsModel", "waysOn", "(II)I"⟩, prog_7_method_64_code, 6, (some .int), { frames := 1, cells := 0, slots := 0, locals := 21 })) rfl (by decide +kernel) vg197 vd197 (S := mv_S) uS197 (ct197 eS171)
theorem uS198 : ∀ j, j < 198 → mv_Ok l j (mv_S j) := uS_up uS197 oS197 rfl
theorem oS198 : mv_Ok l 198 (mv_S 198) := by
  rw [eS198]
  exact mv_met (mt := (⟨"TurnedTabletsModel", "layWays", "()V"⟩, prog_7_method_63_code, 3, none, { frames := 2, cells := 0, slots := 0, locals := 47 })) rfl (by decide +kernel) vg198 vd198 (S := mv_S) uS198 (ct198 eS169 eS197)
theorem uS199 : ∀ j, j < 199 → mv_Ok l j (mv_S j) := uS_up uS198 oS198 rfl
theorem oS199 : mv_Ok l 199 (mv_S 199) := by
  rw [eS199]
  exact mv_met (mt := (⟨"TurnedTabletsModel", "lies", "()I"⟩, prog_7_method_66_code, 3, (some .int), { frames := 3, cells := 0, slots := 0, locals := 69 })) rfl (by decide +kernel) vg199 vd199 (S := mv_S) uS199 (ct199 eS198)
theorem uS200 : ∀ j, j < 200 → mv_Ok l j (mv_S j) := uS_up uS199 oS199 rfl
theorem oS200 : mv_Ok l 200 (mv_S 200) := by
  rw [eS200]
  exact mv_met (mt := (⟨"TurnedTabletsModel", "needs", "(I)I"⟩, prog_7_method_60_code, 5, (some .int), { frames := 3, cells := 0, slots := 0, locals := 69 })) rfl (by decide +kernel) vg200 vd200 (S := mv_S) uS200 (ct200 eS167 eS169 eS175 eS176 eS179)
theorem uS201 : ∀ j, j < 201 → mv_Ok l j (mv_S j) := uS_up uS200 oS200 rfl
theorem oS201 : mv_Ok l 201 (mv_S 201) := by
  rw [eS201]
  exact mv_met (mt := (⟨"TurnedTabletsModel", "pack", "(I)I"⟩, prog_7_method_31_code, 2, (some .int), { frames := 2, cells := 0, slots := 0, locals := 46 })) rfl (by decide +kernel) vg201 vd201 (S := mv_S) uS201 (ct201 eS193)
theorem uS202 : ∀ j, j < 202 → mv_Ok l j (mv_S j) := uS_up uS201 oS201 rfl
theorem oS202 : mv_Ok l 202 (mv_S 202) := by
  rw [eS202]
  exact mv_met (mt := (⟨"TurnedTabletsModel", "round", "()I"⟩, prog_7_method_46_code, 5, (some .int), { frames := 2, cells := 0, slots := 0, locals := 45 })) rfl (by decide +kernel) vg202 vd202 (S := mv_S) uS202 (ct202 eS191)
theorem uS203 : ∀ j, j < 203 → mv_Ok l j (mv_S j) := uS_up uS202 oS202 rfl
theorem oS203 : mv_Ok l 203 (mv_S 203) := by
  rw [eS203]
  exact mv_met (mt := (⟨"TurnedTabletsModel", "row", "(II)I"⟩, prog_7_method_34_code, 3, (some .int), { frames := 1, cells := 0, slots := 0, locals := 25 })) rfl (by decide +kernel) vg203 vd203 (S := mv_S) uS203 (ct203 eS144)
theorem uS204 : ∀ j, j < 204 → mv_Ok l j (mv_S j) := uS_up uS203 oS203 rfl
theorem oS204 : mv_Ok l 204 (mv_S 204) := by
  rw [eS204]
  exact mv_met (mt := (⟨"TurnedTabletsModel", "see", "(I)I"⟩, prog_7_method_61_code, 2, (some .int), { frames := 2, cells := 0, slots := 0, locals := 48 })) rfl (by decide +kernel) vg204 vd204 (S := mv_S) uS204 (ct204 eS167)
theorem uS205 : ∀ j, j < 205 → mv_Ok l j (mv_S j) := uS_up uS204 oS204 rfl
theorem oS205 : mv_Ok l 205 (mv_S 205) := by
  rw [eS205]
  exact mv_met (mt := (⟨"TurnedTabletsModel", "slips", "(IIII)I"⟩, prog_7_method_68_code, 11, (some .int), { frames := 4, cells := 0, slots := 0, locals := 102 })) rfl (by decide +kernel) vg205 vd205 (S := mv_S) uS205 (ct205 eS144 eS148 eS156 eS160 eS161 eS162 eS193 eS194)
theorem uS206 : ∀ j, j < 206 → mv_Ok l j (mv_S j) := uS_up uS205 oS205 rfl
theorem oS206 : mv_Ok l 206 (mv_S 206) := by
  rw [eS206]
  exact mv_met (mt := (⟨"TurnedTabletsModel", "tablet", "(II)I"⟩, prog_7_method_29_code, 3, (some .int), { frames := 2, cells := 0, slots := 0, locals := 46 })) rfl (by decide +kernel) vg206 vd206 (S := mv_S) uS206 (ct206 eS163 eS181)
theorem uS207 : ∀ j, j < 207 → mv_Ok l j (mv_S j) := uS_up uS206 oS206 rfl
theorem oS207 : mv_Ok l 207 (mv_S 207) := by
  rw [eS207]
  exact mv_met (mt := (⟨"TurnedTabletsModel", "top", "(I)I"⟩, prog_7_method_33_code, 2, (some .int), { frames := 2, cells := 0, slots := 0, locals := 45 })) rfl (by decide +kernel) vg207 vd207 (S := mv_S) uS207 (ct207 eS162 eS164)
theorem uS208 : ∀ j, j < 208 → mv_Ok l j (mv_S j) := uS_up uS207 oS207 rfl
theorem oS208 : mv_Ok l 208 (mv_S 208) := by
  rw [eS208]
  exact mv_met (mt := (⟨"TurnedTabletsModel", "turn", "(II)I"⟩, prog_7_method_40_code, 3, (some .int), { frames := 3, cells := 0, slots := 0, locals := 74 })) rfl (by decide +kernel) vg208 vd208 (S := mv_S) uS208 (ct208 eS157 eS159 eS160 eS181 eS194)
theorem uS209 : ∀ j, j < 209 → mv_Ok l j (mv_S j) := uS_up uS208 oS208 rfl
theorem oS209 : mv_Ok l 209 (mv_S 209) := by
  rw [eS209]
  exact mv_met (mt := (⟨"TurnedTabletsModel", "twist", "(I)I"⟩, prog_7_method_47_code, 2, (some .int), { frames := 2, cells := 0, slots := 0, locals := 46 })) rfl (by decide +kernel) vg209 vd209 (S := mv_S) uS209 (ct209 eS181 eS191)
theorem uS210 : ∀ j, j < 210 → mv_Ok l j (mv_S j) := uS_up uS209 oS209 rfl
theorem oS210 : mv_Ok l 210 (mv_S 210) := by
  rw [eS210]
  exact mv_met (mt := (⟨"TurnedTabletsModel", "undo", "()I"⟩, prog_7_method_44_code, 1, (some .int), { frames := 1, cells := 0, slots := 0, locals := 23 })) rfl (by decide +kernel) vg210 vd210 (S := mv_S) uS210 (ct210 eS156)
theorem uS211 : ∀ j, j < 211 → mv_Ok l j (mv_S j) := uS_up uS210 oS210 rfl
theorem oS211 : mv_Ok l 211 (mv_S 211) := by
  rw [eS211]
  exact mv_met (mt := (⟨"TurnedTabletsModel", "unweave", "()I"⟩, prog_7_method_39_code, 2, (some .int), { frames := 2, cells := 0, slots := 0, locals := 44 })) rfl (by decide +kernel) vg211 vd211 (S := mv_S) uS211 (ct211 eS157)
theorem uS212 : ∀ j, j < 212 → mv_Ok l j (mv_S j) := uS_up uS211 oS211 rfl
theorem oS212 : mv_Ok l 212 (mv_S 212) := by
  rw [eS212]
  exact mv_met (mt := (⟨"TurnedTabletsModel", "ways", "()I"⟩, prog_7_method_65_code, 1, (some .int), { frames := 3, cells := 0, slots := 0, locals := 69 })) rfl (by decide +kernel) vg212 vd212 (S := mv_S) uS212 (ct212 eS170 eS198)
theorem uS213 : ∀ j, j < 213 → mv_Ok l j (mv_S j) := uS_up uS212 oS212 rfl
theorem oS213 : mv_Ok l 213 (mv_S 213) := by
  rw [eS213]
  exact mv_met (mt := (⟨"TurnedTabletsModel", "weave", "(II)I"⟩, prog_7_method_37_code, 3, (some .int), { frames := 5, cells := 0, slots := 0, locals := 127 })) rfl (by decide +kernel) vg213 vd213 (S := mv_S) uS213 (ct213 eS157 eS162 eS165 eS193 eS194)
theorem uS214 : ∀ j, j < 214 → mv_Ok l j (mv_S j) := uS_up uS213 oS213 rfl
theorem oS214 : mv_Ok l 214 (mv_S 214) := by
  rw [eS214]
  exact mv_met (mt := (⟨"TurnedTabletsModel", "wipe", "()I"⟩, prog_7_method_6_code, 2, (some .int), { frames := 0, cells := 0, slots := 0, locals := 0 })) rfl (by decide +kernel) vg214 vd214 (S := mv_S) uS214 (ct214)
theorem uS215 : ∀ j, j < 215 → mv_Ok l j (mv_S j) := uS_up uS214 oS214 rfl
theorem oS215 : mv_Ok l 215 (mv_S 215) := by
  rw [eS215]
  exact mv_met (mt := (⟨"TurnedTabletsModel", "write", "(I)I"⟩, prog_7_method_5_code, 2, (some .int), { frames := 1, cells := 0, slots := 0, locals := 25 })) rfl (by decide +kernel) vg215 vd215 (S := mv_S) uS215 (ct215 eS144)
theorem uS216 : ∀ j, j < 216 → mv_Ok l j (mv_S j) := uS_up uS215 oS215 rfl
end
