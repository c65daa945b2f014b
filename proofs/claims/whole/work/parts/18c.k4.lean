/-! the code lists are the code, and what they link is among the words -/
theorem vg163 : mv_goods 163 mk163 = true := by decide +kernel
theorem vd163 : mv_decs prog_7_method_25_code mk163 := by
  unfold mv_decs
  decide +kernel
theorem vg164 : mv_goods 164 mk164 = true := by decide +kernel
theorem vd164 : mv_decs prog_7_method_26_code mk164 := by
  unfold mv_decs
  decide +kernel
theorem vg165 : mv_goods 165 mk165 = true := by decide +kernel
theorem vd165 : mv_decs prog_7_method_28_code mk165 := by
  unfold mv_decs
  decide +kernel
theorem vg166 : mv_goods 166 mk166 = true := by decide +kernel
theorem vd166 : mv_decs prog_7_method_38_code mk166 := by
  unfold mv_decs
  decide +kernel
theorem vg167 : mv_goods 167 mk167 = true := by decide +kernel
theorem vd167 : mv_decs prog_7_method_56_code mk167 := by
  unfold mv_decs
  decide +kernel
theorem vg168 : mv_goods 168 mk168 = true := by decide +kernel
theorem vd168 : mv_decs prog_7_method_49_code mk168 := by
  unfold mv_decs
  decide +kernel
theorem vg169 : mv_goods 169 mk169 = true := by decide +kernel
theorem vd169 : mv_decs prog_7_method_50_code mk169 := by
  unfold mv_decs
  decide +kernel
theorem vg170 : mv_goods 170 mk170 = true := by decide +kernel
theorem vd170 : mv_decs prog_7_method_52_code mk170 := by
  unfold mv_decs
  decide +kernel
theorem vg171 : mv_goods 171 mk171 = true := by decide +kernel
theorem vd171 : mv_decs prog_7_method_51_code mk171 := by
  unfold mv_decs
  decide +kernel
theorem vg172 : mv_goods 172 mk172 = true := by decide +kernel
theorem vd172 : mv_decs prog_7_method_67_code mk172 := by
  unfold mv_decs
  decide +kernel
theorem vg173 : mv_goods 173 mk173 = true := by decide +kernel
theorem vd173 : mv_decs prog_7_method_71_code mk173 := by
  unfold mv_decs
  decide +kernel
theorem vg174 : mv_goods 174 mk174 = true := by decide +kernel
theorem vd174 : mv_decs prog_7_method_69_code mk174 := by
  unfold mv_decs
  decide +kernel
theorem vg175 : mv_goods 175 mk175 = true := by decide +kernel
theorem vd175 : mv_decs prog_7_method_4_code mk175 := by
  unfold mv_decs
  decide +kernel
theorem vg176 : mv_goods 176 mk176 = true := by decide +kernel
theorem vd176 : mv_decs prog_7_method_57_code mk176 := by
  unfold mv_decs
  decide +kernel
theorem vg177 : mv_goods 177 mk177 = true := by decide +kernel
theorem vd177 : mv_decs prog_7_method_53_code mk177 := by
  unfold mv_decs
  decide +kernel
theorem vg178 : mv_goods 178 mk178 = true := by decide +kernel
theorem vd178 : mv_decs prog_7_method_54_code mk178 := by
  unfold mv_decs
  decide +kernel
theorem vg179 : mv_goods 179 mk179 = true := by decide +kernel
theorem vd179 : mv_decs prog_7_method_55_code mk179 := by
  unfold mv_decs
  decide +kernel
theorem vg180 : mv_goods 180 mk180 = true := by decide +kernel
theorem vd180 : mv_decs prog_7_method_59_code mk180 := by
  unfold mv_decs
  decide +kernel
theorem vg181 : mv_goods 181 mk181 = true := by decide +kernel
theorem vd181 : mv_decs prog_7_method_18_code mk181 := by
  unfold mv_decs
  decide +kernel
theorem vg182 : mv_goods 182 mk182 = true := by decide +kernel
theorem vd182 : mv_decs prog_7_method_42_code mk182 := by
  unfold mv_decs
  decide +kernel
theorem vg183 : mv_goods 183 mk183 = true := by decide +kernel
theorem vd183 : mv_decs prog_7_method_72_code mk183 := by
  unfold mv_decs
  decide +kernel
theorem vg184 : mv_goods 184 mk184 = true := by decide +kernel
theorem vd184 : mv_decs prog_7_method_73_code mk184 := by
  unfold mv_decs
  decide +kernel
theorem vg185 : mv_goods 185 mk185 = true := by decide +kernel
theorem vd185 : mv_decs prog_7_method_43_code mk185 := by
  unfold mv_decs
  decide +kernel
theorem vg186 : mv_goods 186 mk186 = true := by decide +kernel
theorem vd186 : mv_decs prog_7_method_32_code mk186 := by
  unfold mv_decs
  decide +kernel
theorem vg187 : mv_goods 187 mk187 = true := by decide +kernel
theorem vd187 : mv_decs prog_7_method_16_code mk187 := by
  unfold mv_decs
  decide +kernel
theorem vg188 : mv_goods 188 mk188 = true := by decide +kernel
theorem vd188 : mv_decs prog_7_method_58_code mk188 := by
  unfold mv_decs
  decide +kernel
theorem vg189 : mv_goods 189 mk189 = true := by decide +kernel
theorem vd189 : mv_decs prog_7_method_41_code mk189 := by
  unfold mv_decs
  decide +kernel
theorem vg190 : mv_goods 190 mk190 = true := by decide +kernel
theorem vd190 : mv_decs prog_7_method_62_code mk190 := by
  unfold mv_decs
  decide +kernel
theorem vg191 : mv_goods 191 mk191 = true := by decide +kernel
theorem vd191 : mv_decs prog_7_method_45_code mk191 := by
  unfold mv_decs
  decide +kernel
theorem vg192 : mv_goods 192 mk192 = true := by decide +kernel
theorem vd192 : mv_decs prog_7_method_30_code mk192 := by
  unfold mv_decs
  decide +kernel
theorem vg193 : mv_goods 193 mk193 = true := by decide +kernel
theorem vd193 : mv_decs prog_7_method_19_code mk193 := by
  unfold mv_decs
  decide +kernel
theorem vg194 : mv_goods 194 mk194 = true := by decide +kernel
theorem vd194 : mv_decs prog_7_method_20_code mk194 := by
  unfold mv_decs
  decide +kernel
theorem vg195 : mv_goods 195 mk195 = true := by decide +kernel
theorem vd195 : mv_decs prog_7_method_48_code mk195 := by
  unfold mv_decs
  decide +kernel
theorem vg196 : mv_goods 196 mk196 = true := by decide +kernel
theorem vd196 : mv_decs prog_7_method_70_code mk196 := by
  unfold mv_decs
  decide +kernel
theorem vg197 : mv_goods 197 mk197 = true := by decide +kernel
theorem vd197 : mv_decs prog_7_method_64_code mk197 := by
  unfold mv_decs
  decide +kernel
theorem vg198 : mv_goods 198 mk198 = true := by decide +kernel
theorem vd198 : mv_decs prog_7_method_63_code mk198 := by
  unfold mv_decs
  decide +kernel
theorem vg199 : mv_goods 199 mk199 = true := by decide +kernel
theorem vd199 : mv_decs prog_7_method_66_code mk199 := by
  unfold mv_decs
  decide +kernel
theorem vg200 : mv_goods 200 mk200 = true := by decide +kernel
theorem vd200 : mv_decs prog_7_method_60_code mk200 := by
  unfold mv_decs
  decide +kernel
theorem vg201 : mv_goods 201 mk201 = true := by decide +kernel
theorem vd201 : mv_decs prog_7_method_31_code mk201 := by
  unfold mv_decs
  decide +kernel
theorem vg202 : mv_goods 202 mk202 = true := by decide +kernel
theorem vd202 : mv_decs prog_7_method_46_code mk202 := by
  unfold mv_decs
  decide +kernel
theorem vg203 : mv_goods 203 mk203 = true := by decide +kernel
theorem vd203 : mv_decs prog_7_method_34_code mk203 := by
  unfold mv_decs
  decide +kernel
theorem vg204 : mv_goods 204 mk204 = true := by decide +kernel
theorem vd204 : mv_decs prog_7_method_61_code mk204 := by
  unfold mv_decs
  decide +kernel
theorem vg205 : mv_goods 205 mk205 = true := by decide +kernel
theorem vd205 : mv_decs prog_7_method_68_code mk205 := by
  unfold mv_decs
  decide +kernel
theorem vg206 : mv_goods 206 mk206 = true := by decide +kernel
theorem vd206 : mv_decs prog_7_method_29_code mk206 := by
  unfold mv_decs
  decide +kernel
theorem vg207 : mv_goods 207 mk207 = true := by decide +kernel
theorem vd207 : mv_decs prog_7_method_33_code mk207 := by
  unfold mv_decs
  decide +kernel
theorem vg208 : mv_goods 208 mk208 = true := by decide +kernel
theorem vd208 : mv_decs prog_7_method_40_code mk208 := by
  unfold mv_decs
  decide +kernel
theorem vg209 : mv_goods 209 mk209 = true := by decide +kernel
theorem vd209 : mv_decs prog_7_method_47_code mk209 := by
  unfold mv_decs
  decide +kernel
theorem vg210 : mv_goods 210 mk210 = true := by decide +kernel
theorem vd210 : mv_decs prog_7_method_44_code mk210 := by
  unfold mv_decs
  decide +kernel
theorem vg211 : mv_goods 211 mk211 = true := by decide +kernel
theorem vd211 : mv_decs prog_7_method_39_code mk211 := by
  unfold mv_decs
  decide +kernel
theorem vg212 : mv_goods 212 mk212 = true := by decide +kernel
theorem vd212 : mv_decs prog_7_method_65_code mk212 := by
  unfold mv_decs
  decide +kernel
theorem vg213 : mv_goods 213 mk213 = true := by decide +kernel
theorem vd213 : mv_decs prog_7_method_37_code mk213 := by
  unfold mv_decs
  decide +kernel
theorem vg214 : mv_goods 214 mk214 = true := by decide +kernel
theorem vd214 : mv_decs prog_7_method_6_code mk214 := by
  unfold mv_decs
  decide +kernel
theorem vg215 : mv_goods 215 mk215 = true := by decide +kernel
theorem vd215 : mv_decs prog_7_method_5_code mk215 := by
  unfold mv_decs
  decide +kernel
