/-! all lanes, all f (wip/places/gen_nums.py) -/
theorem sl_f_all {f : Nat} (h0 : 100 ≤ f) (h1 : f ≤ 990) : sl_all f = true := by
  by_cases h545 : f < 545
  · skip
    by_cases h322 : f < 322
    · skip
      by_cases h211 : f < 211
      · skip
        by_cases h155 : f < 155
        · skip
          by_cases h127 : f < 127
          · skip
            by_cases h113 : f < 113
            · skip
              by_cases h106 : f < 106
              · skip
                by_cases h103 : f < 103
                · skip
                  by_cases h101 : f < 101
                  · skip
                    obtain rfl : f = 100 := by omega
                    exact sl_f100
                  · skip
                    by_cases h102 : f < 102
                    · skip
                      obtain rfl : f = 101 := by omega
                      exact sl_f101
                    · skip
                      obtain rfl : f = 102 := by omega
                      exact sl_f102
                · skip
                  by_cases h104 : f < 104
                  · skip
                    obtain rfl : f = 103 := by omega
                    exact sl_f103
                  · skip
                    by_cases h105 : f < 105
                    · skip
                      obtain rfl : f = 104 := by omega
                      exact sl_f104
                    · skip
                      obtain rfl : f = 105 := by omega
                      exact sl_f105
              · skip
                by_cases h109 : f < 109
                · skip
                  by_cases h107 : f < 107
                  · skip
                    obtain rfl : f = 106 := by omega
                    exact sl_f106
                  · skip
                    by_cases h108 : f < 108
                    · skip
                      obtain rfl : f = 107 := by omega
                      exact sl_f107
                    · skip
                      obtain rfl : f = 108 := by omega
                      exact sl_f108
                · skip
                  by_cases h111 : f < 111
                  · skip
                    by_cases h110 : f < 110
                    · skip
                      obtain rfl : f = 109 := by omega
                      exact sl_f109
                    · skip
                      obtain rfl : f = 110 := by omega
                      exact sl_f110
                  · skip
                    by_cases h112 : f < 112
                    · skip
                      obtain rfl : f = 111 := by omega
                      exact sl_f111
                    · skip
                      obtain rfl : f = 112 := by omega
                      exact sl_f112
            · skip
              by_cases h120 : f < 120
              · skip
                by_cases h116 : f < 116
                · skip
                  by_cases h114 : f < 114
                  · skip
                    obtain rfl : f = 113 := by omega
                    exact sl_f113
                  · skip
                    by_cases h115 : f < 115
                    · skip
                      obtain rfl : f = 114 := by omega
                      exact sl_f114
                    · skip
                      obtain rfl : f = 115 := by omega
                      exact sl_f115
                · skip
                  by_cases h118 : f < 118
                  · skip
                    by_cases h117 : f < 117
                    · skip
                      obtain rfl : f = 116 := by omega
                      exact sl_f116
                    · skip
                      obtain rfl : f = 117 := by omega
                      exact sl_f117
                  · skip
                    by_cases h119 : f < 119
                    · skip
                      obtain rfl : f = 118 := by omega
                      exact sl_f118
                    · skip
                      obtain rfl : f = 119 := by omega
                      exact sl_f119
              · skip
                by_cases h123 : f < 123
                · skip
                  by_cases h121 : f < 121
                  · skip
                    obtain rfl : f = 120 := by omega
                    exact sl_f120
                  · skip
                    by_cases h122 : f < 122
                    · skip
                      obtain rfl : f = 121 := by omega
                      exact sl_f121
                    · skip
                      obtain rfl : f = 122 := by omega
                      exact sl_f122
                · skip
                  by_cases h125 : f < 125
                  · skip
                    by_cases h124 : f < 124
                    · skip
                      obtain rfl : f = 123 := by omega
                      exact sl_f123
                    · skip
                      obtain rfl : f = 124 := by omega
                      exact sl_f124
                  · skip
                    by_cases h126 : f < 126
                    · skip
                      obtain rfl : f = 125 := by omega
                      exact sl_f125
                    · skip
                      obtain rfl : f = 126 := by omega
                      exact sl_f126
          · skip
            by_cases h141 : f < 141
            · skip
              by_cases h134 : f < 134
              · skip
                by_cases h130 : f < 130
                · skip
                  by_cases h128 : f < 128
                  · skip
                    obtain rfl : f = 127 := by omega
                    exact sl_f127
                  · skip
                    by_cases h129 : f < 129
                    · skip
                      obtain rfl : f = 128 := by omega
                      exact sl_f128
                    · skip
                      obtain rfl : f = 129 := by omega
                      exact sl_f129
                · skip
                  by_cases h132 : f < 132
                  · skip
                    by_cases h131 : f < 131
                    · skip
                      obtain rfl : f = 130 := by omega
                      exact sl_f130
                    · skip
                      obtain rfl : f = 131 := by omega
                      exact sl_f131
                  · skip
                    by_cases h133 : f < 133
                    · skip
                      obtain rfl : f = 132 := by omega
                      exact sl_f132
                    · skip
                      obtain rfl : f = 133 := by omega
                      exact sl_f133
              · skip
                by_cases h137 : f < 137
                · skip
                  by_cases h135 : f < 135
                  · skip
                    obtain rfl : f = 134 := by omega
                    exact sl_f134
                  · skip
                    by_cases h136 : f < 136
                    · skip
                      obtain rfl : f = 135 := by omega
                      exact sl_f135
                    · skip
                      obtain rfl : f = 136 := by omega
                      exact sl_f136
                · skip
                  by_cases h139 : f < 139
                  · skip
                    by_cases h138 : f < 138
                    · skip
                      obtain rfl : f = 137 := by omega
                      exact sl_f137
                    · skip
                      obtain rfl : f = 138 := by omega
                      exact sl_f138
                  · skip
                    by_cases h140 : f < 140
                    · skip
                      obtain rfl : f = 139 := by omega
                      exact sl_f139
                    · skip
                      obtain rfl : f = 140 := by omega
                      exact sl_f140
            · skip
              by_cases h148 : f < 148
              · skip
                by_cases h144 : f < 144
                · skip
                  by_cases h142 : f < 142
                  · skip
                    obtain rfl : f = 141 := by omega
                    exact sl_f141
                  · skip
                    by_cases h143 : f < 143
                    · skip
                      obtain rfl : f = 142 := by omega
                      exact sl_f142
                    · skip
                      obtain rfl : f = 143 := by omega
                      exact sl_f143
                · skip
                  by_cases h146 : f < 146
                  · skip
                    by_cases h145 : f < 145
                    · skip
                      obtain rfl : f = 144 := by omega
                      exact sl_f144
                    · skip
                      obtain rfl : f = 145 := by omega
                      exact sl_f145
                  · skip
                    by_cases h147 : f < 147
                    · skip
                      obtain rfl : f = 146 := by omega
                      exact sl_f146
                    · skip
                      obtain rfl : f = 147 := by omega
                      exact sl_f147
              · skip
                by_cases h151 : f < 151
                · skip
                  by_cases h149 : f < 149
                  · skip
                    obtain rfl : f = 148 := by omega
                    exact sl_f148
                  · skip
                    by_cases h150 : f < 150
                    · skip
                      obtain rfl : f = 149 := by omega
                      exact sl_f149
                    · skip
                      obtain rfl : f = 150 := by omega
                      exact sl_f150
                · skip
                  by_cases h153 : f < 153
                  · skip
                    by_cases h152 : f < 152
                    · skip
                      obtain rfl : f = 151 := by omega
                      exact sl_f151
                    · skip
                      obtain rfl : f = 152 := by omega
                      exact sl_f152
                  · skip
                    by_cases h154 : f < 154
                    · skip
                      obtain rfl : f = 153 := by omega
                      exact sl_f153
                    · skip
                      obtain rfl : f = 154 := by omega
                      exact sl_f154
        · skip
          by_cases h183 : f < 183
          · skip
            by_cases h169 : f < 169
            · skip
              by_cases h162 : f < 162
              · skip
                by_cases h158 : f < 158
                · skip
                  by_cases h156 : f < 156
                  · skip
                    obtain rfl : f = 155 := by omega
                    exact sl_f155
                  · skip
                    by_cases h157 : f < 157
                    · skip
                      obtain rfl : f = 156 := by omega
                      exact sl_f156
                    · skip
                      obtain rfl : f = 157 := by omega
                      exact sl_f157
                · skip
                  by_cases h160 : f < 160
                  · skip
                    by_cases h159 : f < 159
                    · skip
                      obtain rfl : f = 158 := by omega
                      exact sl_f158
                    · skip
                      obtain rfl : f = 159 := by omega
                      exact sl_f159
                  · skip
                    by_cases h161 : f < 161
                    · skip
                      obtain rfl : f = 160 := by omega
                      exact sl_f160
                    · skip
                      obtain rfl : f = 161 := by omega
                      exact sl_f161
              · skip
                by_cases h165 : f < 165
                · skip
                  by_cases h163 : f < 163
                  · skip
                    obtain rfl : f = 162 := by omega
                    exact sl_f162
                  · skip
                    by_cases h164 : f < 164
                    · skip
                      obtain rfl : f = 163 := by omega
                      exact sl_f163
                    · skip
                      obtain rfl : f = 164 := by omega
                      exact sl_f164
                · skip
                  by_cases h167 : f < 167
                  · skip
                    by_cases h166 : f < 166
                    · skip
                      obtain rfl : f = 165 := by omega
                      exact sl_f165
                    · skip
                      obtain rfl : f = 166 := by omega
                      exact sl_f166
                  · skip
                    by_cases h168 : f < 168
                    · skip
                      obtain rfl : f = 167 := by omega
                      exact sl_f167
                    · skip
                      obtain rfl : f = 168 := by omega
                      exact sl_f168
            · skip
              by_cases h176 : f < 176
              · skip
                by_cases h172 : f < 172
                · skip
                  by_cases h170 : f < 170
                  · skip
                    obtain rfl : f = 169 := by omega
                    exact sl_f169
                  · skip
                    by_cases h171 : f < 171
                    · skip
                      obtain rfl : f = 170 := by omega
                      exact sl_f170
                    · skip
                      obtain rfl : f = 171 := by omega
                      exact sl_f171
                · skip
                  by_cases h174 : f < 174
                  · skip
                    by_cases h173 : f < 173
                    · skip
                      obtain rfl : f = 172 := by omega
                      exact sl_f172
                    · skip
                      obtain rfl : f = 173 := by omega
                      exact sl_f173
                  · skip
                    by_cases h175 : f < 175
                    · skip
                      obtain rfl : f = 174 := by omega
                      exact sl_f174
                    · skip
                      obtain rfl : f = 175 := by omega
                      exact sl_f175
              · skip
                by_cases h179 : f < 179
                · skip
                  by_cases h177 : f < 177
                  · skip
                    obtain rfl : f = 176 := by omega
                    exact sl_f176
                  · skip
                    by_cases h178 : f < 178
                    · skip
                      obtain rfl : f = 177 := by omega
                      exact sl_f177
                    · skip
                      obtain rfl : f = 178 := by omega
                      exact sl_f178
                · skip
                  by_cases h181 : f < 181
                  · skip
                    by_cases h180 : f < 180
                    · skip
                      obtain rfl : f = 179 := by omega
                      exact sl_f179
                    · skip
                      obtain rfl : f = 180 := by omega
                      exact sl_f180
                  · skip
                    by_cases h182 : f < 182
                    · skip
                      obtain rfl : f = 181 := by omega
                      exact sl_f181
                    · skip
                      obtain rfl : f = 182 := by omega
                      exact sl_f182
          · skip
            by_cases h197 : f < 197
            · skip
              by_cases h190 : f < 190
              · skip
                by_cases h186 : f < 186
                · skip
                  by_cases h184 : f < 184
                  · skip
                    obtain rfl : f = 183 := by omega
                    exact sl_f183
                  · skip
                    by_cases h185 : f < 185
                    · skip
                      obtain rfl : f = 184 := by omega
                      exact sl_f184
                    · skip
                      obtain rfl : f = 185 := by omega
                      exact sl_f185
                · skip
                  by_cases h188 : f < 188
                  · skip
                    by_cases h187 : f < 187
                    · skip
                      obtain rfl : f = 186 := by omega
                      exact sl_f186
                    · skip
                      obtain rfl : f = 187 := by omega
                      exact sl_f187
                  · skip
                    by_cases h189 : f < 189
                    · skip
                      obtain rfl : f = 188 := by omega
                      exact sl_f188
                    · skip
                      obtain rfl : f = 189 := by omega
                      exact sl_f189
              · skip
                by_cases h193 : f < 193
                · skip
                  by_cases h191 : f < 191
                  · skip
                    obtain rfl : f = 190 := by omega
                    exact sl_f190
                  · skip
                    by_cases h192 : f < 192
                    · skip
                      obtain rfl : f = 191 := by omega
                      exact sl_f191
                    · skip
                      obtain rfl : f = 192 := by omega
                      exact sl_f192
                · skip
                  by_cases h195 : f < 195
                  · skip
                    by_cases h194 : f < 194
                    · skip
                      obtain rfl : f = 193 := by omega
                      exact sl_f193
                    · skip
                      obtain rfl : f = 194 := by omega
                      exact sl_f194
                  · skip
                    by_cases h196 : f < 196
                    · skip
                      obtain rfl : f = 195 := by omega
                      exact sl_f195
                    · skip
                      obtain rfl : f = 196 := by omega
                      exact sl_f196
            · skip
              by_cases h204 : f < 204
              · skip
                by_cases h200 : f < 200
                · skip
                  by_cases h198 : f < 198
                  · skip
                    obtain rfl : f = 197 := by omega
                    exact sl_f197
                  · skip
                    by_cases h199 : f < 199
                    · skip
                      obtain rfl : f = 198 := by omega
                      exact sl_f198
                    · skip
                      obtain rfl : f = 199 := by omega
                      exact sl_f199
                · skip
                  by_cases h202 : f < 202
                  · skip
                    by_cases h201 : f < 201
                    · skip
                      obtain rfl : f = 200 := by omega
                      exact sl_f200
                    · skip
                      obtain rfl : f = 201 := by omega
                      exact sl_f201
                  · skip
                    by_cases h203 : f < 203
                    · skip
                      obtain rfl : f = 202 := by omega
                      exact sl_f202
                    · skip
                      obtain rfl : f = 203 := by omega
                      exact sl_f203
              · skip
                by_cases h207 : f < 207
                · skip
                  by_cases h205 : f < 205
                  · skip
                    obtain rfl : f = 204 := by omega
                    exact sl_f204
                  · skip
                    by_cases h206 : f < 206
                    · skip
                      obtain rfl : f = 205 := by omega
                      exact sl_f205
                    · skip
                      obtain rfl : f = 206 := by omega
                      exact sl_f206
                · skip
                  by_cases h209 : f < 209
                  · skip
                    by_cases h208 : f < 208
                    · skip
                      obtain rfl : f = 207 := by omega
                      exact sl_f207
                    · skip
                      obtain rfl : f = 208 := by omega
                      exact sl_f208
                  · skip
                    by_cases h210 : f < 210
                    · skip
                      obtain rfl : f = 209 := by omega
                      exact sl_f209
                    · skip
                      obtain rfl : f = 210 := by omega
                      exact sl_f210
      · skip
        by_cases h266 : f < 266
        · skip
          by_cases h238 : f < 238
          · skip
            by_cases h224 : f < 224
            · skip
              by_cases h217 : f < 217
              · skip
                by_cases h214 : f < 214
                · skip
                  by_cases h212 : f < 212
                  · skip
                    obtain rfl : f = 211 := by omega
                    exact sl_f211
                  · skip
                    by_cases h213 : f < 213
                    · skip
                      obtain rfl : f = 212 := by omega
                      exact sl_f212
                    · skip
                      obtain rfl : f = 213 := by omega
                      exact sl_f213
                · skip
                  by_cases h215 : f < 215
                  · skip
                    obtain rfl : f = 214 := by omega
                    exact sl_f214
                  · skip
                    by_cases h216 : f < 216
                    · skip
                      obtain rfl : f = 215 := by omega
                      exact sl_f215
                    · skip
                      obtain rfl : f = 216 := by omega
                      exact sl_f216
              · skip
                by_cases h220 : f < 220
                · skip
                  by_cases h218 : f < 218
                  · skip
                    obtain rfl : f = 217 := by omega
                    exact sl_f217
                  · skip
                    by_cases h219 : f < 219
                    · skip
                      obtain rfl : f = 218 := by omega
                      exact sl_f218
                    · skip
                      obtain rfl : f = 219 := by omega
                      exact sl_f219
                · skip
                  by_cases h222 : f < 222
                  · skip
                    by_cases h221 : f < 221
                    · skip
                      obtain rfl : f = 220 := by omega
                      exact sl_f220
                    · skip
                      obtain rfl : f = 221 := by omega
                      exact sl_f221
                  · skip
                    by_cases h223 : f < 223
                    · skip
                      obtain rfl : f = 222 := by omega
                      exact sl_f222
                    · skip
                      obtain rfl : f = 223 := by omega
                      exact sl_f223
            · skip
              by_cases h231 : f < 231
              · skip
                by_cases h227 : f < 227
                · skip
                  by_cases h225 : f < 225
                  · skip
                    obtain rfl : f = 224 := by omega
                    exact sl_f224
                  · skip
                    by_cases h226 : f < 226
                    · skip
                      obtain rfl : f = 225 := by omega
                      exact sl_f225
                    · skip
                      obtain rfl : f = 226 := by omega
                      exact sl_f226
                · skip
                  by_cases h229 : f < 229
                  · skip
                    by_cases h228 : f < 228
                    · skip
                      obtain rfl : f = 227 := by omega
                      exact sl_f227
                    · skip
                      obtain rfl : f = 228 := by omega
                      exact sl_f228
                  · skip
                    by_cases h230 : f < 230
                    · skip
                      obtain rfl : f = 229 := by omega
                      exact sl_f229
                    · skip
                      obtain rfl : f = 230 := by omega
                      exact sl_f230
              · skip
                by_cases h234 : f < 234
                · skip
                  by_cases h232 : f < 232
                  · skip
                    obtain rfl : f = 231 := by omega
                    exact sl_f231
                  · skip
                    by_cases h233 : f < 233
                    · skip
                      obtain rfl : f = 232 := by omega
                      exact sl_f232
                    · skip
                      obtain rfl : f = 233 := by omega
                      exact sl_f233
                · skip
                  by_cases h236 : f < 236
                  · skip
                    by_cases h235 : f < 235
                    · skip
                      obtain rfl : f = 234 := by omega
                      exact sl_f234
                    · skip
                      obtain rfl : f = 235 := by omega
                      exact sl_f235
                  · skip
                    by_cases h237 : f < 237
                    · skip
                      obtain rfl : f = 236 := by omega
                      exact sl_f236
                    · skip
                      obtain rfl : f = 237 := by omega
                      exact sl_f237
          · skip
            by_cases h252 : f < 252
            · skip
              by_cases h245 : f < 245
              · skip
                by_cases h241 : f < 241
                · skip
                  by_cases h239 : f < 239
                  · skip
                    obtain rfl : f = 238 := by omega
                    exact sl_f238
                  · skip
                    by_cases h240 : f < 240
                    · skip
                      obtain rfl : f = 239 := by omega
                      exact sl_f239
                    · skip
                      obtain rfl : f = 240 := by omega
                      exact sl_f240
                · skip
                  by_cases h243 : f < 243
                  · skip
                    by_cases h242 : f < 242
                    · skip
                      obtain rfl : f = 241 := by omega
                      exact sl_f241
                    · skip
                      obtain rfl : f = 242 := by omega
                      exact sl_f242
                  · skip
                    by_cases h244 : f < 244
                    · skip
                      obtain rfl : f = 243 := by omega
                      exact sl_f243
                    · skip
                      obtain rfl : f = 244 := by omega
                      exact sl_f244
              · skip
                by_cases h248 : f < 248
                · skip
                  by_cases h246 : f < 246
                  · skip
                    obtain rfl : f = 245 := by omega
                    exact sl_f245
                  · skip
                    by_cases h247 : f < 247
                    · skip
                      obtain rfl : f = 246 := by omega
                      exact sl_f246
                    · skip
                      obtain rfl : f = 247 := by omega
                      exact sl_f247
                · skip
                  by_cases h250 : f < 250
                  · skip
                    by_cases h249 : f < 249
                    · skip
                      obtain rfl : f = 248 := by omega
                      exact sl_f248
                    · skip
                      obtain rfl : f = 249 := by omega
                      exact sl_f249
                  · skip
                    by_cases h251 : f < 251
                    · skip
                      obtain rfl : f = 250 := by omega
                      exact sl_f250
                    · skip
                      obtain rfl : f = 251 := by omega
                      exact sl_f251
            · skip
              by_cases h259 : f < 259
              · skip
                by_cases h255 : f < 255
                · skip
                  by_cases h253 : f < 253
                  · skip
                    obtain rfl : f = 252 := by omega
                    exact sl_f252
                  · skip
                    by_cases h254 : f < 254
                    · skip
                      obtain rfl : f = 253 := by omega
                      exact sl_f253
                    · skip
                      obtain rfl : f = 254 := by omega
                      exact sl_f254
                · skip
                  by_cases h257 : f < 257
                  · skip
                    by_cases h256 : f < 256
                    · skip
                      obtain rfl : f = 255 := by omega
                      exact sl_f255
                    · skip
                      obtain rfl : f = 256 := by omega
                      exact sl_f256
                  · skip
                    by_cases h258 : f < 258
                    · skip
                      obtain rfl : f = 257 := by omega
                      exact sl_f257
                    · skip
                      obtain rfl : f = 258 := by omega
                      exact sl_f258
              · skip
                by_cases h262 : f < 262
                · skip
                  by_cases h260 : f < 260
                  · skip
                    obtain rfl : f = 259 := by omega
                    exact sl_f259
                  · skip
                    by_cases h261 : f < 261
                    · skip
                      obtain rfl : f = 260 := by omega
                      exact sl_f260
                    · skip
                      obtain rfl : f = 261 := by omega
                      exact sl_f261
                · skip
                  by_cases h264 : f < 264
                  · skip
                    by_cases h263 : f < 263
                    · skip
                      obtain rfl : f = 262 := by omega
                      exact sl_f262
                    · skip
                      obtain rfl : f = 263 := by omega
                      exact sl_f263
                  · skip
                    by_cases h265 : f < 265
                    · skip
                      obtain rfl : f = 264 := by omega
                      exact sl_f264
                    · skip
                      obtain rfl : f = 265 := by omega
                      exact sl_f265
        · skip
          by_cases h294 : f < 294
          · skip
            by_cases h280 : f < 280
            · skip
              by_cases h273 : f < 273
              · skip
                by_cases h269 : f < 269
                · skip
                  by_cases h267 : f < 267
                  · skip
                    obtain rfl : f = 266 := by omega
                    exact sl_f266
                  · skip
                    by_cases h268 : f < 268
                    · skip
                      obtain rfl : f = 267 := by omega
                      exact sl_f267
                    · skip
                      obtain rfl : f = 268 := by omega
                      exact sl_f268
                · skip
                  by_cases h271 : f < 271
                  · skip
                    by_cases h270 : f < 270
                    · skip
                      obtain rfl : f = 269 := by omega
                      exact sl_f269
                    · skip
                      obtain rfl : f = 270 := by omega
                      exact sl_f270
                  · skip
                    by_cases h272 : f < 272
                    · skip
                      obtain rfl : f = 271 := by omega
                      exact sl_f271
                    · skip
                      obtain rfl : f = 272 := by omega
                      exact sl_f272
              · skip
                by_cases h276 : f < 276
                · skip
                  by_cases h274 : f < 274
                  · skip
                    obtain rfl : f = 273 := by omega
                    exact sl_f273
                  · skip
                    by_cases h275 : f < 275
                    · skip
                      obtain rfl : f = 274 := by omega
                      exact sl_f274
                    · skip
                      obtain rfl : f = 275 := by omega
                      exact sl_f275
                · skip
                  by_cases h278 : f < 278
                  · skip
                    by_cases h277 : f < 277
                    · skip
                      obtain rfl : f = 276 := by omega
                      exact sl_f276
                    · skip
                      obtain rfl : f = 277 := by omega
                      exact sl_f277
                  · skip
                    by_cases h279 : f < 279
                    · skip
                      obtain rfl : f = 278 := by omega
                      exact sl_f278
                    · skip
                      obtain rfl : f = 279 := by omega
                      exact sl_f279
            · skip
              by_cases h287 : f < 287
              · skip
                by_cases h283 : f < 283
                · skip
                  by_cases h281 : f < 281
                  · skip
                    obtain rfl : f = 280 := by omega
                    exact sl_f280
                  · skip
                    by_cases h282 : f < 282
                    · skip
                      obtain rfl : f = 281 := by omega
                      exact sl_f281
                    · skip
                      obtain rfl : f = 282 := by omega
                      exact sl_f282
                · skip
                  by_cases h285 : f < 285
                  · skip
                    by_cases h284 : f < 284
                    · skip
                      obtain rfl : f = 283 := by omega
                      exact sl_f283
                    · skip
                      obtain rfl : f = 284 := by omega
                      exact sl_f284
                  · skip
                    by_cases h286 : f < 286
                    · skip
                      obtain rfl : f = 285 := by omega
                      exact sl_f285
                    · skip
                      obtain rfl : f = 286 := by omega
                      exact sl_f286
              · skip
                by_cases h290 : f < 290
                · skip
                  by_cases h288 : f < 288
                  · skip
                    obtain rfl : f = 287 := by omega
                    exact sl_f287
                  · skip
                    by_cases h289 : f < 289
                    · skip
                      obtain rfl : f = 288 := by omega
                      exact sl_f288
                    · skip
                      obtain rfl : f = 289 := by omega
                      exact sl_f289
                · skip
                  by_cases h292 : f < 292
                  · skip
                    by_cases h291 : f < 291
                    · skip
                      obtain rfl : f = 290 := by omega
                      exact sl_f290
                    · skip
                      obtain rfl : f = 291 := by omega
                      exact sl_f291
                  · skip
                    by_cases h293 : f < 293
                    · skip
                      obtain rfl : f = 292 := by omega
                      exact sl_f292
                    · skip
                      obtain rfl : f = 293 := by omega
                      exact sl_f293
          · skip
            by_cases h308 : f < 308
            · skip
              by_cases h301 : f < 301
              · skip
                by_cases h297 : f < 297
                · skip
                  by_cases h295 : f < 295
                  · skip
                    obtain rfl : f = 294 := by omega
                    exact sl_f294
                  · skip
                    by_cases h296 : f < 296
                    · skip
                      obtain rfl : f = 295 := by omega
                      exact sl_f295
                    · skip
                      obtain rfl : f = 296 := by omega
                      exact sl_f296
                · skip
                  by_cases h299 : f < 299
                  · skip
                    by_cases h298 : f < 298
                    · skip
                      obtain rfl : f = 297 := by omega
                      exact sl_f297
                    · skip
                      obtain rfl : f = 298 := by omega
                      exact sl_f298
                  · skip
                    by_cases h300 : f < 300
                    · skip
                      obtain rfl : f = 299 := by omega
                      exact sl_f299
                    · skip
                      obtain rfl : f = 300 := by omega
                      exact sl_f300
              · skip
                by_cases h304 : f < 304
                · skip
                  by_cases h302 : f < 302
                  · skip
                    obtain rfl : f = 301 := by omega
                    exact sl_f301
                  · skip
                    by_cases h303 : f < 303
                    · skip
                      obtain rfl : f = 302 := by omega
                      exact sl_f302
                    · skip
                      obtain rfl : f = 303 := by omega
                      exact sl_f303
                · skip
                  by_cases h306 : f < 306
                  · skip
                    by_cases h305 : f < 305
                    · skip
                      obtain rfl : f = 304 := by omega
                      exact sl_f304
                    · skip
                      obtain rfl : f = 305 := by omega
                      exact sl_f305
                  · skip
                    by_cases h307 : f < 307
                    · skip
                      obtain rfl : f = 306 := by omega
                      exact sl_f306
                    · skip
                      obtain rfl : f = 307 := by omega
                      exact sl_f307
            · skip
              by_cases h315 : f < 315
              · skip
                by_cases h311 : f < 311
                · skip
                  by_cases h309 : f < 309
                  · skip
                    obtain rfl : f = 308 := by omega
                    exact sl_f308
                  · skip
                    by_cases h310 : f < 310
                    · skip
                      obtain rfl : f = 309 := by omega
                      exact sl_f309
                    · skip
                      obtain rfl : f = 310 := by omega
                      exact sl_f310
                · skip
                  by_cases h313 : f < 313
                  · skip
                    by_cases h312 : f < 312
                    · skip
                      obtain rfl : f = 311 := by omega
                      exact sl_f311
                    · skip
                      obtain rfl : f = 312 := by omega
                      exact sl_f312
                  · skip
                    by_cases h314 : f < 314
                    · skip
                      obtain rfl : f = 313 := by omega
                      exact sl_f313
                    · skip
                      obtain rfl : f = 314 := by omega
                      exact sl_f314
              · skip
                by_cases h318 : f < 318
                · skip
                  by_cases h316 : f < 316
                  · skip
                    obtain rfl : f = 315 := by omega
                    exact sl_f315
                  · skip
                    by_cases h317 : f < 317
                    · skip
                      obtain rfl : f = 316 := by omega
                      exact sl_f316
                    · skip
                      obtain rfl : f = 317 := by omega
                      exact sl_f317
                · skip
                  by_cases h320 : f < 320
                  · skip
                    by_cases h319 : f < 319
                    · skip
                      obtain rfl : f = 318 := by omega
                      exact sl_f318
                    · skip
                      obtain rfl : f = 319 := by omega
                      exact sl_f319
                  · skip
                    by_cases h321 : f < 321
                    · skip
                      obtain rfl : f = 320 := by omega
                      exact sl_f320
                    · skip
                      obtain rfl : f = 321 := by omega
                      exact sl_f321
    · skip
      by_cases h433 : f < 433
      · skip
        by_cases h377 : f < 377
        · skip
          by_cases h349 : f < 349
          · skip
            by_cases h335 : f < 335
            · skip
              by_cases h328 : f < 328
              · skip
                by_cases h325 : f < 325
                · skip
                  by_cases h323 : f < 323
                  · skip
                    obtain rfl : f = 322 := by omega
                    exact sl_f322
                  · skip
                    by_cases h324 : f < 324
                    · skip
                      obtain rfl : f = 323 := by omega
                      exact sl_f323
                    · skip
                      obtain rfl : f = 324 := by omega
                      exact sl_f324
                · skip
                  by_cases h326 : f < 326
                  · skip
                    obtain rfl : f = 325 := by omega
                    exact sl_f325
                  · skip
                    by_cases h327 : f < 327
                    · skip
                      obtain rfl : f = 326 := by omega
                      exact sl_f326
                    · skip
                      obtain rfl : f = 327 := by omega
                      exact sl_f327
              · skip
                by_cases h331 : f < 331
                · skip
                  by_cases h329 : f < 329
                  · skip
                    obtain rfl : f = 328 := by omega
                    exact sl_f328
                  · skip
                    by_cases h330 : f < 330
                    · skip
                      obtain rfl : f = 329 := by omega
                      exact sl_f329
                    · skip
                      obtain rfl : f = 330 := by omega
                      exact sl_f330
                · skip
                  by_cases h333 : f < 333
                  · skip
                    by_cases h332 : f < 332
                    · skip
                      obtain rfl : f = 331 := by omega
                      exact sl_f331
                    · skip
                      obtain rfl : f = 332 := by omega
                      exact sl_f332
                  · skip
                    by_cases h334 : f < 334
                    · skip
                      obtain rfl : f = 333 := by omega
                      exact sl_f333
                    · skip
                      obtain rfl : f = 334 := by omega
                      exact sl_f334
            · skip
              by_cases h342 : f < 342
              · skip
                by_cases h338 : f < 338
                · skip
                  by_cases h336 : f < 336
                  · skip
                    obtain rfl : f = 335 := by omega
                    exact sl_f335
                  · skip
                    by_cases h337 : f < 337
                    · skip
                      obtain rfl : f = 336 := by omega
                      exact sl_f336
                    · skip
                      obtain rfl : f = 337 := by omega
                      exact sl_f337
                · skip
                  by_cases h340 : f < 340
                  · skip
                    by_cases h339 : f < 339
                    · skip
                      obtain rfl : f = 338 := by omega
                      exact sl_f338
                    · skip
                      obtain rfl : f = 339 := by omega
                      exact sl_f339
                  · skip
                    by_cases h341 : f < 341
                    · skip
                      obtain rfl : f = 340 := by omega
                      exact sl_f340
                    · skip
                      obtain rfl : f = 341 := by omega
                      exact sl_f341
              · skip
                by_cases h345 : f < 345
                · skip
                  by_cases h343 : f < 343
                  · skip
                    obtain rfl : f = 342 := by omega
                    exact sl_f342
                  · skip
                    by_cases h344 : f < 344
                    · skip
                      obtain rfl : f = 343 := by omega
                      exact sl_f343
                    · skip
                      obtain rfl : f = 344 := by omega
                      exact sl_f344
                · skip
                  by_cases h347 : f < 347
                  · skip
                    by_cases h346 : f < 346
                    · skip
                      obtain rfl : f = 345 := by omega
                      exact sl_f345
                    · skip
                      obtain rfl : f = 346 := by omega
                      exact sl_f346
                  · skip
                    by_cases h348 : f < 348
                    · skip
                      obtain rfl : f = 347 := by omega
                      exact sl_f347
                    · skip
                      obtain rfl : f = 348 := by omega
                      exact sl_f348
          · skip
            by_cases h363 : f < 363
            · skip
              by_cases h356 : f < 356
              · skip
                by_cases h352 : f < 352
                · skip
                  by_cases h350 : f < 350
                  · skip
                    obtain rfl : f = 349 := by omega
                    exact sl_f349
                  · skip
                    by_cases h351 : f < 351
                    · skip
                      obtain rfl : f = 350 := by omega
                      exact sl_f350
                    · skip
                      obtain rfl : f = 351 := by omega
                      exact sl_f351
                · skip
                  by_cases h354 : f < 354
                  · skip
                    by_cases h353 : f < 353
                    · skip
                      obtain rfl : f = 352 := by omega
                      exact sl_f352
                    · skip
                      obtain rfl : f = 353 := by omega
                      exact sl_f353
                  · skip
                    by_cases h355 : f < 355
                    · skip
                      obtain rfl : f = 354 := by omega
                      exact sl_f354
                    · skip
                      obtain rfl : f = 355 := by omega
                      exact sl_f355
              · skip
                by_cases h359 : f < 359
                · skip
                  by_cases h357 : f < 357
                  · skip
                    obtain rfl : f = 356 := by omega
                    exact sl_f356
                  · skip
                    by_cases h358 : f < 358
                    · skip
                      obtain rfl : f = 357 := by omega
                      exact sl_f357
                    · skip
                      obtain rfl : f = 358 := by omega
                      exact sl_f358
                · skip
                  by_cases h361 : f < 361
                  · skip
                    by_cases h360 : f < 360
                    · skip
                      obtain rfl : f = 359 := by omega
                      exact sl_f359
                    · skip
                      obtain rfl : f = 360 := by omega
                      exact sl_f360
                  · skip
                    by_cases h362 : f < 362
                    · skip
                      obtain rfl : f = 361 := by omega
                      exact sl_f361
                    · skip
                      obtain rfl : f = 362 := by omega
                      exact sl_f362
            · skip
              by_cases h370 : f < 370
              · skip
                by_cases h366 : f < 366
                · skip
                  by_cases h364 : f < 364
                  · skip
                    obtain rfl : f = 363 := by omega
                    exact sl_f363
                  · skip
                    by_cases h365 : f < 365
                    · skip
                      obtain rfl : f = 364 := by omega
                      exact sl_f364
                    · skip
                      obtain rfl : f = 365 := by omega
                      exact sl_f365
                · skip
                  by_cases h368 : f < 368
                  · skip
                    by_cases h367 : f < 367
                    · skip
                      obtain rfl : f = 366 := by omega
                      exact sl_f366
                    · skip
                      obtain rfl : f = 367 := by omega
                      exact sl_f367
                  · skip
                    by_cases h369 : f < 369
                    · skip
                      obtain rfl : f = 368 := by omega
                      exact sl_f368
                    · skip
                      obtain rfl : f = 369 := by omega
                      exact sl_f369
              · skip
                by_cases h373 : f < 373
                · skip
                  by_cases h371 : f < 371
                  · skip
                    obtain rfl : f = 370 := by omega
                    exact sl_f370
                  · skip
                    by_cases h372 : f < 372
                    · skip
                      obtain rfl : f = 371 := by omega
                      exact sl_f371
                    · skip
                      obtain rfl : f = 372 := by omega
                      exact sl_f372
                · skip
                  by_cases h375 : f < 375
                  · skip
                    by_cases h374 : f < 374
                    · skip
                      obtain rfl : f = 373 := by omega
                      exact sl_f373
                    · skip
                      obtain rfl : f = 374 := by omega
                      exact sl_f374
                  · skip
                    by_cases h376 : f < 376
                    · skip
                      obtain rfl : f = 375 := by omega
                      exact sl_f375
                    · skip
                      obtain rfl : f = 376 := by omega
                      exact sl_f376
        · skip
          by_cases h405 : f < 405
          · skip
            by_cases h391 : f < 391
            · skip
              by_cases h384 : f < 384
              · skip
                by_cases h380 : f < 380
                · skip
                  by_cases h378 : f < 378
                  · skip
                    obtain rfl : f = 377 := by omega
                    exact sl_f377
                  · skip
                    by_cases h379 : f < 379
                    · skip
                      obtain rfl : f = 378 := by omega
                      exact sl_f378
                    · skip
                      obtain rfl : f = 379 := by omega
                      exact sl_f379
                · skip
                  by_cases h382 : f < 382
                  · skip
                    by_cases h381 : f < 381
                    · skip
                      obtain rfl : f = 380 := by omega
                      exact sl_f380
                    · skip
                      obtain rfl : f = 381 := by omega
                      exact sl_f381
                  · skip
                    by_cases h383 : f < 383
                    · skip
                      obtain rfl : f = 382 := by omega
                      exact sl_f382
                    · skip
                      obtain rfl : f = 383 := by omega
                      exact sl_f383
              · skip
                by_cases h387 : f < 387
                · skip
                  by_cases h385 : f < 385
                  · skip
                    obtain rfl : f = 384 := by omega
                    exact sl_f384
                  · skip
                    by_cases h386 : f < 386
                    · skip
                      obtain rfl : f = 385 := by omega
                      exact sl_f385
                    · skip
                      obtain rfl : f = 386 := by omega
                      exact sl_f386
                · skip
                  by_cases h389 : f < 389
                  · skip
                    by_cases h388 : f < 388
                    · skip
                      obtain rfl : f = 387 := by omega
                      exact sl_f387
                    · skip
                      obtain rfl : f = 388 := by omega
                      exact sl_f388
                  · skip
                    by_cases h390 : f < 390
                    · skip
                      obtain rfl : f = 389 := by omega
                      exact sl_f389
                    · skip
                      obtain rfl : f = 390 := by omega
                      exact sl_f390
            · skip
              by_cases h398 : f < 398
              · skip
                by_cases h394 : f < 394
                · skip
                  by_cases h392 : f < 392
                  · skip
                    obtain rfl : f = 391 := by omega
                    exact sl_f391
                  · skip
                    by_cases h393 : f < 393
                    · skip
                      obtain rfl : f = 392 := by omega
                      exact sl_f392
                    · skip
                      obtain rfl : f = 393 := by omega
                      exact sl_f393
                · skip
                  by_cases h396 : f < 396
                  · skip
                    by_cases h395 : f < 395
                    · skip
                      obtain rfl : f = 394 := by omega
                      exact sl_f394
                    · skip
                      obtain rfl : f = 395 := by omega
                      exact sl_f395
                  · skip
                    by_cases h397 : f < 397
                    · skip
                      obtain rfl : f = 396 := by omega
                      exact sl_f396
                    · skip
                      obtain rfl : f = 397 := by omega
                      exact sl_f397
              · skip
                by_cases h401 : f < 401
                · skip
                  by_cases h399 : f < 399
                  · skip
                    obtain rfl : f = 398 := by omega
                    exact sl_f398
                  · skip
                    by_cases h400 : f < 400
                    · skip
                      obtain rfl : f = 399 := by omega
                      exact sl_f399
                    · skip
                      obtain rfl : f = 400 := by omega
                      exact sl_f400
                · skip
                  by_cases h403 : f < 403
                  · skip
                    by_cases h402 : f < 402
                    · skip
                      obtain rfl : f = 401 := by omega
                      exact sl_f401
                    · skip
                      obtain rfl : f = 402 := by omega
                      exact sl_f402
                  · skip
                    by_cases h404 : f < 404
                    · skip
                      obtain rfl : f = 403 := by omega
                      exact sl_f403
                    · skip
                      obtain rfl : f = 404 := by omega
                      exact sl_f404
          · skip
            by_cases h419 : f < 419
            · skip
              by_cases h412 : f < 412
              · skip
                by_cases h408 : f < 408
                · skip
                  by_cases h406 : f < 406
                  · skip
                    obtain rfl : f = 405 := by omega
                    exact sl_f405
                  · skip
                    by_cases h407 : f < 407
                    · skip
                      obtain rfl : f = 406 := by omega
                      exact sl_f406
                    · skip
                      obtain rfl : f = 407 := by omega
                      exact sl_f407
                · skip
                  by_cases h410 : f < 410
                  · skip
                    by_cases h409 : f < 409
                    · skip
                      obtain rfl : f = 408 := by omega
                      exact sl_f408
                    · skip
                      obtain rfl : f = 409 := by omega
                      exact sl_f409
                  · skip
                    by_cases h411 : f < 411
                    · skip
                      obtain rfl : f = 410 := by omega
                      exact sl_f410
                    · skip
                      obtain rfl : f = 411 := by omega
                      exact sl_f411
              · skip
                by_cases h415 : f < 415
                · skip
                  by_cases h413 : f < 413
                  · skip
                    obtain rfl : f = 412 := by omega
                    exact sl_f412
                  · skip
                    by_cases h414 : f < 414
                    · skip
                      obtain rfl : f = 413 := by omega
                      exact sl_f413
                    · skip
                      obtain rfl : f = 414 := by omega
                      exact sl_f414
                · skip
                  by_cases h417 : f < 417
                  · skip
                    by_cases h416 : f < 416
                    · skip
                      obtain rfl : f = 415 := by omega
                      exact sl_f415
                    · skip
                      obtain rfl : f = 416 := by omega
                      exact sl_f416
                  · skip
                    by_cases h418 : f < 418
                    · skip
                      obtain rfl : f = 417 := by omega
                      exact sl_f417
                    · skip
                      obtain rfl : f = 418 := by omega
                      exact sl_f418
            · skip
              by_cases h426 : f < 426
              · skip
                by_cases h422 : f < 422
                · skip
                  by_cases h420 : f < 420
                  · skip
                    obtain rfl : f = 419 := by omega
                    exact sl_f419
                  · skip
                    by_cases h421 : f < 421
                    · skip
                      obtain rfl : f = 420 := by omega
                      exact sl_f420
                    · skip
                      obtain rfl : f = 421 := by omega
                      exact sl_f421
                · skip
                  by_cases h424 : f < 424
                  · skip
                    by_cases h423 : f < 423
                    · skip
                      obtain rfl : f = 422 := by omega
                      exact sl_f422
                    · skip
                      obtain rfl : f = 423 := by omega
                      exact sl_f423
                  · skip
                    by_cases h425 : f < 425
                    · skip
                      obtain rfl : f = 424 := by omega
                      exact sl_f424
                    · skip
                      obtain rfl : f = 425 := by omega
                      exact sl_f425
              · skip
                by_cases h429 : f < 429
                · skip
                  by_cases h427 : f < 427
                  · skip
                    obtain rfl : f = 426 := by omega
                    exact sl_f426
                  · skip
                    by_cases h428 : f < 428
                    · skip
                      obtain rfl : f = 427 := by omega
                      exact sl_f427
                    · skip
                      obtain rfl : f = 428 := by omega
                      exact sl_f428
                · skip
                  by_cases h431 : f < 431
                  · skip
                    by_cases h430 : f < 430
                    · skip
                      obtain rfl : f = 429 := by omega
                      exact sl_f429
                    · skip
                      obtain rfl : f = 430 := by omega
                      exact sl_f430
                  · skip
                    by_cases h432 : f < 432
                    · skip
                      obtain rfl : f = 431 := by omega
                      exact sl_f431
                    · skip
                      obtain rfl : f = 432 := by omega
                      exact sl_f432
      · skip
        by_cases h489 : f < 489
        · skip
          by_cases h461 : f < 461
          · skip
            by_cases h447 : f < 447
            · skip
              by_cases h440 : f < 440
              · skip
                by_cases h436 : f < 436
                · skip
                  by_cases h434 : f < 434
                  · skip
                    obtain rfl : f = 433 := by omega
                    exact sl_f433
                  · skip
                    by_cases h435 : f < 435
                    · skip
                      obtain rfl : f = 434 := by omega
                      exact sl_f434
                    · skip
                      obtain rfl : f = 435 := by omega
                      exact sl_f435
                · skip
                  by_cases h438 : f < 438
                  · skip
                    by_cases h437 : f < 437
                    · skip
                      obtain rfl : f = 436 := by omega
                      exact sl_f436
                    · skip
                      obtain rfl : f = 437 := by omega
                      exact sl_f437
                  · skip
                    by_cases h439 : f < 439
                    · skip
                      obtain rfl : f = 438 := by omega
                      exact sl_f438
                    · skip
                      obtain rfl : f = 439 := by omega
                      exact sl_f439
              · skip
                by_cases h443 : f < 443
                · skip
                  by_cases h441 : f < 441
                  · skip
                    obtain rfl : f = 440 := by omega
                    exact sl_f440
                  · skip
                    by_cases h442 : f < 442
                    · skip
                      obtain rfl : f = 441 := by omega
                      exact sl_f441
                    · skip
                      obtain rfl : f = 442 := by omega
                      exact sl_f442
                · skip
                  by_cases h445 : f < 445
                  · skip
                    by_cases h444 : f < 444
                    · skip
                      obtain rfl : f = 443 := by omega
                      exact sl_f443
                    · skip
                      obtain rfl : f = 444 := by omega
                      exact sl_f444
                  · skip
                    by_cases h446 : f < 446
                    · skip
                      obtain rfl : f = 445 := by omega
                      exact sl_f445
                    · skip
                      obtain rfl : f = 446 := by omega
                      exact sl_f446
            · skip
              by_cases h454 : f < 454
              · skip
                by_cases h450 : f < 450
                · skip
                  by_cases h448 : f < 448
                  · skip
                    obtain rfl : f = 447 := by omega
                    exact sl_f447
                  · skip
                    by_cases h449 : f < 449
                    · skip
                      obtain rfl : f = 448 := by omega
                      exact sl_f448
                    · skip
                      obtain rfl : f = 449 := by omega
                      exact sl_f449
                · skip
                  by_cases h452 : f < 452
                  · skip
                    by_cases h451 : f < 451
                    · skip
                      obtain rfl : f = 450 := by omega
                      exact sl_f450
                    · skip
                      obtain rfl : f = 451 := by omega
                      exact sl_f451
                  · skip
                    by_cases h453 : f < 453
                    · skip
                      obtain rfl : f = 452 := by omega
                      exact sl_f452
                    · skip
                      obtain rfl : f = 453 := by omega
                      exact sl_f453
              · skip
                by_cases h457 : f < 457
                · skip
                  by_cases h455 : f < 455
                  · skip
                    obtain rfl : f = 454 := by omega
                    exact sl_f454
                  · skip
                    by_cases h456 : f < 456
                    · skip
                      obtain rfl : f = 455 := by omega
                      exact sl_f455
                    · skip
                      obtain rfl : f = 456 := by omega
                      exact sl_f456
                · skip
                  by_cases h459 : f < 459
                  · skip
                    by_cases h458 : f < 458
                    · skip
                      obtain rfl : f = 457 := by omega
                      exact sl_f457
                    · skip
                      obtain rfl : f = 458 := by omega
                      exact sl_f458
                  · skip
                    by_cases h460 : f < 460
                    · skip
                      obtain rfl : f = 459 := by omega
                      exact sl_f459
                    · skip
                      obtain rfl : f = 460 := by omega
                      exact sl_f460
          · skip
            by_cases h475 : f < 475
            · skip
              by_cases h468 : f < 468
              · skip
                by_cases h464 : f < 464
                · skip
                  by_cases h462 : f < 462
                  · skip
                    obtain rfl : f = 461 := by omega
                    exact sl_f461
                  · skip
                    by_cases h463 : f < 463
                    · skip
                      obtain rfl : f = 462 := by omega
                      exact sl_f462
                    · skip
                      obtain rfl : f = 463 := by omega
                      exact sl_f463
                · skip
                  by_cases h466 : f < 466
                  · skip
                    by_cases h465 : f < 465
                    · skip
                      obtain rfl : f = 464 := by omega
                      exact sl_f464
                    · skip
                      obtain rfl : f = 465 := by omega
                      exact sl_f465
                  · skip
                    by_cases h467 : f < 467
                    · skip
                      obtain rfl : f = 466 := by omega
                      exact sl_f466
                    · skip
                      obtain rfl : f = 467 := by omega
                      exact sl_f467
              · skip
                by_cases h471 : f < 471
                · skip
                  by_cases h469 : f < 469
                  · skip
                    obtain rfl : f = 468 := by omega
                    exact sl_f468
                  · skip
                    by_cases h470 : f < 470
                    · skip
                      obtain rfl : f = 469 := by omega
                      exact sl_f469
                    · skip
                      obtain rfl : f = 470 := by omega
                      exact sl_f470
                · skip
                  by_cases h473 : f < 473
                  · skip
                    by_cases h472 : f < 472
                    · skip
                      obtain rfl : f = 471 := by omega
                      exact sl_f471
                    · skip
                      obtain rfl : f = 472 := by omega
                      exact sl_f472
                  · skip
                    by_cases h474 : f < 474
                    · skip
                      obtain rfl : f = 473 := by omega
                      exact sl_f473
                    · skip
                      obtain rfl : f = 474 := by omega
                      exact sl_f474
            · skip
              by_cases h482 : f < 482
              · skip
                by_cases h478 : f < 478
                · skip
                  by_cases h476 : f < 476
                  · skip
                    obtain rfl : f = 475 := by omega
                    exact sl_f475
                  · skip
                    by_cases h477 : f < 477
                    · skip
                      obtain rfl : f = 476 := by omega
                      exact sl_f476
                    · skip
                      obtain rfl : f = 477 := by omega
                      exact sl_f477
                · skip
                  by_cases h480 : f < 480
                  · skip
                    by_cases h479 : f < 479
                    · skip
                      obtain rfl : f = 478 := by omega
                      exact sl_f478
                    · skip
                      obtain rfl : f = 479 := by omega
                      exact sl_f479
                  · skip
                    by_cases h481 : f < 481
                    · skip
                      obtain rfl : f = 480 := by omega
                      exact sl_f480
                    · skip
                      obtain rfl : f = 481 := by omega
                      exact sl_f481
              · skip
                by_cases h485 : f < 485
                · skip
                  by_cases h483 : f < 483
                  · skip
                    obtain rfl : f = 482 := by omega
                    exact sl_f482
                  · skip
                    by_cases h484 : f < 484
                    · skip
                      obtain rfl : f = 483 := by omega
                      exact sl_f483
                    · skip
                      obtain rfl : f = 484 := by omega
                      exact sl_f484
                · skip
                  by_cases h487 : f < 487
                  · skip
                    by_cases h486 : f < 486
                    · skip
                      obtain rfl : f = 485 := by omega
                      exact sl_f485
                    · skip
                      obtain rfl : f = 486 := by omega
                      exact sl_f486
                  · skip
                    by_cases h488 : f < 488
                    · skip
                      obtain rfl : f = 487 := by omega
                      exact sl_f487
                    · skip
                      obtain rfl : f = 488 := by omega
                      exact sl_f488
        · skip
          by_cases h517 : f < 517
          · skip
            by_cases h503 : f < 503
            · skip
              by_cases h496 : f < 496
              · skip
                by_cases h492 : f < 492
                · skip
                  by_cases h490 : f < 490
                  · skip
                    obtain rfl : f = 489 := by omega
                    exact sl_f489
                  · skip
                    by_cases h491 : f < 491
                    · skip
                      obtain rfl : f = 490 := by omega
                      exact sl_f490
                    · skip
                      obtain rfl : f = 491 := by omega
                      exact sl_f491
                · skip
                  by_cases h494 : f < 494
                  · skip
                    by_cases h493 : f < 493
                    · skip
                      obtain rfl : f = 492 := by omega
                      exact sl_f492
                    · skip
                      obtain rfl : f = 493 := by omega
                      exact sl_f493
                  · skip
                    by_cases h495 : f < 495
                    · skip
                      obtain rfl : f = 494 := by omega
                      exact sl_f494
                    · skip
                      obtain rfl : f = 495 := by omega
                      exact sl_f495
              · skip
                by_cases h499 : f < 499
                · skip
                  by_cases h497 : f < 497
                  · skip
                    obtain rfl : f = 496 := by omega
                    exact sl_f496
                  · skip
                    by_cases h498 : f < 498
                    · skip
                      obtain rfl : f = 497 := by omega
                      exact sl_f497
                    · skip
                      obtain rfl : f = 498 := by omega
                      exact sl_f498
                · skip
                  by_cases h501 : f < 501
                  · skip
                    by_cases h500 : f < 500
                    · skip
                      obtain rfl : f = 499 := by omega
                      exact sl_f499
                    · skip
                      obtain rfl : f = 500 := by omega
                      exact sl_f500
                  · skip
                    by_cases h502 : f < 502
                    · skip
                      obtain rfl : f = 501 := by omega
                      exact sl_f501
                    · skip
                      obtain rfl : f = 502 := by omega
                      exact sl_f502
            · skip
              by_cases h510 : f < 510
              · skip
                by_cases h506 : f < 506
                · skip
                  by_cases h504 : f < 504
                  · skip
                    obtain rfl : f = 503 := by omega
                    exact sl_f503
                  · skip
                    by_cases h505 : f < 505
                    · skip
                      obtain rfl : f = 504 := by omega
                      exact sl_f504
                    · skip
                      obtain rfl : f = 505 := by omega
                      exact sl_f505
                · skip
                  by_cases h508 : f < 508
                  · skip
                    by_cases h507 : f < 507
                    · skip
                      obtain rfl : f = 506 := by omega
                      exact sl_f506
                    · skip
                      obtain rfl : f = 507 := by omega
                      exact sl_f507
                  · skip
                    by_cases h509 : f < 509
                    · skip
                      obtain rfl : f = 508 := by omega
                      exact sl_f508
                    · skip
                      obtain rfl : f = 509 := by omega
                      exact sl_f509
              · skip
                by_cases h513 : f < 513
                · skip
                  by_cases h511 : f < 511
                  · skip
                    obtain rfl : f = 510 := by omega
                    exact sl_f510
                  · skip
                    by_cases h512 : f < 512
                    · skip
                      obtain rfl : f = 511 := by omega
                      exact sl_f511
                    · skip
                      obtain rfl : f = 512 := by omega
                      exact sl_f512
                · skip
                  by_cases h515 : f < 515
                  · skip
                    by_cases h514 : f < 514
                    · skip
                      obtain rfl : f = 513 := by omega
                      exact sl_f513
                    · skip
                      obtain rfl : f = 514 := by omega
                      exact sl_f514
                  · skip
                    by_cases h516 : f < 516
                    · skip
                      obtain rfl : f = 515 := by omega
                      exact sl_f515
                    · skip
                      obtain rfl : f = 516 := by omega
                      exact sl_f516
          · skip
            by_cases h531 : f < 531
            · skip
              by_cases h524 : f < 524
              · skip
                by_cases h520 : f < 520
                · skip
                  by_cases h518 : f < 518
                  · skip
                    obtain rfl : f = 517 := by omega
                    exact sl_f517
                  · skip
                    by_cases h519 : f < 519
                    · skip
                      obtain rfl : f = 518 := by omega
                      exact sl_f518
                    · skip
                      obtain rfl : f = 519 := by omega
                      exact sl_f519
                · skip
                  by_cases h522 : f < 522
                  · skip
                    by_cases h521 : f < 521
                    · skip
                      obtain rfl : f = 520 := by omega
                      exact sl_f520
                    · skip
                      obtain rfl : f = 521 := by omega
                      exact sl_f521
                  · skip
                    by_cases h523 : f < 523
                    · skip
                      obtain rfl : f = 522 := by omega
                      exact sl_f522
                    · skip
                      obtain rfl : f = 523 := by omega
                      exact sl_f523
              · skip
                by_cases h527 : f < 527
                · skip
                  by_cases h525 : f < 525
                  · skip
                    obtain rfl : f = 524 := by omega
                    exact sl_f524
                  · skip
                    by_cases h526 : f < 526
                    · skip
                      obtain rfl : f = 525 := by omega
                      exact sl_f525
                    · skip
                      obtain rfl : f = 526 := by omega
                      exact sl_f526
                · skip
                  by_cases h529 : f < 529
                  · skip
                    by_cases h528 : f < 528
                    · skip
                      obtain rfl : f = 527 := by omega
                      exact sl_f527
                    · skip
                      obtain rfl : f = 528 := by omega
                      exact sl_f528
                  · skip
                    by_cases h530 : f < 530
                    · skip
                      obtain rfl : f = 529 := by omega
                      exact sl_f529
                    · skip
                      obtain rfl : f = 530 := by omega
                      exact sl_f530
            · skip
              by_cases h538 : f < 538
              · skip
                by_cases h534 : f < 534
                · skip
                  by_cases h532 : f < 532
                  · skip
                    obtain rfl : f = 531 := by omega
                    exact sl_f531
                  · skip
                    by_cases h533 : f < 533
                    · skip
                      obtain rfl : f = 532 := by omega
                      exact sl_f532
                    · skip
                      obtain rfl : f = 533 := by omega
                      exact sl_f533
                · skip
                  by_cases h536 : f < 536
                  · skip
                    by_cases h535 : f < 535
                    · skip
                      obtain rfl : f = 534 := by omega
                      exact sl_f534
                    · skip
                      obtain rfl : f = 535 := by omega
                      exact sl_f535
                  · skip
                    by_cases h537 : f < 537
                    · skip
                      obtain rfl : f = 536 := by omega
                      exact sl_f536
                    · skip
                      obtain rfl : f = 537 := by omega
                      exact sl_f537
              · skip
                by_cases h541 : f < 541
                · skip
                  by_cases h539 : f < 539
                  · skip
                    obtain rfl : f = 538 := by omega
                    exact sl_f538
                  · skip
                    by_cases h540 : f < 540
                    · skip
                      obtain rfl : f = 539 := by omega
                      exact sl_f539
                    · skip
                      obtain rfl : f = 540 := by omega
                      exact sl_f540
                · skip
                  by_cases h543 : f < 543
                  · skip
                    by_cases h542 : f < 542
                    · skip
                      obtain rfl : f = 541 := by omega
                      exact sl_f541
                    · skip
                      obtain rfl : f = 542 := by omega
                      exact sl_f542
                  · skip
                    by_cases h544 : f < 544
                    · skip
                      obtain rfl : f = 543 := by omega
                      exact sl_f543
                    · skip
                      obtain rfl : f = 544 := by omega
                      exact sl_f544
  · skip
    by_cases h768 : f < 768
    · skip
      by_cases h656 : f < 656
      · skip
        by_cases h600 : f < 600
        · skip
          by_cases h572 : f < 572
          · skip
            by_cases h558 : f < 558
            · skip
              by_cases h551 : f < 551
              · skip
                by_cases h548 : f < 548
                · skip
                  by_cases h546 : f < 546
                  · skip
                    obtain rfl : f = 545 := by omega
                    exact sl_f545
                  · skip
                    by_cases h547 : f < 547
                    · skip
                      obtain rfl : f = 546 := by omega
                      exact sl_f546
                    · skip
                      obtain rfl : f = 547 := by omega
                      exact sl_f547
                · skip
                  by_cases h549 : f < 549
                  · skip
                    obtain rfl : f = 548 := by omega
                    exact sl_f548
                  · skip
                    by_cases h550 : f < 550
                    · skip
                      obtain rfl : f = 549 := by omega
                      exact sl_f549
                    · skip
                      obtain rfl : f = 550 := by omega
                      exact sl_f550
              · skip
                by_cases h554 : f < 554
                · skip
                  by_cases h552 : f < 552
                  · skip
                    obtain rfl : f = 551 := by omega
                    exact sl_f551
                  · skip
                    by_cases h553 : f < 553
                    · skip
                      obtain rfl : f = 552 := by omega
                      exact sl_f552
                    · skip
                      obtain rfl : f = 553 := by omega
                      exact sl_f553
                · skip
                  by_cases h556 : f < 556
                  · skip
                    by_cases h555 : f < 555
                    · skip
                      obtain rfl : f = 554 := by omega
                      exact sl_f554
                    · skip
                      obtain rfl : f = 555 := by omega
                      exact sl_f555
                  · skip
                    by_cases h557 : f < 557
                    · skip
                      obtain rfl : f = 556 := by omega
                      exact sl_f556
                    · skip
                      obtain rfl : f = 557 := by omega
                      exact sl_f557
            · skip
              by_cases h565 : f < 565
              · skip
                by_cases h561 : f < 561
                · skip
                  by_cases h559 : f < 559
                  · skip
                    obtain rfl : f = 558 := by omega
                    exact sl_f558
                  · skip
                    by_cases h560 : f < 560
                    · skip
                      obtain rfl : f = 559 := by omega
                      exact sl_f559
                    · skip
                      obtain rfl : f = 560 := by omega
                      exact sl_f560
                · skip
                  by_cases h563 : f < 563
                  · skip
                    by_cases h562 : f < 562
                    · skip
                      obtain rfl : f = 561 := by omega
                      exact sl_f561
                    · skip
                      obtain rfl : f = 562 := by omega
                      exact sl_f562
                  · skip
                    by_cases h564 : f < 564
                    · skip
                      obtain rfl : f = 563 := by omega
                      exact sl_f563
                    · skip
                      obtain rfl : f = 564 := by omega
                      exact sl_f564
              · skip
                by_cases h568 : f < 568
                · skip
                  by_cases h566 : f < 566
                  · skip
                    obtain rfl : f = 565 := by omega
                    exact sl_f565
                  · skip
                    by_cases h567 : f < 567
                    · skip
                      obtain rfl : f = 566 := by omega
                      exact sl_f566
                    · skip
                      obtain rfl : f = 567 := by omega
                      exact sl_f567
                · skip
                  by_cases h570 : f < 570
                  · skip
                    by_cases h569 : f < 569
                    · skip
                      obtain rfl : f = 568 := by omega
                      exact sl_f568
                    · skip
                      obtain rfl : f = 569 := by omega
                      exact sl_f569
                  · skip
                    by_cases h571 : f < 571
                    · skip
                      obtain rfl : f = 570 := by omega
                      exact sl_f570
                    · skip
                      obtain rfl : f = 571 := by omega
                      exact sl_f571
          · skip
            by_cases h586 : f < 586
            · skip
              by_cases h579 : f < 579
              · skip
                by_cases h575 : f < 575
                · skip
                  by_cases h573 : f < 573
                  · skip
                    obtain rfl : f = 572 := by omega
                    exact sl_f572
                  · skip
                    by_cases h574 : f < 574
                    · skip
                      obtain rfl : f = 573 := by omega
                      exact sl_f573
                    · skip
                      obtain rfl : f = 574 := by omega
                      exact sl_f574
                · skip
                  by_cases h577 : f < 577
                  · skip
                    by_cases h576 : f < 576
                    · skip
                      obtain rfl : f = 575 := by omega
                      exact sl_f575
                    · skip
                      obtain rfl : f = 576 := by omega
                      exact sl_f576
                  · skip
                    by_cases h578 : f < 578
                    · skip
                      obtain rfl : f = 577 := by omega
                      exact sl_f577
                    · skip
                      obtain rfl : f = 578 := by omega
                      exact sl_f578
              · skip
                by_cases h582 : f < 582
                · skip
                  by_cases h580 : f < 580
                  · skip
                    obtain rfl : f = 579 := by omega
                    exact sl_f579
                  · skip
                    by_cases h581 : f < 581
                    · skip
                      obtain rfl : f = 580 := by omega
                      exact sl_f580
                    · skip
                      obtain rfl : f = 581 := by omega
                      exact sl_f581
                · skip
                  by_cases h584 : f < 584
                  · skip
                    by_cases h583 : f < 583
                    · skip
                      obtain rfl : f = 582 := by omega
                      exact sl_f582
                    · skip
                      obtain rfl : f = 583 := by omega
                      exact sl_f583
                  · skip
                    by_cases h585 : f < 585
                    · skip
                      obtain rfl : f = 584 := by omega
                      exact sl_f584
                    · skip
                      obtain rfl : f = 585 := by omega
                      exact sl_f585
            · skip
              by_cases h593 : f < 593
              · skip
                by_cases h589 : f < 589
                · skip
                  by_cases h587 : f < 587
                  · skip
                    obtain rfl : f = 586 := by omega
                    exact sl_f586
                  · skip
                    by_cases h588 : f < 588
                    · skip
                      obtain rfl : f = 587 := by omega
                      exact sl_f587
                    · skip
                      obtain rfl : f = 588 := by omega
                      exact sl_f588
                · skip
                  by_cases h591 : f < 591
                  · skip
                    by_cases h590 : f < 590
                    · skip
                      obtain rfl : f = 589 := by omega
                      exact sl_f589
                    · skip
                      obtain rfl : f = 590 := by omega
                      exact sl_f590
                  · skip
                    by_cases h592 : f < 592
                    · skip
                      obtain rfl : f = 591 := by omega
                      exact sl_f591
                    · skip
                      obtain rfl : f = 592 := by omega
                      exact sl_f592
              · skip
                by_cases h596 : f < 596
                · skip
                  by_cases h594 : f < 594
                  · skip
                    obtain rfl : f = 593 := by omega
                    exact sl_f593
                  · skip
                    by_cases h595 : f < 595
                    · skip
                      obtain rfl : f = 594 := by omega
                      exact sl_f594
                    · skip
                      obtain rfl : f = 595 := by omega
                      exact sl_f595
                · skip
                  by_cases h598 : f < 598
                  · skip
                    by_cases h597 : f < 597
                    · skip
                      obtain rfl : f = 596 := by omega
                      exact sl_f596
                    · skip
                      obtain rfl : f = 597 := by omega
                      exact sl_f597
                  · skip
                    by_cases h599 : f < 599
                    · skip
                      obtain rfl : f = 598 := by omega
                      exact sl_f598
                    · skip
                      obtain rfl : f = 599 := by omega
                      exact sl_f599
        · skip
          by_cases h628 : f < 628
          · skip
            by_cases h614 : f < 614
            · skip
              by_cases h607 : f < 607
              · skip
                by_cases h603 : f < 603
                · skip
                  by_cases h601 : f < 601
                  · skip
                    obtain rfl : f = 600 := by omega
                    exact sl_f600
                  · skip
                    by_cases h602 : f < 602
                    · skip
                      obtain rfl : f = 601 := by omega
                      exact sl_f601
                    · skip
                      obtain rfl : f = 602 := by omega
                      exact sl_f602
                · skip
                  by_cases h605 : f < 605
                  · skip
                    by_cases h604 : f < 604
                    · skip
                      obtain rfl : f = 603 := by omega
                      exact sl_f603
                    · skip
                      obtain rfl : f = 604 := by omega
                      exact sl_f604
                  · skip
                    by_cases h606 : f < 606
                    · skip
                      obtain rfl : f = 605 := by omega
                      exact sl_f605
                    · skip
                      obtain rfl : f = 606 := by omega
                      exact sl_f606
              · skip
                by_cases h610 : f < 610
                · skip
                  by_cases h608 : f < 608
                  · skip
                    obtain rfl : f = 607 := by omega
                    exact sl_f607
                  · skip
                    by_cases h609 : f < 609
                    · skip
                      obtain rfl : f = 608 := by omega
                      exact sl_f608
                    · skip
                      obtain rfl : f = 609 := by omega
                      exact sl_f609
                · skip
                  by_cases h612 : f < 612
                  · skip
                    by_cases h611 : f < 611
                    · skip
                      obtain rfl : f = 610 := by omega
                      exact sl_f610
                    · skip
                      obtain rfl : f = 611 := by omega
                      exact sl_f611
                  · skip
                    by_cases h613 : f < 613
                    · skip
                      obtain rfl : f = 612 := by omega
                      exact sl_f612
                    · skip
                      obtain rfl : f = 613 := by omega
                      exact sl_f613
            · skip
              by_cases h621 : f < 621
              · skip
                by_cases h617 : f < 617
                · skip
                  by_cases h615 : f < 615
                  · skip
                    obtain rfl : f = 614 := by omega
                    exact sl_f614
                  · skip
                    by_cases h616 : f < 616
                    · skip
                      obtain rfl : f = 615 := by omega
                      exact sl_f615
                    · skip
                      obtain rfl : f = 616 := by omega
                      exact sl_f616
                · skip
                  by_cases h619 : f < 619
                  · skip
                    by_cases h618 : f < 618
                    · skip
                      obtain rfl : f = 617 := by omega
                      exact sl_f617
                    · skip
                      obtain rfl : f = 618 := by omega
                      exact sl_f618
                  · skip
                    by_cases h620 : f < 620
                    · skip
                      obtain rfl : f = 619 := by omega
                      exact sl_f619
                    · skip
                      obtain rfl : f = 620 := by omega
                      exact sl_f620
              · skip
                by_cases h624 : f < 624
                · skip
                  by_cases h622 : f < 622
                  · skip
                    obtain rfl : f = 621 := by omega
                    exact sl_f621
                  · skip
                    by_cases h623 : f < 623
                    · skip
                      obtain rfl : f = 622 := by omega
                      exact sl_f622
                    · skip
                      obtain rfl : f = 623 := by omega
                      exact sl_f623
                · skip
                  by_cases h626 : f < 626
                  · skip
                    by_cases h625 : f < 625
                    · skip
                      obtain rfl : f = 624 := by omega
                      exact sl_f624
                    · skip
                      obtain rfl : f = 625 := by omega
                      exact sl_f625
                  · skip
                    by_cases h627 : f < 627
                    · skip
                      obtain rfl : f = 626 := by omega
                      exact sl_f626
                    · skip
                      obtain rfl : f = 627 := by omega
                      exact sl_f627
          · skip
            by_cases h642 : f < 642
            · skip
              by_cases h635 : f < 635
              · skip
                by_cases h631 : f < 631
                · skip
                  by_cases h629 : f < 629
                  · skip
                    obtain rfl : f = 628 := by omega
                    exact sl_f628
                  · skip
                    by_cases h630 : f < 630
                    · skip
                      obtain rfl : f = 629 := by omega
                      exact sl_f629
                    · skip
                      obtain rfl : f = 630 := by omega
                      exact sl_f630
                · skip
                  by_cases h633 : f < 633
                  · skip
                    by_cases h632 : f < 632
                    · skip
                      obtain rfl : f = 631 := by omega
                      exact sl_f631
                    · skip
                      obtain rfl : f = 632 := by omega
                      exact sl_f632
                  · skip
                    by_cases h634 : f < 634
                    · skip
                      obtain rfl : f = 633 := by omega
                      exact sl_f633
                    · skip
                      obtain rfl : f = 634 := by omega
                      exact sl_f634
              · skip
                by_cases h638 : f < 638
                · skip
                  by_cases h636 : f < 636
                  · skip
                    obtain rfl : f = 635 := by omega
                    exact sl_f635
                  · skip
                    by_cases h637 : f < 637
                    · skip
                      obtain rfl : f = 636 := by omega
                      exact sl_f636
                    · skip
                      obtain rfl : f = 637 := by omega
                      exact sl_f637
                · skip
                  by_cases h640 : f < 640
                  · skip
                    by_cases h639 : f < 639
                    · skip
                      obtain rfl : f = 638 := by omega
                      exact sl_f638
                    · skip
                      obtain rfl : f = 639 := by omega
                      exact sl_f639
                  · skip
                    by_cases h641 : f < 641
                    · skip
                      obtain rfl : f = 640 := by omega
                      exact sl_f640
                    · skip
                      obtain rfl : f = 641 := by omega
                      exact sl_f641
            · skip
              by_cases h649 : f < 649
              · skip
                by_cases h645 : f < 645
                · skip
                  by_cases h643 : f < 643
                  · skip
                    obtain rfl : f = 642 := by omega
                    exact sl_f642
                  · skip
                    by_cases h644 : f < 644
                    · skip
                      obtain rfl : f = 643 := by omega
                      exact sl_f643
                    · skip
                      obtain rfl : f = 644 := by omega
                      exact sl_f644
                · skip
                  by_cases h647 : f < 647
                  · skip
                    by_cases h646 : f < 646
                    · skip
                      obtain rfl : f = 645 := by omega
                      exact sl_f645
                    · skip
                      obtain rfl : f = 646 := by omega
                      exact sl_f646
                  · skip
                    by_cases h648 : f < 648
                    · skip
                      obtain rfl : f = 647 := by omega
                      exact sl_f647
                    · skip
                      obtain rfl : f = 648 := by omega
                      exact sl_f648
              · skip
                by_cases h652 : f < 652
                · skip
                  by_cases h650 : f < 650
                  · skip
                    obtain rfl : f = 649 := by omega
                    exact sl_f649
                  · skip
                    by_cases h651 : f < 651
                    · skip
                      obtain rfl : f = 650 := by omega
                      exact sl_f650
                    · skip
                      obtain rfl : f = 651 := by omega
                      exact sl_f651
                · skip
                  by_cases h654 : f < 654
                  · skip
                    by_cases h653 : f < 653
                    · skip
                      obtain rfl : f = 652 := by omega
                      exact sl_f652
                    · skip
                      obtain rfl : f = 653 := by omega
                      exact sl_f653
                  · skip
                    by_cases h655 : f < 655
                    · skip
                      obtain rfl : f = 654 := by omega
                      exact sl_f654
                    · skip
                      obtain rfl : f = 655 := by omega
                      exact sl_f655
      · skip
        by_cases h712 : f < 712
        · skip
          by_cases h684 : f < 684
          · skip
            by_cases h670 : f < 670
            · skip
              by_cases h663 : f < 663
              · skip
                by_cases h659 : f < 659
                · skip
                  by_cases h657 : f < 657
                  · skip
                    obtain rfl : f = 656 := by omega
                    exact sl_f656
                  · skip
                    by_cases h658 : f < 658
                    · skip
                      obtain rfl : f = 657 := by omega
                      exact sl_f657
                    · skip
                      obtain rfl : f = 658 := by omega
                      exact sl_f658
                · skip
                  by_cases h661 : f < 661
                  · skip
                    by_cases h660 : f < 660
                    · skip
                      obtain rfl : f = 659 := by omega
                      exact sl_f659
                    · skip
                      obtain rfl : f = 660 := by omega
                      exact sl_f660
                  · skip
                    by_cases h662 : f < 662
                    · skip
                      obtain rfl : f = 661 := by omega
                      exact sl_f661
                    · skip
                      obtain rfl : f = 662 := by omega
                      exact sl_f662
              · skip
                by_cases h666 : f < 666
                · skip
                  by_cases h664 : f < 664
                  · skip
                    obtain rfl : f = 663 := by omega
                    exact sl_f663
                  · skip
                    by_cases h665 : f < 665
                    · skip
                      obtain rfl : f = 664 := by omega
                      exact sl_f664
                    · skip
                      obtain rfl : f = 665 := by omega
                      exact sl_f665
                · skip
                  by_cases h668 : f < 668
                  · skip
                    by_cases h667 : f < 667
                    · skip
                      obtain rfl : f = 666 := by omega
                      exact sl_f666
                    · skip
                      obtain rfl : f = 667 := by omega
                      exact sl_f667
                  · skip
                    by_cases h669 : f < 669
                    · skip
                      obtain rfl : f = 668 := by omega
                      exact sl_f668
                    · skip
                      obtain rfl : f = 669 := by omega
                      exact sl_f669
            · skip
              by_cases h677 : f < 677
              · skip
                by_cases h673 : f < 673
                · skip
                  by_cases h671 : f < 671
                  · skip
                    obtain rfl : f = 670 := by omega
                    exact sl_f670
                  · skip
                    by_cases h672 : f < 672
                    · skip
                      obtain rfl : f = 671 := by omega
                      exact sl_f671
                    · skip
                      obtain rfl : f = 672 := by omega
                      exact sl_f672
                · skip
                  by_cases h675 : f < 675
                  · skip
                    by_cases h674 : f < 674
                    · skip
                      obtain rfl : f = 673 := by omega
                      exact sl_f673
                    · skip
                      obtain rfl : f = 674 := by omega
                      exact sl_f674
                  · skip
                    by_cases h676 : f < 676
                    · skip
                      obtain rfl : f = 675 := by omega
                      exact sl_f675
                    · skip
                      obtain rfl : f = 676 := by omega
                      exact sl_f676
              · skip
                by_cases h680 : f < 680
                · skip
                  by_cases h678 : f < 678
                  · skip
                    obtain rfl : f = 677 := by omega
                    exact sl_f677
                  · skip
                    by_cases h679 : f < 679
                    · skip
                      obtain rfl : f = 678 := by omega
                      exact sl_f678
                    · skip
                      obtain rfl : f = 679 := by omega
                      exact sl_f679
                · skip
                  by_cases h682 : f < 682
                  · skip
                    by_cases h681 : f < 681
                    · skip
                      obtain rfl : f = 680 := by omega
                      exact sl_f680
                    · skip
                      obtain rfl : f = 681 := by omega
                      exact sl_f681
                  · skip
                    by_cases h683 : f < 683
                    · skip
                      obtain rfl : f = 682 := by omega
                      exact sl_f682
                    · skip
                      obtain rfl : f = 683 := by omega
                      exact sl_f683
          · skip
            by_cases h698 : f < 698
            · skip
              by_cases h691 : f < 691
              · skip
                by_cases h687 : f < 687
                · skip
                  by_cases h685 : f < 685
                  · skip
                    obtain rfl : f = 684 := by omega
                    exact sl_f684
                  · skip
                    by_cases h686 : f < 686
                    · skip
                      obtain rfl : f = 685 := by omega
                      exact sl_f685
                    · skip
                      obtain rfl : f = 686 := by omega
                      exact sl_f686
                · skip
                  by_cases h689 : f < 689
                  · skip
                    by_cases h688 : f < 688
                    · skip
                      obtain rfl : f = 687 := by omega
                      exact sl_f687
                    · skip
                      obtain rfl : f = 688 := by omega
                      exact sl_f688
                  · skip
                    by_cases h690 : f < 690
                    · skip
                      obtain rfl : f = 689 := by omega
                      exact sl_f689
                    · skip
                      obtain rfl : f = 690 := by omega
                      exact sl_f690
              · skip
                by_cases h694 : f < 694
                · skip
                  by_cases h692 : f < 692
                  · skip
                    obtain rfl : f = 691 := by omega
                    exact sl_f691
                  · skip
                    by_cases h693 : f < 693
                    · skip
                      obtain rfl : f = 692 := by omega
                      exact sl_f692
                    · skip
                      obtain rfl : f = 693 := by omega
                      exact sl_f693
                · skip
                  by_cases h696 : f < 696
                  · skip
                    by_cases h695 : f < 695
                    · skip
                      obtain rfl : f = 694 := by omega
                      exact sl_f694
                    · skip
                      obtain rfl : f = 695 := by omega
                      exact sl_f695
                  · skip
                    by_cases h697 : f < 697
                    · skip
                      obtain rfl : f = 696 := by omega
                      exact sl_f696
                    · skip
                      obtain rfl : f = 697 := by omega
                      exact sl_f697
            · skip
              by_cases h705 : f < 705
              · skip
                by_cases h701 : f < 701
                · skip
                  by_cases h699 : f < 699
                  · skip
                    obtain rfl : f = 698 := by omega
                    exact sl_f698
                  · skip
                    by_cases h700 : f < 700
                    · skip
                      obtain rfl : f = 699 := by omega
                      exact sl_f699
                    · skip
                      obtain rfl : f = 700 := by omega
                      exact sl_f700
                · skip
                  by_cases h703 : f < 703
                  · skip
                    by_cases h702 : f < 702
                    · skip
                      obtain rfl : f = 701 := by omega
                      exact sl_f701
                    · skip
                      obtain rfl : f = 702 := by omega
                      exact sl_f702
                  · skip
                    by_cases h704 : f < 704
                    · skip
                      obtain rfl : f = 703 := by omega
                      exact sl_f703
                    · skip
                      obtain rfl : f = 704 := by omega
                      exact sl_f704
              · skip
                by_cases h708 : f < 708
                · skip
                  by_cases h706 : f < 706
                  · skip
                    obtain rfl : f = 705 := by omega
                    exact sl_f705
                  · skip
                    by_cases h707 : f < 707
                    · skip
                      obtain rfl : f = 706 := by omega
                      exact sl_f706
                    · skip
                      obtain rfl : f = 707 := by omega
                      exact sl_f707
                · skip
                  by_cases h710 : f < 710
                  · skip
                    by_cases h709 : f < 709
                    · skip
                      obtain rfl : f = 708 := by omega
                      exact sl_f708
                    · skip
                      obtain rfl : f = 709 := by omega
                      exact sl_f709
                  · skip
                    by_cases h711 : f < 711
                    · skip
                      obtain rfl : f = 710 := by omega
                      exact sl_f710
                    · skip
                      obtain rfl : f = 711 := by omega
                      exact sl_f711
        · skip
          by_cases h740 : f < 740
          · skip
            by_cases h726 : f < 726
            · skip
              by_cases h719 : f < 719
              · skip
                by_cases h715 : f < 715
                · skip
                  by_cases h713 : f < 713
                  · skip
                    obtain rfl : f = 712 := by omega
                    exact sl_f712
                  · skip
                    by_cases h714 : f < 714
                    · skip
                      obtain rfl : f = 713 := by omega
                      exact sl_f713
                    · skip
                      obtain rfl : f = 714 := by omega
                      exact sl_f714
                · skip
                  by_cases h717 : f < 717
                  · skip
                    by_cases h716 : f < 716
                    · skip
                      obtain rfl : f = 715 := by omega
                      exact sl_f715
                    · skip
                      obtain rfl : f = 716 := by omega
                      exact sl_f716
                  · skip
                    by_cases h718 : f < 718
                    · skip
                      obtain rfl : f = 717 := by omega
                      exact sl_f717
                    · skip
                      obtain rfl : f = 718 := by omega
                      exact sl_f718
              · skip
                by_cases h722 : f < 722
                · skip
                  by_cases h720 : f < 720
                  · skip
                    obtain rfl : f = 719 := by omega
                    exact sl_f719
                  · skip
                    by_cases h721 : f < 721
                    · skip
                      obtain rfl : f = 720 := by omega
                      exact sl_f720
                    · skip
                      obtain rfl : f = 721 := by omega
                      exact sl_f721
                · skip
                  by_cases h724 : f < 724
                  · skip
                    by_cases h723 : f < 723
                    · skip
                      obtain rfl : f = 722 := by omega
                      exact sl_f722
                    · skip
                      obtain rfl : f = 723 := by omega
                      exact sl_f723
                  · skip
                    by_cases h725 : f < 725
                    · skip
                      obtain rfl : f = 724 := by omega
                      exact sl_f724
                    · skip
                      obtain rfl : f = 725 := by omega
                      exact sl_f725
            · skip
              by_cases h733 : f < 733
              · skip
                by_cases h729 : f < 729
                · skip
                  by_cases h727 : f < 727
                  · skip
                    obtain rfl : f = 726 := by omega
                    exact sl_f726
                  · skip
                    by_cases h728 : f < 728
                    · skip
                      obtain rfl : f = 727 := by omega
                      exact sl_f727
                    · skip
                      obtain rfl : f = 728 := by omega
                      exact sl_f728
                · skip
                  by_cases h731 : f < 731
                  · skip
                    by_cases h730 : f < 730
                    · skip
                      obtain rfl : f = 729 := by omega
                      exact sl_f729
                    · skip
                      obtain rfl : f = 730 := by omega
                      exact sl_f730
                  · skip
                    by_cases h732 : f < 732
                    · skip
                      obtain rfl : f = 731 := by omega
                      exact sl_f731
                    · skip
                      obtain rfl : f = 732 := by omega
                      exact sl_f732
              · skip
                by_cases h736 : f < 736
                · skip
                  by_cases h734 : f < 734
                  · skip
                    obtain rfl : f = 733 := by omega
                    exact sl_f733
                  · skip
                    by_cases h735 : f < 735
                    · skip
                      obtain rfl : f = 734 := by omega
                      exact sl_f734
                    · skip
                      obtain rfl : f = 735 := by omega
                      exact sl_f735
                · skip
                  by_cases h738 : f < 738
                  · skip
                    by_cases h737 : f < 737
                    · skip
                      obtain rfl : f = 736 := by omega
                      exact sl_f736
                    · skip
                      obtain rfl : f = 737 := by omega
                      exact sl_f737
                  · skip
                    by_cases h739 : f < 739
                    · skip
                      obtain rfl : f = 738 := by omega
                      exact sl_f738
                    · skip
                      obtain rfl : f = 739 := by omega
                      exact sl_f739
          · skip
            by_cases h754 : f < 754
            · skip
              by_cases h747 : f < 747
              · skip
                by_cases h743 : f < 743
                · skip
                  by_cases h741 : f < 741
                  · skip
                    obtain rfl : f = 740 := by omega
                    exact sl_f740
                  · skip
                    by_cases h742 : f < 742
                    · skip
                      obtain rfl : f = 741 := by omega
                      exact sl_f741
                    · skip
                      obtain rfl : f = 742 := by omega
                      exact sl_f742
                · skip
                  by_cases h745 : f < 745
                  · skip
                    by_cases h744 : f < 744
                    · skip
                      obtain rfl : f = 743 := by omega
                      exact sl_f743
                    · skip
                      obtain rfl : f = 744 := by omega
                      exact sl_f744
                  · skip
                    by_cases h746 : f < 746
                    · skip
                      obtain rfl : f = 745 := by omega
                      exact sl_f745
                    · skip
                      obtain rfl : f = 746 := by omega
                      exact sl_f746
              · skip
                by_cases h750 : f < 750
                · skip
                  by_cases h748 : f < 748
                  · skip
                    obtain rfl : f = 747 := by omega
                    exact sl_f747
                  · skip
                    by_cases h749 : f < 749
                    · skip
                      obtain rfl : f = 748 := by omega
                      exact sl_f748
                    · skip
                      obtain rfl : f = 749 := by omega
                      exact sl_f749
                · skip
                  by_cases h752 : f < 752
                  · skip
                    by_cases h751 : f < 751
                    · skip
                      obtain rfl : f = 750 := by omega
                      exact sl_f750
                    · skip
                      obtain rfl : f = 751 := by omega
                      exact sl_f751
                  · skip
                    by_cases h753 : f < 753
                    · skip
                      obtain rfl : f = 752 := by omega
                      exact sl_f752
                    · skip
                      obtain rfl : f = 753 := by omega
                      exact sl_f753
            · skip
              by_cases h761 : f < 761
              · skip
                by_cases h757 : f < 757
                · skip
                  by_cases h755 : f < 755
                  · skip
                    obtain rfl : f = 754 := by omega
                    exact sl_f754
                  · skip
                    by_cases h756 : f < 756
                    · skip
                      obtain rfl : f = 755 := by omega
                      exact sl_f755
                    · skip
                      obtain rfl : f = 756 := by omega
                      exact sl_f756
                · skip
                  by_cases h759 : f < 759
                  · skip
                    by_cases h758 : f < 758
                    · skip
                      obtain rfl : f = 757 := by omega
                      exact sl_f757
                    · skip
                      obtain rfl : f = 758 := by omega
                      exact sl_f758
                  · skip
                    by_cases h760 : f < 760
                    · skip
                      obtain rfl : f = 759 := by omega
                      exact sl_f759
                    · skip
                      obtain rfl : f = 760 := by omega
                      exact sl_f760
              · skip
                by_cases h764 : f < 764
                · skip
                  by_cases h762 : f < 762
                  · skip
                    obtain rfl : f = 761 := by omega
                    exact sl_f761
                  · skip
                    by_cases h763 : f < 763
                    · skip
                      obtain rfl : f = 762 := by omega
                      exact sl_f762
                    · skip
                      obtain rfl : f = 763 := by omega
                      exact sl_f763
                · skip
                  by_cases h766 : f < 766
                  · skip
                    by_cases h765 : f < 765
                    · skip
                      obtain rfl : f = 764 := by omega
                      exact sl_f764
                    · skip
                      obtain rfl : f = 765 := by omega
                      exact sl_f765
                  · skip
                    by_cases h767 : f < 767
                    · skip
                      obtain rfl : f = 766 := by omega
                      exact sl_f766
                    · skip
                      obtain rfl : f = 767 := by omega
                      exact sl_f767
    · skip
      by_cases h879 : f < 879
      · skip
        by_cases h823 : f < 823
        · skip
          by_cases h795 : f < 795
          · skip
            by_cases h781 : f < 781
            · skip
              by_cases h774 : f < 774
              · skip
                by_cases h771 : f < 771
                · skip
                  by_cases h769 : f < 769
                  · skip
                    obtain rfl : f = 768 := by omega
                    exact sl_f768
                  · skip
                    by_cases h770 : f < 770
                    · skip
                      obtain rfl : f = 769 := by omega
                      exact sl_f769
                    · skip
                      obtain rfl : f = 770 := by omega
                      exact sl_f770
                · skip
                  by_cases h772 : f < 772
                  · skip
                    obtain rfl : f = 771 := by omega
                    exact sl_f771
                  · skip
                    by_cases h773 : f < 773
                    · skip
                      obtain rfl : f = 772 := by omega
                      exact sl_f772
                    · skip
                      obtain rfl : f = 773 := by omega
                      exact sl_f773
              · skip
                by_cases h777 : f < 777
                · skip
                  by_cases h775 : f < 775
                  · skip
                    obtain rfl : f = 774 := by omega
                    exact sl_f774
                  · skip
                    by_cases h776 : f < 776
                    · skip
                      obtain rfl : f = 775 := by omega
                      exact sl_f775
                    · skip
                      obtain rfl : f = 776 := by omega
                      exact sl_f776
                · skip
                  by_cases h779 : f < 779
                  · skip
                    by_cases h778 : f < 778
                    · skip
                      obtain rfl : f = 777 := by omega
                      exact sl_f777
                    · skip
                      obtain rfl : f = 778 := by omega
                      exact sl_f778
                  · skip
                    by_cases h780 : f < 780
                    · skip
                      obtain rfl : f = 779 := by omega
                      exact sl_f779
                    · skip
                      obtain rfl : f = 780 := by omega
                      exact sl_f780
            · skip
              by_cases h788 : f < 788
              · skip
                by_cases h784 : f < 784
                · skip
                  by_cases h782 : f < 782
                  · skip
                    obtain rfl : f = 781 := by omega
                    exact sl_f781
                  · skip
                    by_cases h783 : f < 783
                    · skip
                      obtain rfl : f = 782 := by omega
                      exact sl_f782
                    · skip
                      obtain rfl : f = 783 := by omega
                      exact sl_f783
                · skip
                  by_cases h786 : f < 786
                  · skip
                    by_cases h785 : f < 785
                    · skip
                      obtain rfl : f = 784 := by omega
                      exact sl_f784
                    · skip
                      obtain rfl : f = 785 := by omega
                      exact sl_f785
                  · skip
                    by_cases h787 : f < 787
                    · skip
                      obtain rfl : f = 786 := by omega
                      exact sl_f786
                    · skip
                      obtain rfl : f = 787 := by omega
                      exact sl_f787
              · skip
                by_cases h791 : f < 791
                · skip
                  by_cases h789 : f < 789
                  · skip
                    obtain rfl : f = 788 := by omega
                    exact sl_f788
                  · skip
                    by_cases h790 : f < 790
                    · skip
                      obtain rfl : f = 789 := by omega
                      exact sl_f789
                    · skip
                      obtain rfl : f = 790 := by omega
                      exact sl_f790
                · skip
                  by_cases h793 : f < 793
                  · skip
                    by_cases h792 : f < 792
                    · skip
                      obtain rfl : f = 791 := by omega
                      exact sl_f791
                    · skip
                      obtain rfl : f = 792 := by omega
                      exact sl_f792
                  · skip
                    by_cases h794 : f < 794
                    · skip
                      obtain rfl : f = 793 := by omega
                      exact sl_f793
                    · skip
                      obtain rfl : f = 794 := by omega
                      exact sl_f794
          · skip
            by_cases h809 : f < 809
            · skip
              by_cases h802 : f < 802
              · skip
                by_cases h798 : f < 798
                · skip
                  by_cases h796 : f < 796
                  · skip
                    obtain rfl : f = 795 := by omega
                    exact sl_f795
                  · skip
                    by_cases h797 : f < 797
                    · skip
                      obtain rfl : f = 796 := by omega
                      exact sl_f796
                    · skip
                      obtain rfl : f = 797 := by omega
                      exact sl_f797
                · skip
                  by_cases h800 : f < 800
                  · skip
                    by_cases h799 : f < 799
                    · skip
                      obtain rfl : f = 798 := by omega
                      exact sl_f798
                    · skip
                      obtain rfl : f = 799 := by omega
                      exact sl_f799
                  · skip
                    by_cases h801 : f < 801
                    · skip
                      obtain rfl : f = 800 := by omega
                      exact sl_f800
                    · skip
                      obtain rfl : f = 801 := by omega
                      exact sl_f801
              · skip
                by_cases h805 : f < 805
                · skip
                  by_cases h803 : f < 803
                  · skip
                    obtain rfl : f = 802 := by omega
                    exact sl_f802
                  · skip
                    by_cases h804 : f < 804
                    · skip
                      obtain rfl : f = 803 := by omega
                      exact sl_f803
                    · skip
                      obtain rfl : f = 804 := by omega
                      exact sl_f804
                · skip
                  by_cases h807 : f < 807
                  · skip
                    by_cases h806 : f < 806
                    · skip
                      obtain rfl : f = 805 := by omega
                      exact sl_f805
                    · skip
                      obtain rfl : f = 806 := by omega
                      exact sl_f806
                  · skip
                    by_cases h808 : f < 808
                    · skip
                      obtain rfl : f = 807 := by omega
                      exact sl_f807
                    · skip
                      obtain rfl : f = 808 := by omega
                      exact sl_f808
            · skip
              by_cases h816 : f < 816
              · skip
                by_cases h812 : f < 812
                · skip
                  by_cases h810 : f < 810
                  · skip
                    obtain rfl : f = 809 := by omega
                    exact sl_f809
                  · skip
                    by_cases h811 : f < 811
                    · skip
                      obtain rfl : f = 810 := by omega
                      exact sl_f810
                    · skip
                      obtain rfl : f = 811 := by omega
                      exact sl_f811
                · skip
                  by_cases h814 : f < 814
                  · skip
                    by_cases h813 : f < 813
                    · skip
                      obtain rfl : f = 812 := by omega
                      exact sl_f812
                    · skip
                      obtain rfl : f = 813 := by omega
                      exact sl_f813
                  · skip
                    by_cases h815 : f < 815
                    · skip
                      obtain rfl : f = 814 := by omega
                      exact sl_f814
                    · skip
                      obtain rfl : f = 815 := by omega
                      exact sl_f815
              · skip
                by_cases h819 : f < 819
                · skip
                  by_cases h817 : f < 817
                  · skip
                    obtain rfl : f = 816 := by omega
                    exact sl_f816
                  · skip
                    by_cases h818 : f < 818
                    · skip
                      obtain rfl : f = 817 := by omega
                      exact sl_f817
                    · skip
                      obtain rfl : f = 818 := by omega
                      exact sl_f818
                · skip
                  by_cases h821 : f < 821
                  · skip
                    by_cases h820 : f < 820
                    · skip
                      obtain rfl : f = 819 := by omega
                      exact sl_f819
                    · skip
                      obtain rfl : f = 820 := by omega
                      exact sl_f820
                  · skip
                    by_cases h822 : f < 822
                    · skip
                      obtain rfl : f = 821 := by omega
                      exact sl_f821
                    · skip
                      obtain rfl : f = 822 := by omega
                      exact sl_f822
        · skip
          by_cases h851 : f < 851
          · skip
            by_cases h837 : f < 837
            · skip
              by_cases h830 : f < 830
              · skip
                by_cases h826 : f < 826
                · skip
                  by_cases h824 : f < 824
                  · skip
                    obtain rfl : f = 823 := by omega
                    exact sl_f823
                  · skip
                    by_cases h825 : f < 825
                    · skip
                      obtain rfl : f = 824 := by omega
                      exact sl_f824
                    · skip
                      obtain rfl : f = 825 := by omega
                      exact sl_f825
                · skip
                  by_cases h828 : f < 828
                  · skip
                    by_cases h827 : f < 827
                    · skip
                      obtain rfl : f = 826 := by omega
                      exact sl_f826
                    · skip
                      obtain rfl : f = 827 := by omega
                      exact sl_f827
                  · skip
                    by_cases h829 : f < 829
                    · skip
                      obtain rfl : f = 828 := by omega
                      exact sl_f828
                    · skip
                      obtain rfl : f = 829 := by omega
                      exact sl_f829
              · skip
                by_cases h833 : f < 833
                · skip
                  by_cases h831 : f < 831
                  · skip
                    obtain rfl : f = 830 := by omega
                    exact sl_f830
                  · skip
                    by_cases h832 : f < 832
                    · skip
                      obtain rfl : f = 831 := by omega
                      exact sl_f831
                    · skip
                      obtain rfl : f = 832 := by omega
                      exact sl_f832
                · skip
                  by_cases h835 : f < 835
                  · skip
                    by_cases h834 : f < 834
                    · skip
                      obtain rfl : f = 833 := by omega
                      exact sl_f833
                    · skip
                      obtain rfl : f = 834 := by omega
                      exact sl_f834
                  · skip
                    by_cases h836 : f < 836
                    · skip
                      obtain rfl : f = 835 := by omega
                      exact sl_f835
                    · skip
                      obtain rfl : f = 836 := by omega
                      exact sl_f836
            · skip
              by_cases h844 : f < 844
              · skip
                by_cases h840 : f < 840
                · skip
                  by_cases h838 : f < 838
                  · skip
                    obtain rfl : f = 837 := by omega
                    exact sl_f837
                  · skip
                    by_cases h839 : f < 839
                    · skip
                      obtain rfl : f = 838 := by omega
                      exact sl_f838
                    · skip
                      obtain rfl : f = 839 := by omega
                      exact sl_f839
                · skip
                  by_cases h842 : f < 842
                  · skip
                    by_cases h841 : f < 841
                    · skip
                      obtain rfl : f = 840 := by omega
                      exact sl_f840
                    · skip
                      obtain rfl : f = 841 := by omega
                      exact sl_f841
                  · skip
                    by_cases h843 : f < 843
                    · skip
                      obtain rfl : f = 842 := by omega
                      exact sl_f842
                    · skip
                      obtain rfl : f = 843 := by omega
                      exact sl_f843
              · skip
                by_cases h847 : f < 847
                · skip
                  by_cases h845 : f < 845
                  · skip
                    obtain rfl : f = 844 := by omega
                    exact sl_f844
                  · skip
                    by_cases h846 : f < 846
                    · skip
                      obtain rfl : f = 845 := by omega
                      exact sl_f845
                    · skip
                      obtain rfl : f = 846 := by omega
                      exact sl_f846
                · skip
                  by_cases h849 : f < 849
                  · skip
                    by_cases h848 : f < 848
                    · skip
                      obtain rfl : f = 847 := by omega
                      exact sl_f847
                    · skip
                      obtain rfl : f = 848 := by omega
                      exact sl_f848
                  · skip
                    by_cases h850 : f < 850
                    · skip
                      obtain rfl : f = 849 := by omega
                      exact sl_f849
                    · skip
                      obtain rfl : f = 850 := by omega
                      exact sl_f850
          · skip
            by_cases h865 : f < 865
            · skip
              by_cases h858 : f < 858
              · skip
                by_cases h854 : f < 854
                · skip
                  by_cases h852 : f < 852
                  · skip
                    obtain rfl : f = 851 := by omega
                    exact sl_f851
                  · skip
                    by_cases h853 : f < 853
                    · skip
                      obtain rfl : f = 852 := by omega
                      exact sl_f852
                    · skip
                      obtain rfl : f = 853 := by omega
                      exact sl_f853
                · skip
                  by_cases h856 : f < 856
                  · skip
                    by_cases h855 : f < 855
                    · skip
                      obtain rfl : f = 854 := by omega
                      exact sl_f854
                    · skip
                      obtain rfl : f = 855 := by omega
                      exact sl_f855
                  · skip
                    by_cases h857 : f < 857
                    · skip
                      obtain rfl : f = 856 := by omega
                      exact sl_f856
                    · skip
                      obtain rfl : f = 857 := by omega
                      exact sl_f857
              · skip
                by_cases h861 : f < 861
                · skip
                  by_cases h859 : f < 859
                  · skip
                    obtain rfl : f = 858 := by omega
                    exact sl_f858
                  · skip
                    by_cases h860 : f < 860
                    · skip
                      obtain rfl : f = 859 := by omega
                      exact sl_f859
                    · skip
                      obtain rfl : f = 860 := by omega
                      exact sl_f860
                · skip
                  by_cases h863 : f < 863
                  · skip
                    by_cases h862 : f < 862
                    · skip
                      obtain rfl : f = 861 := by omega
                      exact sl_f861
                    · skip
                      obtain rfl : f = 862 := by omega
                      exact sl_f862
                  · skip
                    by_cases h864 : f < 864
                    · skip
                      obtain rfl : f = 863 := by omega
                      exact sl_f863
                    · skip
                      obtain rfl : f = 864 := by omega
                      exact sl_f864
            · skip
              by_cases h872 : f < 872
              · skip
                by_cases h868 : f < 868
                · skip
                  by_cases h866 : f < 866
                  · skip
                    obtain rfl : f = 865 := by omega
                    exact sl_f865
                  · skip
                    by_cases h867 : f < 867
                    · skip
                      obtain rfl : f = 866 := by omega
                      exact sl_f866
                    · skip
                      obtain rfl : f = 867 := by omega
                      exact sl_f867
                · skip
                  by_cases h870 : f < 870
                  · skip
                    by_cases h869 : f < 869
                    · skip
                      obtain rfl : f = 868 := by omega
                      exact sl_f868
                    · skip
                      obtain rfl : f = 869 := by omega
                      exact sl_f869
                  · skip
                    by_cases h871 : f < 871
                    · skip
                      obtain rfl : f = 870 := by omega
                      exact sl_f870
                    · skip
                      obtain rfl : f = 871 := by omega
                      exact sl_f871
              · skip
                by_cases h875 : f < 875
                · skip
                  by_cases h873 : f < 873
                  · skip
                    obtain rfl : f = 872 := by omega
                    exact sl_f872
                  · skip
                    by_cases h874 : f < 874
                    · skip
                      obtain rfl : f = 873 := by omega
                      exact sl_f873
                    · skip
                      obtain rfl : f = 874 := by omega
                      exact sl_f874
                · skip
                  by_cases h877 : f < 877
                  · skip
                    by_cases h876 : f < 876
                    · skip
                      obtain rfl : f = 875 := by omega
                      exact sl_f875
                    · skip
                      obtain rfl : f = 876 := by omega
                      exact sl_f876
                  · skip
                    by_cases h878 : f < 878
                    · skip
                      obtain rfl : f = 877 := by omega
                      exact sl_f877
                    · skip
                      obtain rfl : f = 878 := by omega
                      exact sl_f878
      · skip
        by_cases h935 : f < 935
        · skip
          by_cases h907 : f < 907
          · skip
            by_cases h893 : f < 893
            · skip
              by_cases h886 : f < 886
              · skip
                by_cases h882 : f < 882
                · skip
                  by_cases h880 : f < 880
                  · skip
                    obtain rfl : f = 879 := by omega
                    exact sl_f879
                  · skip
                    by_cases h881 : f < 881
                    · skip
                      obtain rfl : f = 880 := by omega
                      exact sl_f880
                    · skip
                      obtain rfl : f = 881 := by omega
                      exact sl_f881
                · skip
                  by_cases h884 : f < 884
                  · skip
                    by_cases h883 : f < 883
                    · skip
                      obtain rfl : f = 882 := by omega
                      exact sl_f882
                    · skip
                      obtain rfl : f = 883 := by omega
                      exact sl_f883
                  · skip
                    by_cases h885 : f < 885
                    · skip
                      obtain rfl : f = 884 := by omega
                      exact sl_f884
                    · skip
                      obtain rfl : f = 885 := by omega
                      exact sl_f885
              · skip
                by_cases h889 : f < 889
                · skip
                  by_cases h887 : f < 887
                  · skip
                    obtain rfl : f = 886 := by omega
                    exact sl_f886
                  · skip
                    by_cases h888 : f < 888
                    · skip
                      obtain rfl : f = 887 := by omega
                      exact sl_f887
                    · skip
                      obtain rfl : f = 888 := by omega
                      exact sl_f888
                · skip
                  by_cases h891 : f < 891
                  · skip
                    by_cases h890 : f < 890
                    · skip
                      obtain rfl : f = 889 := by omega
                      exact sl_f889
                    · skip
                      obtain rfl : f = 890 := by omega
                      exact sl_f890
                  · skip
                    by_cases h892 : f < 892
                    · skip
                      obtain rfl : f = 891 := by omega
                      exact sl_f891
                    · skip
                      obtain rfl : f = 892 := by omega
                      exact sl_f892
            · skip
              by_cases h900 : f < 900
              · skip
                by_cases h896 : f < 896
                · skip
                  by_cases h894 : f < 894
                  · skip
                    obtain rfl : f = 893 := by omega
                    exact sl_f893
                  · skip
                    by_cases h895 : f < 895
                    · skip
                      obtain rfl : f = 894 := by omega
                      exact sl_f894
                    · skip
                      obtain rfl : f = 895 := by omega
                      exact sl_f895
                · skip
                  by_cases h898 : f < 898
                  · skip
                    by_cases h897 : f < 897
                    · skip
                      obtain rfl : f = 896 := by omega
                      exact sl_f896
                    · skip
                      obtain rfl : f = 897 := by omega
                      exact sl_f897
                  · skip
                    by_cases h899 : f < 899
                    · skip
                      obtain rfl : f = 898 := by omega
                      exact sl_f898
                    · skip
                      obtain rfl : f = 899 := by omega
                      exact sl_f899
              · skip
                by_cases h903 : f < 903
                · skip
                  by_cases h901 : f < 901
                  · skip
                    obtain rfl : f = 900 := by omega
                    exact sl_f900
                  · skip
                    by_cases h902 : f < 902
                    · skip
                      obtain rfl : f = 901 := by omega
                      exact sl_f901
                    · skip
                      obtain rfl : f = 902 := by omega
                      exact sl_f902
                · skip
                  by_cases h905 : f < 905
                  · skip
                    by_cases h904 : f < 904
                    · skip
                      obtain rfl : f = 903 := by omega
                      exact sl_f903
                    · skip
                      obtain rfl : f = 904 := by omega
                      exact sl_f904
                  · skip
                    by_cases h906 : f < 906
                    · skip
                      obtain rfl : f = 905 := by omega
                      exact sl_f905
                    · skip
                      obtain rfl : f = 906 := by omega
                      exact sl_f906
          · skip
            by_cases h921 : f < 921
            · skip
              by_cases h914 : f < 914
              · skip
                by_cases h910 : f < 910
                · skip
                  by_cases h908 : f < 908
                  · skip
                    obtain rfl : f = 907 := by omega
                    exact sl_f907
                  · skip
                    by_cases h909 : f < 909
                    · skip
                      obtain rfl : f = 908 := by omega
                      exact sl_f908
                    · skip
                      obtain rfl : f = 909 := by omega
                      exact sl_f909
                · skip
                  by_cases h912 : f < 912
                  · skip
                    by_cases h911 : f < 911
                    · skip
                      obtain rfl : f = 910 := by omega
                      exact sl_f910
                    · skip
                      obtain rfl : f = 911 := by omega
                      exact sl_f911
                  · skip
                    by_cases h913 : f < 913
                    · skip
                      obtain rfl : f = 912 := by omega
                      exact sl_f912
                    · skip
                      obtain rfl : f = 913 := by omega
                      exact sl_f913
              · skip
                by_cases h917 : f < 917
                · skip
                  by_cases h915 : f < 915
                  · skip
                    obtain rfl : f = 914 := by omega
                    exact sl_f914
                  · skip
                    by_cases h916 : f < 916
                    · skip
                      obtain rfl : f = 915 := by omega
                      exact sl_f915
                    · skip
                      obtain rfl : f = 916 := by omega
                      exact sl_f916
                · skip
                  by_cases h919 : f < 919
                  · skip
                    by_cases h918 : f < 918
                    · skip
                      obtain rfl : f = 917 := by omega
                      exact sl_f917
                    · skip
                      obtain rfl : f = 918 := by omega
                      exact sl_f918
                  · skip
                    by_cases h920 : f < 920
                    · skip
                      obtain rfl : f = 919 := by omega
                      exact sl_f919
                    · skip
                      obtain rfl : f = 920 := by omega
                      exact sl_f920
            · skip
              by_cases h928 : f < 928
              · skip
                by_cases h924 : f < 924
                · skip
                  by_cases h922 : f < 922
                  · skip
                    obtain rfl : f = 921 := by omega
                    exact sl_f921
                  · skip
                    by_cases h923 : f < 923
                    · skip
                      obtain rfl : f = 922 := by omega
                      exact sl_f922
                    · skip
                      obtain rfl : f = 923 := by omega
                      exact sl_f923
                · skip
                  by_cases h926 : f < 926
                  · skip
                    by_cases h925 : f < 925
                    · skip
                      obtain rfl : f = 924 := by omega
                      exact sl_f924
                    · skip
                      obtain rfl : f = 925 := by omega
                      exact sl_f925
                  · skip
                    by_cases h927 : f < 927
                    · skip
                      obtain rfl : f = 926 := by omega
                      exact sl_f926
                    · skip
                      obtain rfl : f = 927 := by omega
                      exact sl_f927
              · skip
                by_cases h931 : f < 931
                · skip
                  by_cases h929 : f < 929
                  · skip
                    obtain rfl : f = 928 := by omega
                    exact sl_f928
                  · skip
                    by_cases h930 : f < 930
                    · skip
                      obtain rfl : f = 929 := by omega
                      exact sl_f929
                    · skip
                      obtain rfl : f = 930 := by omega
                      exact sl_f930
                · skip
                  by_cases h933 : f < 933
                  · skip
                    by_cases h932 : f < 932
                    · skip
                      obtain rfl : f = 931 := by omega
                      exact sl_f931
                    · skip
                      obtain rfl : f = 932 := by omega
                      exact sl_f932
                  · skip
                    by_cases h934 : f < 934
                    · skip
                      obtain rfl : f = 933 := by omega
                      exact sl_f933
                    · skip
                      obtain rfl : f = 934 := by omega
                      exact sl_f934
        · skip
          by_cases h963 : f < 963
          · skip
            by_cases h949 : f < 949
            · skip
              by_cases h942 : f < 942
              · skip
                by_cases h938 : f < 938
                · skip
                  by_cases h936 : f < 936
                  · skip
                    obtain rfl : f = 935 := by omega
                    exact sl_f935
                  · skip
                    by_cases h937 : f < 937
                    · skip
                      obtain rfl : f = 936 := by omega
                      exact sl_f936
                    · skip
                      obtain rfl : f = 937 := by omega
                      exact sl_f937
                · skip
                  by_cases h940 : f < 940
                  · skip
                    by_cases h939 : f < 939
                    · skip
                      obtain rfl : f = 938 := by omega
                      exact sl_f938
                    · skip
                      obtain rfl : f = 939 := by omega
                      exact sl_f939
                  · skip
                    by_cases h941 : f < 941
                    · skip
                      obtain rfl : f = 940 := by omega
                      exact sl_f940
                    · skip
                      obtain rfl : f = 941 := by omega
                      exact sl_f941
              · skip
                by_cases h945 : f < 945
                · skip
                  by_cases h943 : f < 943
                  · skip
                    obtain rfl : f = 942 := by omega
                    exact sl_f942
                  · skip
                    by_cases h944 : f < 944
                    · skip
                      obtain rfl : f = 943 := by omega
                      exact sl_f943
                    · skip
                      obtain rfl : f = 944 := by omega
                      exact sl_f944
                · skip
                  by_cases h947 : f < 947
                  · skip
                    by_cases h946 : f < 946
                    · skip
                      obtain rfl : f = 945 := by omega
                      exact sl_f945
                    · skip
                      obtain rfl : f = 946 := by omega
                      exact sl_f946
                  · skip
                    by_cases h948 : f < 948
                    · skip
                      obtain rfl : f = 947 := by omega
                      exact sl_f947
                    · skip
                      obtain rfl : f = 948 := by omega
                      exact sl_f948
            · skip
              by_cases h956 : f < 956
              · skip
                by_cases h952 : f < 952
                · skip
                  by_cases h950 : f < 950
                  · skip
                    obtain rfl : f = 949 := by omega
                    exact sl_f949
                  · skip
                    by_cases h951 : f < 951
                    · skip
                      obtain rfl : f = 950 := by omega
                      exact sl_f950
                    · skip
                      obtain rfl : f = 951 := by omega
                      exact sl_f951
                · skip
                  by_cases h954 : f < 954
                  · skip
                    by_cases h953 : f < 953
                    · skip
                      obtain rfl : f = 952 := by omega
                      exact sl_f952
                    · skip
                      obtain rfl : f = 953 := by omega
                      exact sl_f953
                  · skip
                    by_cases h955 : f < 955
                    · skip
                      obtain rfl : f = 954 := by omega
                      exact sl_f954
                    · skip
                      obtain rfl : f = 955 := by omega
                      exact sl_f955
              · skip
                by_cases h959 : f < 959
                · skip
                  by_cases h957 : f < 957
                  · skip
                    obtain rfl : f = 956 := by omega
                    exact sl_f956
                  · skip
                    by_cases h958 : f < 958
                    · skip
                      obtain rfl : f = 957 := by omega
                      exact sl_f957
                    · skip
                      obtain rfl : f = 958 := by omega
                      exact sl_f958
                · skip
                  by_cases h961 : f < 961
                  · skip
                    by_cases h960 : f < 960
                    · skip
                      obtain rfl : f = 959 := by omega
                      exact sl_f959
                    · skip
                      obtain rfl : f = 960 := by omega
                      exact sl_f960
                  · skip
                    by_cases h962 : f < 962
                    · skip
                      obtain rfl : f = 961 := by omega
                      exact sl_f961
                    · skip
                      obtain rfl : f = 962 := by omega
                      exact sl_f962
          · skip
            by_cases h977 : f < 977
            · skip
              by_cases h970 : f < 970
              · skip
                by_cases h966 : f < 966
                · skip
                  by_cases h964 : f < 964
                  · skip
                    obtain rfl : f = 963 := by omega
                    exact sl_f963
                  · skip
                    by_cases h965 : f < 965
                    · skip
                      obtain rfl : f = 964 := by omega
                      exact sl_f964
                    · skip
                      obtain rfl : f = 965 := by omega
                      exact sl_f965
                · skip
                  by_cases h968 : f < 968
                  · skip
                    by_cases h967 : f < 967
                    · skip
                      obtain rfl : f = 966 := by omega
                      exact sl_f966
                    · skip
                      obtain rfl : f = 967 := by omega
                      exact sl_f967
                  · skip
                    by_cases h969 : f < 969
                    · skip
                      obtain rfl : f = 968 := by omega
                      exact sl_f968
                    · skip
                      obtain rfl : f = 969 := by omega
                      exact sl_f969
              · skip
                by_cases h973 : f < 973
                · skip
                  by_cases h971 : f < 971
                  · skip
                    obtain rfl : f = 970 := by omega
                    exact sl_f970
                  · skip
                    by_cases h972 : f < 972
                    · skip
                      obtain rfl : f = 971 := by omega
                      exact sl_f971
                    · skip
                      obtain rfl : f = 972 := by omega
                      exact sl_f972
                · skip
                  by_cases h975 : f < 975
                  · skip
                    by_cases h974 : f < 974
                    · skip
                      obtain rfl : f = 973 := by omega
                      exact sl_f973
                    · skip
                      obtain rfl : f = 974 := by omega
                      exact sl_f974
                  · skip
                    by_cases h976 : f < 976
                    · skip
                      obtain rfl : f = 975 := by omega
                      exact sl_f975
                    · skip
                      obtain rfl : f = 976 := by omega
                      exact sl_f976
            · skip
              by_cases h984 : f < 984
              · skip
                by_cases h980 : f < 980
                · skip
                  by_cases h978 : f < 978
                  · skip
                    obtain rfl : f = 977 := by omega
                    exact sl_f977
                  · skip
                    by_cases h979 : f < 979
                    · skip
                      obtain rfl : f = 978 := by omega
                      exact sl_f978
                    · skip
                      obtain rfl : f = 979 := by omega
                      exact sl_f979
                · skip
                  by_cases h982 : f < 982
                  · skip
                    by_cases h981 : f < 981
                    · skip
                      obtain rfl : f = 980 := by omega
                      exact sl_f980
                    · skip
                      obtain rfl : f = 981 := by omega
                      exact sl_f981
                  · skip
                    by_cases h983 : f < 983
                    · skip
                      obtain rfl : f = 982 := by omega
                      exact sl_f982
                    · skip
                      obtain rfl : f = 983 := by omega
                      exact sl_f983
              · skip
                by_cases h987 : f < 987
                · skip
                  by_cases h985 : f < 985
                  · skip
                    obtain rfl : f = 984 := by omega
                    exact sl_f984
                  · skip
                    by_cases h986 : f < 986
                    · skip
                      obtain rfl : f = 985 := by omega
                      exact sl_f985
                    · skip
                      obtain rfl : f = 986 := by omega
                      exact sl_f986
                · skip
                  by_cases h989 : f < 989
                  · skip
                    by_cases h988 : f < 988
                    · skip
                      obtain rfl : f = 987 := by omega
                      exact sl_f987
                    · skip
                      obtain rfl : f = 988 := by omega
                      exact sl_f988
                  · skip
                    by_cases h990 : f < 990
                    · skip
                      obtain rfl : f = 989 := by omega
                      exact sl_f989
                    · skip
                      obtain rfl : f = 990 := by omega
                      exact sl_f990
theorem sl_Ue0 : sl_U0 = sl_pk 9000 (fun i => sl_u (10000 + i)) := (Nat.eq_of_beq_eq_true sl_Uk0).symm.trans (sl_tr_e sl_u 14 10000 9000 (by decide))
theorem sl_Ue1 : sl_U1 = sl_pk 9000 (fun i => sl_u (19000 + i)) := (Nat.eq_of_beq_eq_true sl_Uk1).symm.trans (sl_tr_e sl_u 14 19000 9000 (by decide))
theorem sl_Ue2 : sl_U2 = sl_pk 9000 (fun i => sl_u (28000 + i)) := (Nat.eq_of_beq_eq_true sl_Uk2).symm.trans (sl_tr_e sl_u 14 28000 9000 (by decide))
theorem sl_Ue3 : sl_U3 = sl_pk 9000 (fun i => sl_u (37000 + i)) := (Nat.eq_of_beq_eq_true sl_Uk3).symm.trans (sl_tr_e sl_u 14 37000 9000 (by decide))
theorem sl_Ue4 : sl_U4 = sl_pk 9000 (fun i => sl_u (46000 + i)) := (Nat.eq_of_beq_eq_true sl_Uk4).symm.trans (sl_tr_e sl_u 14 46000 9000 (by decide))
theorem sl_Ue5 : sl_U5 = sl_pk 9000 (fun i => sl_u (55000 + i)) := (Nat.eq_of_beq_eq_true sl_Uk5).symm.trans (sl_tr_e sl_u 14 55000 9000 (by decide))
theorem sl_Ue6 : sl_U6 = sl_pk 9000 (fun i => sl_u (64000 + i)) := (Nat.eq_of_beq_eq_true sl_Uk6).symm.trans (sl_tr_e sl_u 14 64000 9000 (by decide))
theorem sl_Ue7 : sl_U7 = sl_pk 9000 (fun i => sl_u (73000 + i)) := (Nat.eq_of_beq_eq_true sl_Uk7).symm.trans (sl_tr_e sl_u 14 73000 9000 (by decide))
theorem sl_Ue8 : sl_U8 = sl_pk 9000 (fun i => sl_u (82000 + i)) := (Nat.eq_of_beq_eq_true sl_Uk8).symm.trans (sl_tr_e sl_u 14 82000 9000 (by decide))
theorem sl_Ue9 : sl_U9 = sl_pk 9000 (fun i => sl_u (91000 + i)) := (Nat.eq_of_beq_eq_true sl_Uk9).symm.trans (sl_tr_e sl_u 14 91000 9000 (by decide))
theorem sl_sch_17 : ∀ s, s ∈ sl_sch → s ≤ 17 := by decide
theorem sl_gp {v f : Nat} (h0 : 10000 ≤ v) (h1 : v < 100000) (f0 : 100 ≤ f) (f1 : f ≤ 990) (hne : v ≠ 100 * f) : sl_Gp ((sl_u v + sl_c f) % 590295810358705651712) := by
  have h := sl_f_all f0 f1
  unfold sl_all at h
  simp only [Bool.and_eq_true] at h
  obtain ⟨⟨⟨⟨⟨⟨⟨⟨⟨g0, g1⟩, g2⟩, g3⟩, g4⟩, g5⟩, g6⟩, g7⟩, g8⟩, g9⟩ := h
  have hc : sl_c f ≤ 590295810358705651712 := Nat.sub_le _ _
  have hd : sl_d < 590295810358705651712 := by decide
  rcases (show (10000 ≤ v ∧ v < 19000) ∨ (19000 ≤ v ∧ v < 28000) ∨ (28000 ≤ v ∧ v < 37000) ∨ (37000 ≤ v ∧ v < 46000) ∨ (46000 ≤ v ∧ v < 55000) ∨ (55000 ≤ v ∧ v < 64000) ∨ (64000 ≤ v ∧ v < 73000) ∨ (73000 ≤ v ∧ v < 82000) ∨ (82000 ≤ v ∧ v < 91000) ∨ (91000 ≤ v ∧ v < 100000) by omega) with q | q | q | q | q | q | q | q | q | q
  · have := sl_chk_ok (fun i => sl_u (10000 + i)) (by decide) sl_Ue0 (fun i _ => sl_u_lt _) hc hd sl_sch_17 g0 (v - 10000) (by omega) (by omega)
    rwa [show 10000 + (v - 10000) = v by omega] at this
  · have := sl_chk_ok (fun i => sl_u (19000 + i)) (by decide) sl_Ue1 (fun i _ => sl_u_lt _) hc hd sl_sch_17 g1 (v - 19000) (by omega) (by omega)
    rwa [show 19000 + (v - 19000) = v by omega] at this
  · have := sl_chk_ok (fun i => sl_u (28000 + i)) (by decide) sl_Ue2 (fun i _ => sl_u_lt _) hc hd sl_sch_17 g2 (v - 28000) (by omega) (by omega)
    rwa [show 28000 + (v - 28000) = v by omega] at this
  · have := sl_chk_ok (fun i => sl_u (37000 + i)) (by decide) sl_Ue3 (fun i _ => sl_u_lt _) hc hd sl_sch_17 g3 (v - 37000) (by omega) (by omega)
    rwa [show 37000 + (v - 37000) = v by omega] at this
  · have := sl_chk_ok (fun i => sl_u (46000 + i)) (by decide) sl_Ue4 (fun i _ => sl_u_lt _) hc hd sl_sch_17 g4 (v - 46000) (by omega) (by omega)
    rwa [show 46000 + (v - 46000) = v by omega] at this
  · have := sl_chk_ok (fun i => sl_u (55000 + i)) (by decide) sl_Ue5 (fun i _ => sl_u_lt _) hc hd sl_sch_17 g5 (v - 55000) (by omega) (by omega)
    rwa [show 55000 + (v - 55000) = v by omega] at this
  · have := sl_chk_ok (fun i => sl_u (64000 + i)) (by decide) sl_Ue6 (fun i _ => sl_u_lt _) hc hd sl_sch_17 g6 (v - 64000) (by omega) (by omega)
    rwa [show 64000 + (v - 64000) = v by omega] at this
  · have := sl_chk_ok (fun i => sl_u (73000 + i)) (by decide) sl_Ue7 (fun i _ => sl_u_lt _) hc hd sl_sch_17 g7 (v - 73000) (by omega) (by omega)
    rwa [show 73000 + (v - 73000) = v by omega] at this
  · have := sl_chk_ok (fun i => sl_u (82000 + i)) (by decide) sl_Ue8 (fun i _ => sl_u_lt _) hc hd sl_sch_17 g8 (v - 82000) (by omega) (by omega)
    rwa [show 82000 + (v - 82000) = v by omega] at this
  · have := sl_chk_ok (fun i => sl_u (91000 + i)) (by decide) sl_Ue9 (fun i _ => sl_u_lt _) hc hd sl_sch_17 g9 (v - 91000) (by omega) (by omega)
    rwa [show 91000 + (v - 91000) = v by omega] at this
