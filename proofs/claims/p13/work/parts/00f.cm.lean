/-! both sides' logarithms are alike (wip/places/gen_nums.py) -/
theorem sl_ck0 : sl_cms 100 500 = true := by decide +kernel
theorem sl_ck1 : sl_cms 600 500 = true := by decide +kernel
theorem sl_ck2 : sl_cms 1100 500 = true := by decide +kernel
theorem sl_ck3 : sl_cms 1600 500 = true := by decide +kernel
theorem sl_ck4 : sl_cms 2100 500 = true := by decide +kernel
theorem sl_ck5 : sl_cms 2600 500 = true := by decide +kernel
theorem sl_ck6 : sl_cms 3100 500 = true := by decide +kernel
theorem sl_ck7 : sl_cms 3600 500 = true := by decide +kernel
theorem sl_ck8 : sl_cms 4100 500 = true := by decide +kernel
theorem sl_ck9 : sl_cms 4600 500 = true := by decide +kernel
theorem sl_ck10 : sl_cms 5100 500 = true := by decide +kernel
theorem sl_ck11 : sl_cms 5600 500 = true := by decide +kernel
theorem sl_ck12 : sl_cms 6100 500 = true := by decide +kernel
theorem sl_ck13 : sl_cms 6600 500 = true := by decide +kernel
theorem sl_ck14 : sl_cms 7100 500 = true := by decide +kernel
theorem sl_ck15 : sl_cms 7600 500 = true := by decide +kernel
theorem sl_ck16 : sl_cms 8100 500 = true := by decide +kernel
theorem sl_ck17 : sl_cms 8600 500 = true := by decide +kernel
theorem sl_ck18 : sl_cms 9100 500 = true := by decide +kernel
theorem sl_ck19 : sl_cms 9600 500 = true := by decide +kernel
theorem sl_ck20 : sl_cms 10100 500 = true := by decide +kernel
theorem sl_ck21 : sl_cms 10600 500 = true := by decide +kernel
theorem sl_ck22 : sl_cms 11100 500 = true := by decide +kernel
theorem sl_ck23 : sl_cms 11600 500 = true := by decide +kernel
theorem sl_ck24 : sl_cms 12100 500 = true := by decide +kernel
theorem sl_ck25 : sl_cms 12600 500 = true := by decide +kernel
theorem sl_ck26 : sl_cms 13100 500 = true := by decide +kernel
theorem sl_ck27 : sl_cms 13600 500 = true := by decide +kernel
theorem sl_ck28 : sl_cms 14100 500 = true := by decide +kernel
theorem sl_ck29 : sl_cms 14600 500 = true := by decide +kernel
theorem sl_ck30 : sl_cms 15100 500 = true := by decide +kernel
theorem sl_ck31 : sl_cms 15600 500 = true := by decide +kernel
theorem sl_ck32 : sl_cms 16100 500 = true := by decide +kernel
theorem sl_ck33 : sl_cms 16600 500 = true := by decide +kernel
theorem sl_ck34 : sl_cms 17100 500 = true := by decide +kernel
theorem sl_ck35 : sl_cms 17600 500 = true := by decide +kernel
theorem sl_ck36 : sl_cms 18100 500 = true := by decide +kernel
theorem sl_ck37 : sl_cms 18600 500 = true := by decide +kernel
theorem sl_ck38 : sl_cms 19100 500 = true := by decide +kernel
theorem sl_ck39 : sl_cms 19600 500 = true := by decide +kernel
theorem sl_ck40 : sl_cms 20100 500 = true := by decide +kernel
theorem sl_ck41 : sl_cms 20600 500 = true := by decide +kernel
theorem sl_ck42 : sl_cms 21100 500 = true := by decide +kernel
theorem sl_ck43 : sl_cms 21600 500 = true := by decide +kernel
theorem sl_ck44 : sl_cms 22100 500 = true := by decide +kernel
theorem sl_ck45 : sl_cms 22600 500 = true := by decide +kernel
theorem sl_ck46 : sl_cms 23100 500 = true := by decide +kernel
theorem sl_ck47 : sl_cms 23600 500 = true := by decide +kernel
theorem sl_ck48 : sl_cms 24100 500 = true := by decide +kernel
theorem sl_ck49 : sl_cms 24600 500 = true := by decide +kernel
theorem sl_ck50 : sl_cms 25100 500 = true := by decide +kernel
theorem sl_ck51 : sl_cms 25600 500 = true := by decide +kernel
theorem sl_ck52 : sl_cms 26100 500 = true := by decide +kernel
theorem sl_ck53 : sl_cms 26600 500 = true := by decide +kernel
theorem sl_ck54 : sl_cms 27100 500 = true := by decide +kernel
theorem sl_ck55 : sl_cms 27600 500 = true := by decide +kernel
theorem sl_ck56 : sl_cms 28100 500 = true := by decide +kernel
theorem sl_ck57 : sl_cms 28600 500 = true := by decide +kernel
theorem sl_ck58 : sl_cms 29100 500 = true := by decide +kernel
theorem sl_ck59 : sl_cms 29600 500 = true := by decide +kernel
theorem sl_ck60 : sl_cms 30100 500 = true := by decide +kernel
theorem sl_ck61 : sl_cms 30600 500 = true := by decide +kernel
theorem sl_ck62 : sl_cms 31100 500 = true := by decide +kernel
theorem sl_ck63 : sl_cms 31600 500 = true := by decide +kernel
theorem sl_ck64 : sl_cms 32100 500 = true := by decide +kernel
theorem sl_ck65 : sl_cms 32600 500 = true := by decide +kernel
theorem sl_ck66 : sl_cms 33100 500 = true := by decide +kernel
theorem sl_ck67 : sl_cms 33600 500 = true := by decide +kernel
theorem sl_ck68 : sl_cms 34100 500 = true := by decide +kernel
theorem sl_ck69 : sl_cms 34600 500 = true := by decide +kernel
theorem sl_ck70 : sl_cms 35100 500 = true := by decide +kernel
theorem sl_ck71 : sl_cms 35600 500 = true := by decide +kernel
theorem sl_ck72 : sl_cms 36100 500 = true := by decide +kernel
theorem sl_ck73 : sl_cms 36600 500 = true := by decide +kernel
theorem sl_ck74 : sl_cms 37100 500 = true := by decide +kernel
theorem sl_ck75 : sl_cms 37600 500 = true := by decide +kernel
theorem sl_ck76 : sl_cms 38100 500 = true := by decide +kernel
theorem sl_ck77 : sl_cms 38600 500 = true := by decide +kernel
theorem sl_ck78 : sl_cms 39100 500 = true := by decide +kernel
theorem sl_ck79 : sl_cms 39600 500 = true := by decide +kernel
theorem sl_ck80 : sl_cms 40100 500 = true := by decide +kernel
theorem sl_ck81 : sl_cms 40600 500 = true := by decide +kernel
theorem sl_ck82 : sl_cms 41100 500 = true := by decide +kernel
theorem sl_ck83 : sl_cms 41600 500 = true := by decide +kernel
theorem sl_ck84 : sl_cms 42100 500 = true := by decide +kernel
theorem sl_ck85 : sl_cms 42600 500 = true := by decide +kernel
theorem sl_ck86 : sl_cms 43100 500 = true := by decide +kernel
theorem sl_ck87 : sl_cms 43600 500 = true := by decide +kernel
theorem sl_ck88 : sl_cms 44100 500 = true := by decide +kernel
theorem sl_ck89 : sl_cms 44600 500 = true := by decide +kernel
theorem sl_ck90 : sl_cms 45100 500 = true := by decide +kernel
theorem sl_ck91 : sl_cms 45600 500 = true := by decide +kernel
theorem sl_ck92 : sl_cms 46100 500 = true := by decide +kernel
theorem sl_ck93 : sl_cms 46600 500 = true := by decide +kernel
theorem sl_ck94 : sl_cms 47100 500 = true := by decide +kernel
theorem sl_ck95 : sl_cms 47600 500 = true := by decide +kernel
theorem sl_ck96 : sl_cms 48100 500 = true := by decide +kernel
theorem sl_ck97 : sl_cms 48600 500 = true := by decide +kernel
theorem sl_ck98 : sl_cms 49100 500 = true := by decide +kernel
theorem sl_ck99 : sl_cms 49600 500 = true := by decide +kernel
theorem sl_ck100 : sl_cms 50100 500 = true := by decide +kernel
theorem sl_ck101 : sl_cms 50600 500 = true := by decide +kernel
theorem sl_ck102 : sl_cms 51100 500 = true := by decide +kernel
theorem sl_ck103 : sl_cms 51600 500 = true := by decide +kernel
theorem sl_ck104 : sl_cms 52100 500 = true := by decide +kernel
theorem sl_ck105 : sl_cms 52600 500 = true := by decide +kernel
theorem sl_ck106 : sl_cms 53100 500 = true := by decide +kernel
theorem sl_ck107 : sl_cms 53600 500 = true := by decide +kernel
theorem sl_ck108 : sl_cms 54100 500 = true := by decide +kernel
theorem sl_ck109 : sl_cms 54600 500 = true := by decide +kernel
theorem sl_ck110 : sl_cms 55100 500 = true := by decide +kernel
theorem sl_ck111 : sl_cms 55600 500 = true := by decide +kernel
theorem sl_ck112 : sl_cms 56100 500 = true := by decide +kernel
theorem sl_ck113 : sl_cms 56600 500 = true := by decide +kernel
theorem sl_ck114 : sl_cms 57100 500 = true := by decide +kernel
theorem sl_ck115 : sl_cms 57600 500 = true := by decide +kernel
theorem sl_ck116 : sl_cms 58100 500 = true := by decide +kernel
theorem sl_ck117 : sl_cms 58600 500 = true := by decide +kernel
theorem sl_ck118 : sl_cms 59100 500 = true := by decide +kernel
theorem sl_ck119 : sl_cms 59600 500 = true := by decide +kernel
theorem sl_ck120 : sl_cms 60100 500 = true := by decide +kernel
theorem sl_ck121 : sl_cms 60600 500 = true := by decide +kernel
theorem sl_ck122 : sl_cms 61100 500 = true := by decide +kernel
theorem sl_ck123 : sl_cms 61600 500 = true := by decide +kernel
theorem sl_ck124 : sl_cms 62100 500 = true := by decide +kernel
theorem sl_ck125 : sl_cms 62600 500 = true := by decide +kernel
theorem sl_ck126 : sl_cms 63100 500 = true := by decide +kernel
theorem sl_ck127 : sl_cms 63600 500 = true := by decide +kernel
theorem sl_ck128 : sl_cms 64100 500 = true := by decide +kernel
theorem sl_ck129 : sl_cms 64600 500 = true := by decide +kernel
theorem sl_ck130 : sl_cms 65100 500 = true := by decide +kernel
theorem sl_ck131 : sl_cms 65600 500 = true := by decide +kernel
theorem sl_ck132 : sl_cms 66100 500 = true := by decide +kernel
theorem sl_ck133 : sl_cms 66600 500 = true := by decide +kernel
theorem sl_ck134 : sl_cms 67100 500 = true := by decide +kernel
theorem sl_ck135 : sl_cms 67600 500 = true := by decide +kernel
theorem sl_ck136 : sl_cms 68100 500 = true := by decide +kernel
theorem sl_ck137 : sl_cms 68600 500 = true := by decide +kernel
theorem sl_ck138 : sl_cms 69100 500 = true := by decide +kernel
theorem sl_ck139 : sl_cms 69600 500 = true := by decide +kernel
theorem sl_ck140 : sl_cms 70100 500 = true := by decide +kernel
theorem sl_ck141 : sl_cms 70600 500 = true := by decide +kernel
theorem sl_ck142 : sl_cms 71100 500 = true := by decide +kernel
theorem sl_ck143 : sl_cms 71600 500 = true := by decide +kernel
theorem sl_ck144 : sl_cms 72100 500 = true := by decide +kernel
theorem sl_ck145 : sl_cms 72600 500 = true := by decide +kernel
theorem sl_ck146 : sl_cms 73100 500 = true := by decide +kernel
theorem sl_ck147 : sl_cms 73600 500 = true := by decide +kernel
theorem sl_ck148 : sl_cms 74100 500 = true := by decide +kernel
theorem sl_ck149 : sl_cms 74600 500 = true := by decide +kernel
theorem sl_ck150 : sl_cms 75100 500 = true := by decide +kernel
theorem sl_ck151 : sl_cms 75600 500 = true := by decide +kernel
theorem sl_ck152 : sl_cms 76100 500 = true := by decide +kernel
theorem sl_ck153 : sl_cms 76600 500 = true := by decide +kernel
theorem sl_ck154 : sl_cms 77100 500 = true := by decide +kernel
theorem sl_ck155 : sl_cms 77600 500 = true := by decide +kernel
theorem sl_ck156 : sl_cms 78100 500 = true := by decide +kernel
theorem sl_ck157 : sl_cms 78600 500 = true := by decide +kernel
theorem sl_ck158 : sl_cms 79100 500 = true := by decide +kernel
theorem sl_ck159 : sl_cms 79600 500 = true := by decide +kernel
theorem sl_ck160 : sl_cms 80100 500 = true := by decide +kernel
theorem sl_ck161 : sl_cms 80600 500 = true := by decide +kernel
theorem sl_ck162 : sl_cms 81100 500 = true := by decide +kernel
theorem sl_ck163 : sl_cms 81600 500 = true := by decide +kernel
theorem sl_ck164 : sl_cms 82100 500 = true := by decide +kernel
theorem sl_ck165 : sl_cms 82600 500 = true := by decide +kernel
theorem sl_ck166 : sl_cms 83100 500 = true := by decide +kernel
theorem sl_ck167 : sl_cms 83600 500 = true := by decide +kernel
theorem sl_ck168 : sl_cms 84100 500 = true := by decide +kernel
theorem sl_ck169 : sl_cms 84600 500 = true := by decide +kernel
theorem sl_ck170 : sl_cms 85100 500 = true := by decide +kernel
theorem sl_ck171 : sl_cms 85600 500 = true := by decide +kernel
theorem sl_ck172 : sl_cms 86100 500 = true := by decide +kernel
theorem sl_ck173 : sl_cms 86600 500 = true := by decide +kernel
theorem sl_ck174 : sl_cms 87100 500 = true := by decide +kernel
theorem sl_ck175 : sl_cms 87600 500 = true := by decide +kernel
theorem sl_ck176 : sl_cms 88100 500 = true := by decide +kernel
theorem sl_ck177 : sl_cms 88600 500 = true := by decide +kernel
theorem sl_ck178 : sl_cms 89100 500 = true := by decide +kernel
theorem sl_ck179 : sl_cms 89600 500 = true := by decide +kernel
theorem sl_ck180 : sl_cms 90100 500 = true := by decide +kernel
theorem sl_ck181 : sl_cms 90600 500 = true := by decide +kernel
theorem sl_ck182 : sl_cms 91100 500 = true := by decide +kernel
theorem sl_ck183 : sl_cms 91600 500 = true := by decide +kernel
theorem sl_ck184 : sl_cms 92100 500 = true := by decide +kernel
theorem sl_ck185 : sl_cms 92600 500 = true := by decide +kernel
theorem sl_ck186 : sl_cms 93100 500 = true := by decide +kernel
theorem sl_ck187 : sl_cms 93600 500 = true := by decide +kernel
theorem sl_ck188 : sl_cms 94100 500 = true := by decide +kernel
theorem sl_ck189 : sl_cms 94600 500 = true := by decide +kernel
theorem sl_ck190 : sl_cms 95100 500 = true := by decide +kernel
theorem sl_ck191 : sl_cms 95600 500 = true := by decide +kernel
theorem sl_ck192 : sl_cms 96100 500 = true := by decide +kernel
theorem sl_ck193 : sl_cms 96600 500 = true := by decide +kernel
theorem sl_ck194 : sl_cms 97100 500 = true := by decide +kernel
theorem sl_ck195 : sl_cms 97600 500 = true := by decide +kernel
theorem sl_ck196 : sl_cms 98100 500 = true := by decide +kernel
theorem sl_ck197 : sl_cms 98600 500 = true := by decide +kernel
theorem sl_ck198 : sl_cms 99100 500 = true := by decide +kernel
theorem sl_ck199 : sl_cms 99600 401 = true := by decide +kernel
theorem sl_cm_all {v : Nat} (h0 : 100 ≤ v) (h1 : v ≤ 100000) : sl_cm v = true := by
  by_cases h100 : v < 50100
  · skip
    by_cases h50 : v < 25100
    · skip
      by_cases h25 : v < 12600
      · skip
        by_cases h12 : v < 6100
        · skip
          by_cases h6 : v < 3100
          · skip
            by_cases h3 : v < 1600
            · skip
              by_cases h1 : v < 600
              · skip
                exact sl_cms_at sl_ck0 v (by omega) (by omega)
              · skip
                by_cases h2 : v < 1100
                · skip
                  exact sl_cms_at sl_ck1 v (by omega) (by omega)
                · skip
                  exact sl_cms_at sl_ck2 v (by omega) (by omega)
            · skip
              by_cases h4 : v < 2100
              · skip
                exact sl_cms_at sl_ck3 v (by omega) (by omega)
              · skip
                by_cases h5 : v < 2600
                · skip
                  exact sl_cms_at sl_ck4 v (by omega) (by omega)
                · skip
                  exact sl_cms_at sl_ck5 v (by omega) (by omega)
          · skip
            by_cases h9 : v < 4600
            · skip
              by_cases h7 : v < 3600
              · skip
                exact sl_cms_at sl_ck6 v (by omega) (by omega)
              · skip
                by_cases h8 : v < 4100
                · skip
                  exact sl_cms_at sl_ck7 v (by omega) (by omega)
                · skip
                  exact sl_cms_at sl_ck8 v (by omega) (by omega)
            · skip
              by_cases h10 : v < 5100
              · skip
                exact sl_cms_at sl_ck9 v (by omega) (by omega)
              · skip
                by_cases h11 : v < 5600
                · skip
                  exact sl_cms_at sl_ck10 v (by omega) (by omega)
                · skip
                  exact sl_cms_at sl_ck11 v (by omega) (by omega)
        · skip
          by_cases h18 : v < 9100
          · skip
            by_cases h15 : v < 7600
            · skip
              by_cases h13 : v < 6600
              · skip
                exact sl_cms_at sl_ck12 v (by omega) (by omega)
              · skip
                by_cases h14 : v < 7100
                · skip
                  exact sl_cms_at sl_ck13 v (by omega) (by omega)
                · skip
                  exact sl_cms_at sl_ck14 v (by omega) (by omega)
            · skip
              by_cases h16 : v < 8100
              · skip
                exact sl_cms_at sl_ck15 v (by omega) (by omega)
              · skip
                by_cases h17 : v < 8600
                · skip
                  exact sl_cms_at sl_ck16 v (by omega) (by omega)
                · skip
                  exact sl_cms_at sl_ck17 v (by omega) (by omega)
          · skip
            by_cases h21 : v < 10600
            · skip
              by_cases h19 : v < 9600
              · skip
                exact sl_cms_at sl_ck18 v (by omega) (by omega)
              · skip
                by_cases h20 : v < 10100
                · skip
                  exact sl_cms_at sl_ck19 v (by omega) (by omega)
                · skip
                  exact sl_cms_at sl_ck20 v (by omega) (by omega)
            · skip
              by_cases h23 : v < 11600
              · skip
                by_cases h22 : v < 11100
                · skip
                  exact sl_cms_at sl_ck21 v (by omega) (by omega)
                · skip
                  exact sl_cms_at sl_ck22 v (by omega) (by omega)
              · skip
                by_cases h24 : v < 12100
                · skip
                  exact sl_cms_at sl_ck23 v (by omega) (by omega)
                · skip
                  exact sl_cms_at sl_ck24 v (by omega) (by omega)
      · skip
        by_cases h37 : v < 18600
        · skip
          by_cases h31 : v < 15600
          · skip
            by_cases h28 : v < 14100
            · skip
              by_cases h26 : v < 13100
              · skip
                exact sl_cms_at sl_ck25 v (by omega) (by omega)
              · skip
                by_cases h27 : v < 13600
                · skip
                  exact sl_cms_at sl_ck26 v (by omega) (by omega)
                · skip
                  exact sl_cms_at sl_ck27 v (by omega) (by omega)
            · skip
              by_cases h29 : v < 14600
              · skip
                exact sl_cms_at sl_ck28 v (by omega) (by omega)
              · skip
                by_cases h30 : v < 15100
                · skip
                  exact sl_cms_at sl_ck29 v (by omega) (by omega)
                · skip
                  exact sl_cms_at sl_ck30 v (by omega) (by omega)
          · skip
            by_cases h34 : v < 17100
            · skip
              by_cases h32 : v < 16100
              · skip
                exact sl_cms_at sl_ck31 v (by omega) (by omega)
              · skip
                by_cases h33 : v < 16600
                · skip
                  exact sl_cms_at sl_ck32 v (by omega) (by omega)
                · skip
                  exact sl_cms_at sl_ck33 v (by omega) (by omega)
            · skip
              by_cases h35 : v < 17600
              · skip
                exact sl_cms_at sl_ck34 v (by omega) (by omega)
              · skip
                by_cases h36 : v < 18100
                · skip
                  exact sl_cms_at sl_ck35 v (by omega) (by omega)
                · skip
                  exact sl_cms_at sl_ck36 v (by omega) (by omega)
        · skip
          by_cases h43 : v < 21600
          · skip
            by_cases h40 : v < 20100
            · skip
              by_cases h38 : v < 19100
              · skip
                exact sl_cms_at sl_ck37 v (by omega) (by omega)
              · skip
                by_cases h39 : v < 19600
                · skip
                  exact sl_cms_at sl_ck38 v (by omega) (by omega)
                · skip
                  exact sl_cms_at sl_ck39 v (by omega) (by omega)
            · skip
              by_cases h41 : v < 20600
              · skip
                exact sl_cms_at sl_ck40 v (by omega) (by omega)
              · skip
                by_cases h42 : v < 21100
                · skip
                  exact sl_cms_at sl_ck41 v (by omega) (by omega)
                · skip
                  exact sl_cms_at sl_ck42 v (by omega) (by omega)
          · skip
            by_cases h46 : v < 23100
            · skip
              by_cases h44 : v < 22100
              · skip
                exact sl_cms_at sl_ck43 v (by omega) (by omega)
              · skip
                by_cases h45 : v < 22600
                · skip
                  exact sl_cms_at sl_ck44 v (by omega) (by omega)
                · skip
                  exact sl_cms_at sl_ck45 v (by omega) (by omega)
            · skip
              by_cases h48 : v < 24100
              · skip
                by_cases h47 : v < 23600
                · skip
                  exact sl_cms_at sl_ck46 v (by omega) (by omega)
                · skip
                  exact sl_cms_at sl_ck47 v (by omega) (by omega)
              · skip
                by_cases h49 : v < 24600
                · skip
                  exact sl_cms_at sl_ck48 v (by omega) (by omega)
                · skip
                  exact sl_cms_at sl_ck49 v (by omega) (by omega)
    · skip
      by_cases h75 : v < 37600
      · skip
        by_cases h62 : v < 31100
        · skip
          by_cases h56 : v < 28100
          · skip
            by_cases h53 : v < 26600
            · skip
              by_cases h51 : v < 25600
              · skip
                exact sl_cms_at sl_ck50 v (by omega) (by omega)
              · skip
                by_cases h52 : v < 26100
                · skip
                  exact sl_cms_at sl_ck51 v (by omega) (by omega)
                · skip
                  exact sl_cms_at sl_ck52 v (by omega) (by omega)
            · skip
              by_cases h54 : v < 27100
              · skip
                exact sl_cms_at sl_ck53 v (by omega) (by omega)
              · skip
                by_cases h55 : v < 27600
                · skip
                  exact sl_cms_at sl_ck54 v (by omega) (by omega)
                · skip
                  exact sl_cms_at sl_ck55 v (by omega) (by omega)
          · skip
            by_cases h59 : v < 29600
            · skip
              by_cases h57 : v < 28600
              · skip
                exact sl_cms_at sl_ck56 v (by omega) (by omega)
              · skip
                by_cases h58 : v < 29100
                · skip
                  exact sl_cms_at sl_ck57 v (by omega) (by omega)
                · skip
                  exact sl_cms_at sl_ck58 v (by omega) (by omega)
            · skip
              by_cases h60 : v < 30100
              · skip
                exact sl_cms_at sl_ck59 v (by omega) (by omega)
              · skip
                by_cases h61 : v < 30600
                · skip
                  exact sl_cms_at sl_ck60 v (by omega) (by omega)
                · skip
                  exact sl_cms_at sl_ck61 v (by omega) (by omega)
        · skip
          by_cases h68 : v < 34100
          · skip
            by_cases h65 : v < 32600
            · skip
              by_cases h63 : v < 31600
              · skip
                exact sl_cms_at sl_ck62 v (by omega) (by omega)
              · skip
                by_cases h64 : v < 32100
                · skip
                  exact sl_cms_at sl_ck63 v (by omega) (by omega)
                · skip
                  exact sl_cms_at sl_ck64 v (by omega) (by omega)
            · skip
              by_cases h66 : v < 33100
              · skip
                exact sl_cms_at sl_ck65 v (by omega) (by omega)
              · skip
                by_cases h67 : v < 33600
                · skip
                  exact sl_cms_at sl_ck66 v (by omega) (by omega)
                · skip
                  exact sl_cms_at sl_ck67 v (by omega) (by omega)
          · skip
            by_cases h71 : v < 35600
            · skip
              by_cases h69 : v < 34600
              · skip
                exact sl_cms_at sl_ck68 v (by omega) (by omega)
              · skip
                by_cases h70 : v < 35100
                · skip
                  exact sl_cms_at sl_ck69 v (by omega) (by omega)
                · skip
                  exact sl_cms_at sl_ck70 v (by omega) (by omega)
            · skip
              by_cases h73 : v < 36600
              · skip
                by_cases h72 : v < 36100
                · skip
                  exact sl_cms_at sl_ck71 v (by omega) (by omega)
                · skip
                  exact sl_cms_at sl_ck72 v (by omega) (by omega)
              · skip
                by_cases h74 : v < 37100
                · skip
                  exact sl_cms_at sl_ck73 v (by omega) (by omega)
                · skip
                  exact sl_cms_at sl_ck74 v (by omega) (by omega)
      · skip
        by_cases h87 : v < 43600
        · skip
          by_cases h81 : v < 40600
          · skip
            by_cases h78 : v < 39100
            · skip
              by_cases h76 : v < 38100
              · skip
                exact sl_cms_at sl_ck75 v (by omega) (by omega)
              · skip
                by_cases h77 : v < 38600
                · skip
                  exact sl_cms_at sl_ck76 v (by omega) (by omega)
                · skip
                  exact sl_cms_at sl_ck77 v (by omega) (by omega)
            · skip
              by_cases h79 : v < 39600
              · skip
                exact sl_cms_at sl_ck78 v (by omega) (by omega)
              · skip
                by_cases h80 : v < 40100
                · skip
                  exact sl_cms_at sl_ck79 v (by omega) (by omega)
                · skip
                  exact sl_cms_at sl_ck80 v (by omega) (by omega)
          · skip
            by_cases h84 : v < 42100
            · skip
              by_cases h82 : v < 41100
              · skip
                exact sl_cms_at sl_ck81 v (by omega) (by omega)
              · skip
                by_cases h83 : v < 41600
                · skip
                  exact sl_cms_at sl_ck82 v (by omega) (by omega)
                · skip
                  exact sl_cms_at sl_ck83 v (by omega) (by omega)
            · skip
              by_cases h85 : v < 42600
              · skip
                exact sl_cms_at sl_ck84 v (by omega) (by omega)
              · skip
                by_cases h86 : v < 43100
                · skip
                  exact sl_cms_at sl_ck85 v (by omega) (by omega)
                · skip
                  exact sl_cms_at sl_ck86 v (by omega) (by omega)
        · skip
          by_cases h93 : v < 46600
          · skip
            by_cases h90 : v < 45100
            · skip
              by_cases h88 : v < 44100
              · skip
                exact sl_cms_at sl_ck87 v (by omega) (by omega)
              · skip
                by_cases h89 : v < 44600
                · skip
                  exact sl_cms_at sl_ck88 v (by omega) (by omega)
                · skip
                  exact sl_cms_at sl_ck89 v (by omega) (by omega)
            · skip
              by_cases h91 : v < 45600
              · skip
                exact sl_cms_at sl_ck90 v (by omega) (by omega)
              · skip
                by_cases h92 : v < 46100
                · skip
                  exact sl_cms_at sl_ck91 v (by omega) (by omega)
                · skip
                  exact sl_cms_at sl_ck92 v (by omega) (by omega)
          · skip
            by_cases h96 : v < 48100
            · skip
              by_cases h94 : v < 47100
              · skip
                exact sl_cms_at sl_ck93 v (by omega) (by omega)
              · skip
                by_cases h95 : v < 47600
                · skip
                  exact sl_cms_at sl_ck94 v (by omega) (by omega)
                · skip
                  exact sl_cms_at sl_ck95 v (by omega) (by omega)
            · skip
              by_cases h98 : v < 49100
              · skip
                by_cases h97 : v < 48600
                · skip
                  exact sl_cms_at sl_ck96 v (by omega) (by omega)
                · skip
                  exact sl_cms_at sl_ck97 v (by omega) (by omega)
              · skip
                by_cases h99 : v < 49600
                · skip
                  exact sl_cms_at sl_ck98 v (by omega) (by omega)
                · skip
                  exact sl_cms_at sl_ck99 v (by omega) (by omega)
  · skip
    by_cases h150 : v < 75100
    · skip
      by_cases h125 : v < 62600
      · skip
        by_cases h112 : v < 56100
        · skip
          by_cases h106 : v < 53100
          · skip
            by_cases h103 : v < 51600
            · skip
              by_cases h101 : v < 50600
              · skip
                exact sl_cms_at sl_ck100 v (by omega) (by omega)
              · skip
                by_cases h102 : v < 51100
                · skip
                  exact sl_cms_at sl_ck101 v (by omega) (by omega)
                · skip
                  exact sl_cms_at sl_ck102 v (by omega) (by omega)
            · skip
              by_cases h104 : v < 52100
              · skip
                exact sl_cms_at sl_ck103 v (by omega) (by omega)
              · skip
                by_cases h105 : v < 52600
                · skip
                  exact sl_cms_at sl_ck104 v (by omega) (by omega)
                · skip
                  exact sl_cms_at sl_ck105 v (by omega) (by omega)
          · skip
            by_cases h109 : v < 54600
            · skip
              by_cases h107 : v < 53600
              · skip
                exact sl_cms_at sl_ck106 v (by omega) (by omega)
              · skip
                by_cases h108 : v < 54100
                · skip
                  exact sl_cms_at sl_ck107 v (by omega) (by omega)
                · skip
                  exact sl_cms_at sl_ck108 v (by omega) (by omega)
            · skip
              by_cases h110 : v < 55100
              · skip
                exact sl_cms_at sl_ck109 v (by omega) (by omega)
              · skip
                by_cases h111 : v < 55600
                · skip
                  exact sl_cms_at sl_ck110 v (by omega) (by omega)
                · skip
                  exact sl_cms_at sl_ck111 v (by omega) (by omega)
        · skip
          by_cases h118 : v < 59100
          · skip
            by_cases h115 : v < 57600
            · skip
              by_cases h113 : v < 56600
              · skip
                exact sl_cms_at sl_ck112 v (by omega) (by omega)
              · skip
                by_cases h114 : v < 57100
                · skip
                  exact sl_cms_at sl_ck113 v (by omega) (by omega)
                · skip
                  exact sl_cms_at sl_ck114 v (by omega) (by omega)
            · skip
              by_cases h116 : v < 58100
              · skip
                exact sl_cms_at sl_ck115 v (by omega) (by omega)
              · skip
                by_cases h117 : v < 58600
                · skip
                  exact sl_cms_at sl_ck116 v (by omega) (by omega)
                · skip
                  exact sl_cms_at sl_ck117 v (by omega) (by omega)
          · skip
            by_cases h121 : v < 60600
            · skip
              by_cases h119 : v < 59600
              · skip
                exact sl_cms_at sl_ck118 v (by omega) (by omega)
              · skip
                by_cases h120 : v < 60100
                · skip
                  exact sl_cms_at sl_ck119 v (by omega) (by omega)
                · skip
                  exact sl_cms_at sl_ck120 v (by omega) (by omega)
            · skip
              by_cases h123 : v < 61600
              · skip
                by_cases h122 : v < 61100
                · skip
                  exact sl_cms_at sl_ck121 v (by omega) (by omega)
                · skip
                  exact sl_cms_at sl_ck122 v (by omega) (by omega)
              · skip
                by_cases h124 : v < 62100
                · skip
                  exact sl_cms_at sl_ck123 v (by omega) (by omega)
                · skip
                  exact sl_cms_at sl_ck124 v (by omega) (by omega)
      · skip
        by_cases h137 : v < 68600
        · skip
          by_cases h131 : v < 65600
          · skip
            by_cases h128 : v < 64100
            · skip
              by_cases h126 : v < 63100
              · skip
                exact sl_cms_at sl_ck125 v (by omega) (by omega)
              · skip
                by_cases h127 : v < 63600
                · skip
                  exact sl_cms_at sl_ck126 v (by omega) (by omega)
                · skip
                  exact sl_cms_at sl_ck127 v (by omega) (by omega)
            · skip
              by_cases h129 : v < 64600
              · skip
                exact sl_cms_at sl_ck128 v (by omega) (by omega)
              · skip
                by_cases h130 : v < 65100
                · skip
                  exact sl_cms_at sl_ck129 v (by omega) (by omega)
                · skip
                  exact sl_cms_at sl_ck130 v (by omega) (by omega)
          · skip
            by_cases h134 : v < 67100
            · skip
              by_cases h132 : v < 66100
              · skip
                exact sl_cms_at sl_ck131 v (by omega) (by omega)
              · skip
                by_cases h133 : v < 66600
                · skip
                  exact sl_cms_at sl_ck132 v (by omega) (by omega)
                · skip
                  exact sl_cms_at sl_ck133 v (by omega) (by omega)
            · skip
              by_cases h135 : v < 67600
              · skip
                exact sl_cms_at sl_ck134 v (by omega) (by omega)
              · skip
                by_cases h136 : v < 68100
                · skip
                  exact sl_cms_at sl_ck135 v (by omega) (by omega)
                · skip
                  exact sl_cms_at sl_ck136 v (by omega) (by omega)
        · skip
          by_cases h143 : v < 71600
          · skip
            by_cases h140 : v < 70100
            · skip
              by_cases h138 : v < 69100
              · skip
                exact sl_cms_at sl_ck137 v (by omega) (by omega)
              · skip
                by_cases h139 : v < 69600
                · skip
                  exact sl_cms_at sl_ck138 v (by omega) (by omega)
                · skip
                  exact sl_cms_at sl_ck139 v (by omega) (by omega)
            · skip
              by_cases h141 : v < 70600
              · skip
                exact sl_cms_at sl_ck140 v (by omega) (by omega)
              · skip
                by_cases h142 : v < 71100
                · skip
                  exact sl_cms_at sl_ck141 v (by omega) (by omega)
                · skip
                  exact sl_cms_at sl_ck142 v (by omega) (by omega)
          · skip
            by_cases h146 : v < 73100
            · skip
              by_cases h144 : v < 72100
              · skip
                exact sl_cms_at sl_ck143 v (by omega) (by omega)
              · skip
                by_cases h145 : v < 72600
                · skip
                  exact sl_cms_at sl_ck144 v (by omega) (by omega)
                · skip
                  exact sl_cms_at sl_ck145 v (by omega) (by omega)
            · skip
              by_cases h148 : v < 74100
              · skip
                by_cases h147 : v < 73600
                · skip
                  exact sl_cms_at sl_ck146 v (by omega) (by omega)
                · skip
                  exact sl_cms_at sl_ck147 v (by omega) (by omega)
              · skip
                by_cases h149 : v < 74600
                · skip
                  exact sl_cms_at sl_ck148 v (by omega) (by omega)
                · skip
                  exact sl_cms_at sl_ck149 v (by omega) (by omega)
    · skip
      by_cases h175 : v < 87600
      · skip
        by_cases h162 : v < 81100
        · skip
          by_cases h156 : v < 78100
          · skip
            by_cases h153 : v < 76600
            · skip
              by_cases h151 : v < 75600
              · skip
                exact sl_cms_at sl_ck150 v (by omega) (by omega)
              · skip
                by_cases h152 : v < 76100
                · skip
                  exact sl_cms_at sl_ck151 v (by omega) (by omega)
                · skip
                  exact sl_cms_at sl_ck152 v (by omega) (by omega)
            · skip
              by_cases h154 : v < 77100
              · skip
                exact sl_cms_at sl_ck153 v (by omega) (by omega)
              · skip
                by_cases h155 : v < 77600
                · skip
                  exact sl_cms_at sl_ck154 v (by omega) (by omega)
                · skip
                  exact sl_cms_at sl_ck155 v (by omega) (by omega)
          · skip
            by_cases h159 : v < 79600
            · skip
              by_cases h157 : v < 78600
              · skip
                exact sl_cms_at sl_ck156 v (by omega) (by omega)
              · skip
                by_cases h158 : v < 79100
                · skip
                  exact sl_cms_at sl_ck157 v (by omega) (by omega)
                · skip
                  exact sl_cms_at sl_ck158 v (by omega) (by omega)
            · skip
              by_cases h160 : v < 80100
              · skip
                exact sl_cms_at sl_ck159 v (by omega) (by omega)
              · skip
                by_cases h161 : v < 80600
                · skip
                  exact sl_cms_at sl_ck160 v (by omega) (by omega)
                · skip
                  exact sl_cms_at sl_ck161 v (by omega) (by omega)
        · skip
          by_cases h168 : v < 84100
          · skip
            by_cases h165 : v < 82600
            · skip
              by_cases h163 : v < 81600
              · skip
                exact sl_cms_at sl_ck162 v (by omega) (by omega)
              · skip
                by_cases h164 : v < 82100
                · skip
                  exact sl_cms_at sl_ck163 v (by omega) (by omega)
                · skip
                  exact sl_cms_at sl_ck164 v (by omega) (by omega)
            · skip
              by_cases h166 : v < 83100
              · skip
                exact sl_cms_at sl_ck165 v (by omega) (by omega)
              · skip
                by_cases h167 : v < 83600
                · skip
                  exact sl_cms_at sl_ck166 v (by omega) (by omega)
                · skip
                  exact sl_cms_at sl_ck167 v (by omega) (by omega)
          · skip
            by_cases h171 : v < 85600
            · skip
              by_cases h169 : v < 84600
              · skip
                exact sl_cms_at sl_ck168 v (by omega) (by omega)
              · skip
                by_cases h170 : v < 85100
                · skip
                  exact sl_cms_at sl_ck169 v (by omega) (by omega)
                · skip
                  exact sl_cms_at sl_ck170 v (by omega) (by omega)
            · skip
              by_cases h173 : v < 86600
              · skip
                by_cases h172 : v < 86100
                · skip
                  exact sl_cms_at sl_ck171 v (by omega) (by omega)
                · skip
                  exact sl_cms_at sl_ck172 v (by omega) (by omega)
              · skip
                by_cases h174 : v < 87100
                · skip
                  exact sl_cms_at sl_ck173 v (by omega) (by omega)
                · skip
                  exact sl_cms_at sl_ck174 v (by omega) (by omega)
      · skip
        by_cases h187 : v < 93600
        · skip
          by_cases h181 : v < 90600
          · skip
            by_cases h178 : v < 89100
            · skip
              by_cases h176 : v < 88100
              · skip
                exact sl_cms_at sl_ck175 v (by omega) (by omega)
              · skip
                by_cases h177 : v < 88600
                · skip
                  exact sl_cms_at sl_ck176 v (by omega) (by omega)
                · skip
                  exact sl_cms_at sl_ck177 v (by omega) (by omega)
            · skip
              by_cases h179 : v < 89600
              · skip
                exact sl_cms_at sl_ck178 v (by omega) (by omega)
              · skip
                by_cases h180 : v < 90100
                · skip
                  exact sl_cms_at sl_ck179 v (by omega) (by omega)
                · skip
                  exact sl_cms_at sl_ck180 v (by omega) (by omega)
          · skip
            by_cases h184 : v < 92100
            · skip
              by_cases h182 : v < 91100
              · skip
                exact sl_cms_at sl_ck181 v (by omega) (by omega)
              · skip
                by_cases h183 : v < 91600
                · skip
                  exact sl_cms_at sl_ck182 v (by omega) (by omega)
                · skip
                  exact sl_cms_at sl_ck183 v (by omega) (by omega)
            · skip
              by_cases h185 : v < 92600
              · skip
                exact sl_cms_at sl_ck184 v (by omega) (by omega)
              · skip
                by_cases h186 : v < 93100
                · skip
                  exact sl_cms_at sl_ck185 v (by omega) (by omega)
                · skip
                  exact sl_cms_at sl_ck186 v (by omega) (by omega)
        · skip
          by_cases h193 : v < 96600
          · skip
            by_cases h190 : v < 95100
            · skip
              by_cases h188 : v < 94100
              · skip
                exact sl_cms_at sl_ck187 v (by omega) (by omega)
              · skip
                by_cases h189 : v < 94600
                · skip
                  exact sl_cms_at sl_ck188 v (by omega) (by omega)
                · skip
                  exact sl_cms_at sl_ck189 v (by omega) (by omega)
            · skip
              by_cases h191 : v < 95600
              · skip
                exact sl_cms_at sl_ck190 v (by omega) (by omega)
              · skip
                by_cases h192 : v < 96100
                · skip
                  exact sl_cms_at sl_ck191 v (by omega) (by omega)
                · skip
                  exact sl_cms_at sl_ck192 v (by omega) (by omega)
          · skip
            by_cases h196 : v < 98100
            · skip
              by_cases h194 : v < 97100
              · skip
                exact sl_cms_at sl_ck193 v (by omega) (by omega)
              · skip
                by_cases h195 : v < 97600
                · skip
                  exact sl_cms_at sl_ck194 v (by omega) (by omega)
                · skip
                  exact sl_cms_at sl_ck195 v (by omega) (by omega)
            · skip
              by_cases h198 : v < 99100
              · skip
                by_cases h197 : v < 98600
                · skip
                  exact sl_cms_at sl_ck196 v (by omega) (by omega)
                · skip
                  exact sl_cms_at sl_ck197 v (by omega) (by omega)
              · skip
                by_cases h199 : v < 99600
                · skip
                  exact sl_cms_at sl_ck198 v (by omega) (by omega)
                · skip
                  exact sl_cms_at sl_ck199 v (by omega) (by omega)
