/-- the cells: the script (of L ints), the ranks, the class, the reference, the law's own row -/
def LAY (L : Nat) : List zKd := [.inl (0, L), .inl (0, 14), .inr 10, .inl (0, 700), .inr 8, .inl (0, 6), .inl (0, 6), .inl (0, 6), .inl (0, 10), .inl (0, 10), .inl (0, 10), .inl (0, 12), .inl (0, 12), .inl (0, 12), .inl (0, 4), .inl (1, 4), .inl (3, 3), .inr 1, .inl (0, 64), .inr 1, .inl (0, 64), .inr 1, .inl (0, 64), .inr 8, .inl (0, 6), .inl (0, 6), .inl (0, 6), .inl (0, 10), .inl (0, 10), .inl (0, 10), .inl (0, 12), .inl (0, 12), .inl (0, 12), .inl (0, 4), .inl (1, 4), .inl (3, 3), .inr 1, .inl (0, 64), .inr 1, .inl (0, 64), .inr 1, .inl (0, 64), .inr 4, .inr 7, .inl (0, 21), .inl (0, 701), .inl (0, 701), .inl (0, 701), .inl (0, 0), .inl (0, 72), .inr 0, .inr 6, .inl (2, 7), .inl (2, 64), .inr 3, .inl (1, 100), .inl (1, 100), .inl (1, 1600), .inl (0, 4), .inl (0, 4), .inl (0, 4), .inr 5, .inl (0, 6), .inl (0, 6), .inl (0, 6), .inl (0, 6), .inl (0, 36), .inr 5, .inl (0, 6), .inl (0, 6), .inl (0, 6), .inl (0, 6), .inl (0, 36), .inr 5, .inl (0, 6), .inl (0, 6), .inl (0, 6), .inl (0, 6), .inl (0, 36), .inr 9, .inl (4, 20), .inr 5, .inl (0, 6), .inl (0, 6), .inl (0, 6), .inl (0, 6), .inl (0, 36), .inr 5, .inl (0, 6), .inl (0, 6), .inl (0, 6), .inl (0, 6), .inl (0, 36), .inr 5, .inl (0, 6), .inl (0, 6), .inl (0, 6), .inl (0, 6), .inl (0, 36), .inr 5, .inl (0, 6), .inl (0, 6), .inl (0, 6), .inl (0, 6), .inl (0, 36), .inr 5, .inl (0, 6), .inl (0, 6), .inl (0, 6), .inl (0, 6), .inl (0, 36), .inr 5, .inl (0, 6), .inl (0, 6), .inl (0, 6), .inl (0, 6), .inl (0, 36), .inr 5, .inl (0, 6), .inl (0, 6), .inl (0, 6), .inl (0, 6), .inl (0, 36), .inr 5, .inl (0, 6), .inl (0, 6), .inl (0, 6), .inl (0, 6), .inl (0, 36), .inr 5, .inl (0, 6), .inl (0, 6), .inl (0, 6), .inl (0, 6), .inl (0, 36), .inr 5, .inl (0, 6), .inl (0, 6), .inl (0, 6), .inl (0, 6), .inl (0, 36), .inr 5, .inl (0, 6), .inl (0, 6), .inl (0, 6), .inl (0, 6), .inl (0, 36), .inr 5, .inl (0, 6), .inl (0, 6), .inl (0, 6), .inl (0, 6), .inl (0, 36), .inr 5, .inl (0, 6), .inl (0, 6), .inl (0, 6), .inl (0, 6), .inl (0, 36), .inr 5, .inl (0, 6), .inl (0, 6), .inl (0, 6), .inl (0, 6), .inl (0, 36), .inr 5, .inl (0, 6), .inl (0, 6), .inl (0, 6), .inl (0, 6), .inl (0, 36), .inr 5, .inl (0, 6), .inl (0, 6), .inl (0, 6), .inl (0, 6), .inl (0, 36), .inr 5, .inl (0, 6), .inl (0, 6), .inl (0, 6), .inl (0, 6), .inl (0, 36), .inr 5, .inl (0, 6), .inl (0, 6), .inl (0, 6), .inl (0, 6), .inl (0, 36), .inr 5, .inl (0, 6), .inl (0, 6), .inl (0, 6), .inl (0, 6), .inl (0, 36), .inr 5, .inl (0, 6), .inl (0, 6), .inl (0, 6), .inl (0, 6), .inl (0, 36), .inr 2, .inl (0, 24), .inl (0, 24), .inl (0, 24), .inl (0, 24), .inl (1, 24), .inl (1, 24), .inl (0, 6), .inr 11, .inl (0, 700), .inl (0, 107), .inl (1, 4), .inl (0, 8), .inl (0, 12), .inl (0, 12), .inl (0, 12), .inl (0, 20), .inl (0, 20), .inl (0, 20), .inl (0, 24), .inl (0, 24), .inl (0, 24), .inl (1, 6), .inl (0, 6), .inl (0, 6), .inl (0, 128), .inl (0, 128), .inl (0, 128), .inl (0, 96), .inl (0, 96), .inl (2, 7), .inl (2, 64), .inl (0, 12), .inl (0, 12), .inl (0, 12), .inl (0, 72), .inl (1, 72), .inl (0, 2), .inl (0, 96), .inl (1, 24), .inl (0, 1800), .inl (0, 90), .inl (2, 1)]
theorem L0 (L : Nat) : (LAY L)[0]? = some (.inl (0, L)) := rfl
theorem L1 (L : Nat) : (LAY L)[1]? = some (.inl (0, 14)) := rfl
theorem L2 (L : Nat) : (LAY L)[2]? = some (.inr 10) := rfl
theorem L3 (L : Nat) : (LAY L)[3]? = some (.inl (0, 700)) := rfl
theorem L4 (L : Nat) : (LAY L)[4]? = some (.inr 8) := rfl
theorem L5 (L : Nat) : (LAY L)[5]? = some (.inl (0, 6)) := rfl
theorem L6 (L : Nat) : (LAY L)[6]? = some (.inl (0, 6)) := rfl
theorem L7 (L : Nat) : (LAY L)[7]? = some (.inl (0, 6)) := rfl
theorem L8 (L : Nat) : (LAY L)[8]? = some (.inl (0, 10)) := rfl
theorem L9 (L : Nat) : (LAY L)[9]? = some (.inl (0, 10)) := rfl
theorem L10 (L : Nat) : (LAY L)[10]? = some (.inl (0, 10)) := rfl
theorem L11 (L : Nat) : (LAY L)[11]? = some (.inl (0, 12)) := rfl
theorem L12 (L : Nat) : (LAY L)[12]? = some (.inl (0, 12)) := rfl
theorem L13 (L : Nat) : (LAY L)[13]? = some (.inl (0, 12)) := rfl
theorem L14 (L : Nat) : (LAY L)[14]? = some (.inl (0, 4)) := rfl
theorem L15 (L : Nat) : (LAY L)[15]? = some (.inl (1, 4)) := rfl
theorem L16 (L : Nat) : (LAY L)[16]? = some (.inl (3, 3)) := rfl
theorem L17 (L : Nat) : (LAY L)[17]? = some (.inr 1) := rfl
theorem L18 (L : Nat) : (LAY L)[18]? = some (.inl (0, 64)) := rfl
theorem L19 (L : Nat) : (LAY L)[19]? = some (.inr 1) := rfl
theorem L20 (L : Nat) : (LAY L)[20]? = some (.inl (0, 64)) := rfl
theorem L21 (L : Nat) : (LAY L)[21]? = some (.inr 1) := rfl
theorem L22 (L : Nat) : (LAY L)[22]? = some (.inl (0, 64)) := rfl
theorem L23 (L : Nat) : (LAY L)[23]? = some (.inr 8) := rfl
theorem L24 (L : Nat) : (LAY L)[24]? = some (.inl (0, 6)) := rfl
theorem L25 (L : Nat) : (LAY L)[25]? = some (.inl (0, 6)) := rfl
theorem L26 (L : Nat) : (LAY L)[26]? = some (.inl (0, 6)) := rfl
theorem L27 (L : Nat) : (LAY L)[27]? = some (.inl (0, 10)) := rfl
theorem L28 (L : Nat) : (LAY L)[28]? = some (.inl (0, 10)) := rfl
theorem L29 (L : Nat) : (LAY L)[29]? = some (.inl (0, 10)) := rfl
theorem L30 (L : Nat) : (LAY L)[30]? = some (.inl (0, 12)) := rfl
theorem L31 (L : Nat) : (LAY L)[31]? = some (.inl (0, 12)) := rfl
theorem L32 (L : Nat) : (LAY L)[32]? = some (.inl (0, 12)) := rfl
theorem L33 (L : Nat) : (LAY L)[33]? = some (.inl (0, 4)) := rfl
theorem L34 (L : Nat) : (LAY L)[34]? = some (.inl (1, 4)) := rfl
theorem L35 (L : Nat) : (LAY L)[35]? = some (.inl (3, 3)) := rfl
theorem L36 (L : Nat) : (LAY L)[36]? = some (.inr 1) := rfl
theorem L37 (L : Nat) : (LAY L)[37]? = some (.inl (0, 64)) := rfl
theorem L38 (L : Nat) : (LAY L)[38]? = some (.inr 1) := rfl
theorem L39 (L : Nat) : (LAY L)[39]? = some (.inl (0, 64)) := rfl
theorem L40 (L : Nat) : (LAY L)[40]? = some (.inr 1) := rfl
theorem L41 (L : Nat) : (LAY L)[41]? = some (.inl (0, 64)) := rfl
theorem L42 (L : Nat) : (LAY L)[42]? = some (.inr 4) := rfl
theorem L43 (L : Nat) : (LAY L)[43]? = some (.inr 7) := rfl
theorem L44 (L : Nat) : (LAY L)[44]? = some (.inl (0, 21)) := rfl
theorem L45 (L : Nat) : (LAY L)[45]? = some (.inl (0, 701)) := rfl
theorem L46 (L : Nat) : (LAY L)[46]? = some (.inl (0, 701)) := rfl
theorem L47 (L : Nat) : (LAY L)[47]? = some (.inl (0, 701)) := rfl
theorem L48 (L : Nat) : (LAY L)[48]? = some (.inl (0, 0)) := rfl
theorem L49 (L : Nat) : (LAY L)[49]? = some (.inl (0, 72)) := rfl
theorem L50 (L : Nat) : (LAY L)[50]? = some (.inr 0) := rfl
theorem L51 (L : Nat) : (LAY L)[51]? = some (.inr 6) := rfl
theorem L52 (L : Nat) : (LAY L)[52]? = some (.inl (2, 7)) := rfl
theorem L53 (L : Nat) : (LAY L)[53]? = some (.inl (2, 64)) := rfl
theorem L54 (L : Nat) : (LAY L)[54]? = some (.inr 3) := rfl
theorem L55 (L : Nat) : (LAY L)[55]? = some (.inl (1, 100)) := rfl
theorem L56 (L : Nat) : (LAY L)[56]? = some (.inl (1, 100)) := rfl
theorem L57 (L : Nat) : (LAY L)[57]? = some (.inl (1, 1600)) := rfl
theorem L58 (L : Nat) : (LAY L)[58]? = some (.inl (0, 4)) := rfl
theorem L59 (L : Nat) : (LAY L)[59]? = some (.inl (0, 4)) := rfl
theorem L60 (L : Nat) : (LAY L)[60]? = some (.inl (0, 4)) := rfl
theorem L61 (L : Nat) : (LAY L)[61]? = some (.inr 5) := rfl
theorem L62 (L : Nat) : (LAY L)[62]? = some (.inl (0, 6)) := rfl
theorem L63 (L : Nat) : (LAY L)[63]? = some (.inl (0, 6)) := rfl
theorem L64 (L : Nat) : (LAY L)[64]? = some (.inl (0, 6)) := rfl
theorem L65 (L : Nat) : (LAY L)[65]? = some (.inl (0, 6)) := rfl
theorem L66 (L : Nat) : (LAY L)[66]? = some (.inl (0, 36)) := rfl
theorem L67 (L : Nat) : (LAY L)[67]? = some (.inr 5) := rfl
theorem L68 (L : Nat) : (LAY L)[68]? = some (.inl (0, 6)) := rfl
theorem L69 (L : Nat) : (LAY L)[69]? = some (.inl (0, 6)) := rfl
theorem L70 (L : Nat) : (LAY L)[70]? = some (.inl (0, 6)) := rfl
theorem L71 (L : Nat) : (LAY L)[71]? = some (.inl (0, 6)) := rfl
theorem L72 (L : Nat) : (LAY L)[72]? = some (.inl (0, 36)) := rfl
theorem L73 (L : Nat) : (LAY L)[73]? = some (.inr 5) := rfl
theorem L74 (L : Nat) : (LAY L)[74]? = some (.inl (0, 6)) := rfl
theorem L75 (L : Nat) : (LAY L)[75]? = some (.inl (0, 6)) := rfl
theorem L76 (L : Nat) : (LAY L)[76]? = some (.inl (0, 6)) := rfl
theorem L77 (L : Nat) : (LAY L)[77]? = some (.inl (0, 6)) := rfl
theorem L78 (L : Nat) : (LAY L)[78]? = some (.inl (0, 36)) := rfl
theorem L79 (L : Nat) : (LAY L)[79]? = some (.inr 9) := rfl
theorem L80 (L : Nat) : (LAY L)[80]? = some (.inl (4, 20)) := rfl
theorem L81 (L : Nat) : (LAY L)[81]? = some (.inr 5) := rfl
theorem L82 (L : Nat) : (LAY L)[82]? = some (.inl (0, 6)) := rfl
theorem L83 (L : Nat) : (LAY L)[83]? = some (.inl (0, 6)) := rfl
theorem L84 (L : Nat) : (LAY L)[84]? = some (.inl (0, 6)) := rfl
theorem L85 (L : Nat) : (LAY L)[85]? = some (.inl (0, 6)) := rfl
theorem L86 (L : Nat) : (LAY L)[86]? = some (.inl (0, 36)) := rfl
theorem L87 (L : Nat) : (LAY L)[87]? = some (.inr 5) := rfl
theorem L88 (L : Nat) : (LAY L)[88]? = some (.inl (0, 6)) := rfl
theorem L89 (L : Nat) : (LAY L)[89]? = some (.inl (0, 6)) := rfl
theorem L90 (L : Nat) : (LAY L)[90]? = some (.inl (0, 6)) := rfl
theorem L91 (L : Nat) : (LAY L)[91]? = some (.inl (0, 6)) := rfl
theorem L92 (L : Nat) : (LAY L)[92]? = some (.inl (0, 36)) := rfl
theorem L93 (L : Nat) : (LAY L)[93]? = some (.inr 5) := rfl
theorem L94 (L : Nat) : (LAY L)[94]? = some (.inl (0, 6)) := rfl
theorem L95 (L : Nat) : (LAY L)[95]? = some (.inl (0, 6)) := rfl
theorem L96 (L : Nat) : (LAY L)[96]? = some (.inl (0, 6)) := rfl
theorem L97 (L : Nat) : (LAY L)[97]? = some (.inl (0, 6)) := rfl
theorem L98 (L : Nat) : (LAY L)[98]? = some (.inl (0, 36)) := rfl
theorem L99 (L : Nat) : (LAY L)[99]? = some (.inr 5) := rfl
theorem L100 (L : Nat) : (LAY L)[100]? = some (.inl (0, 6)) := rfl
theorem L101 (L : Nat) : (LAY L)[101]? = some (.inl (0, 6)) := rfl
theorem L102 (L : Nat) : (LAY L)[102]? = some (.inl (0, 6)) := rfl
theorem L103 (L : Nat) : (LAY L)[103]? = some (.inl (0, 6)) := rfl
theorem L104 (L : Nat) : (LAY L)[104]? = some (.inl (0, 36)) := rfl
theorem L105 (L : Nat) : (LAY L)[105]? = some (.inr 5) := rfl
theorem L106 (L : Nat) : (LAY L)[106]? = some (.inl (0, 6)) := rfl
theorem L107 (L : Nat) : (LAY L)[107]? = some (.inl (0, 6)) := rfl
theorem L108 (L : Nat) : (LAY L)[108]? = some (.inl (0, 6)) := rfl
theorem L109 (L : Nat) : (LAY L)[109]? = some (.inl (0, 6)) := rfl
theorem L110 (L : Nat) : (LAY L)[110]? = some (.inl (0, 36)) := rfl
theorem L111 (L : Nat) : (LAY L)[111]? = some (.inr 5) := rfl
theorem L112 (L : Nat) : (LAY L)[112]? = some (.inl (0, 6)) := rfl
theorem L113 (L : Nat) : (LAY L)[113]? = some (.inl (0, 6)) := rfl
theorem L114 (L : Nat) : (LAY L)[114]? = some (.inl (0, 6)) := rfl
theorem L115 (L : Nat) : (LAY L)[115]? = some (.inl (0, 6)) := rfl
theorem L116 (L : Nat) : (LAY L)[116]? = some (.inl (0, 36)) := rfl
theorem L117 (L : Nat) : (LAY L)[117]? = some (.inr 5) := rfl
theorem L118 (L : Nat) : (LAY L)[118]? = some (.inl (0, 6)) := rfl
theorem L119 (L : Nat) : (LAY L)[119]? = some (.inl (0, 6)) := rfl
theorem L120 (L : Nat) : (LAY L)[120]? = some (.inl (0, 6)) := rfl
theorem L121 (L : Nat) : (LAY L)[121]? = some (.inl (0, 6)) := rfl
theorem L122 (L : Nat) : (LAY L)[122]? = some (.inl (0, 36)) := rfl
theorem L123 (L : Nat) : (LAY L)[123]? = some (.inr 5) := rfl
theorem L124 (L : Nat) : (LAY L)[124]? = some (.inl (0, 6)) := rfl
theorem L125 (L : Nat) : (LAY L)[125]? = some (.inl (0, 6)) := rfl
theorem L126 (L : Nat) : (LAY L)[126]? = some (.inl (0, 6)) := rfl
theorem L127 (L : Nat) : (LAY L)[127]? = some (.inl (0, 6)) := rfl
theorem L128 (L : Nat) : (LAY L)[128]? = some (.inl (0, 36)) := rfl
theorem L129 (L : Nat) : (LAY L)[129]? = some (.inr 5) := rfl
theorem L130 (L : Nat) : (LAY L)[130]? = some (.inl (0, 6)) := rfl
theorem L131 (L : Nat) : (LAY L)[131]? = some (.inl (0, 6)) := rfl
theorem L132 (L : Nat) : (LAY L)[132]? = some (.inl (0, 6)) := rfl
theorem L133 (L : Nat) : (LAY L)[133]? = some (.inl (0, 6)) := rfl
theorem L134 (L : Nat) : (LAY L)[134]? = some (.inl (0, 36)) := rfl
theorem L135 (L : Nat) : (LAY L)[135]? = some (.inr 5) := rfl
theorem L136 (L : Nat) : (LAY L)[136]? = some (.inl (0, 6)) := rfl
theorem L137 (L : Nat) : (LAY L)[137]? = some (.inl (0, 6)) := rfl
theorem L138 (L : Nat) : (LAY L)[138]? = some (.inl (0, 6)) := rfl
theorem L139 (L : Nat) : (LAY L)[139]? = some (.inl (0, 6)) := rfl
theorem L140 (L : Nat) : (LAY L)[140]? = some (.inl (0, 36)) := rfl
theorem L141 (L : Nat) : (LAY L)[141]? = some (.inr 5) := rfl
theorem L142 (L : Nat) : (LAY L)[142]? = some (.inl (0, 6)) := rfl
theorem L143 (L : Nat) : (LAY L)[143]? = some (.inl (0, 6)) := rfl
theorem L144 (L : Nat) : (LAY L)[144]? = some (.inl (0, 6)) := rfl
theorem L145 (L : Nat) : (LAY L)[145]? = some (.inl (0, 6)) := rfl
theorem L146 (L : Nat) : (LAY L)[146]? = some (.inl (0, 36)) := rfl
theorem L147 (L : Nat) : (LAY L)[147]? = some (.inr 5) := rfl
theorem L148 (L : Nat) : (LAY L)[148]? = some (.inl (0, 6)) := rfl
theorem L149 (L : Nat) : (LAY L)[149]? = some (.inl (0, 6)) := rfl
theorem L150 (L : Nat) : (LAY L)[150]? = some (.inl (0, 6)) := rfl
theorem L151 (L : Nat) : (LAY L)[151]? = some (.inl (0, 6)) := rfl
theorem L152 (L : Nat) : (LAY L)[152]? = some (.inl (0, 36)) := rfl
theorem L153 (L : Nat) : (LAY L)[153]? = some (.inr 5) := rfl
theorem L154 (L : Nat) : (LAY L)[154]? = some (.inl (0, 6)) := rfl
theorem L155 (L : Nat) : (LAY L)[155]? = some (.inl (0, 6)) := rfl
theorem L156 (L : Nat) : (LAY L)[156]? = some (.inl (0, 6)) := rfl
theorem L157 (L : Nat) : (LAY L)[157]? = some (.inl (0, 6)) := rfl
theorem L158 (L : Nat) : (LAY L)[158]? = some (.inl (0, 36)) := rfl
theorem L159 (L : Nat) : (LAY L)[159]? = some (.inr 5) := rfl
theorem L160 (L : Nat) : (LAY L)[160]? = some (.inl (0, 6)) := rfl
theorem L161 (L : Nat) : (LAY L)[161]? = some (.inl (0, 6)) := rfl
theorem L162 (L : Nat) : (LAY L)[162]? = some (.inl (0, 6)) := rfl
theorem L163 (L : Nat) : (LAY L)[163]? = some (.inl (0, 6)) := rfl
theorem L164 (L : Nat) : (LAY L)[164]? = some (.inl (0, 36)) := rfl
theorem L165 (L : Nat) : (LAY L)[165]? = some (.inr 5) := rfl
theorem L166 (L : Nat) : (LAY L)[166]? = some (.inl (0, 6)) := rfl
theorem L167 (L : Nat) : (LAY L)[167]? = some (.inl (0, 6)) := rfl
theorem L168 (L : Nat) : (LAY L)[168]? = some (.inl (0, 6)) := rfl
theorem L169 (L : Nat) : (LAY L)[169]? = some (.inl (0, 6)) := rfl
theorem L170 (L : Nat) : (LAY L)[170]? = some (.inl (0, 36)) := rfl
theorem L171 (L : Nat) : (LAY L)[171]? = some (.inr 5) := rfl
theorem L172 (L : Nat) : (LAY L)[172]? = some (.inl (0, 6)) := rfl
theorem L173 (L : Nat) : (LAY L)[173]? = some (.inl (0, 6)) := rfl
theorem L174 (L : Nat) : (LAY L)[174]? = some (.inl (0, 6)) := rfl
theorem L175 (L : Nat) : (LAY L)[175]? = some (.inl (0, 6)) := rfl
theorem L176 (L : Nat) : (LAY L)[176]? = some (.inl (0, 36)) := rfl
theorem L177 (L : Nat) : (LAY L)[177]? = some (.inr 5) := rfl
theorem L178 (L : Nat) : (LAY L)[178]? = some (.inl (0, 6)) := rfl
theorem L179 (L : Nat) : (LAY L)[179]? = some (.inl (0, 6)) := rfl
theorem L180 (L : Nat) : (LAY L)[180]? = some (.inl (0, 6)) := rfl
theorem L181 (L : Nat) : (LAY L)[181]? = some (.inl (0, 6)) := rfl
theorem L182 (L : Nat) : (LAY L)[182]? = some (.inl (0, 36)) := rfl
theorem L183 (L : Nat) : (LAY L)[183]? = some (.inr 5) := rfl
theorem L184 (L : Nat) : (LAY L)[184]? = some (.inl (0, 6)) := rfl
theorem L185 (L : Nat) : (LAY L)[185]? = some (.inl (0, 6)) := rfl
theorem L186 (L : Nat) : (LAY L)[186]? = some (.inl (0, 6)) := rfl
theorem L187 (L : Nat) : (LAY L)[187]? = some (.inl (0, 6)) := rfl
theorem L188 (L : Nat) : (LAY L)[188]? = some (.inl (0, 36)) := rfl
theorem L189 (L : Nat) : (LAY L)[189]? = some (.inr 5) := rfl
theorem L190 (L : Nat) : (LAY L)[190]? = some (.inl (0, 6)) := rfl
theorem L191 (L : Nat) : (LAY L)[191]? = some (.inl (0, 6)) := rfl
theorem L192 (L : Nat) : (LAY L)[192]? = some (.inl (0, 6)) := rfl
theorem L193 (L : Nat) : (LAY L)[193]? = some (.inl (0, 6)) := rfl
theorem L194 (L : Nat) : (LAY L)[194]? = some (.inl (0, 36)) := rfl
theorem L195 (L : Nat) : (LAY L)[195]? = some (.inr 5) := rfl
theorem L196 (L : Nat) : (LAY L)[196]? = some (.inl (0, 6)) := rfl
theorem L197 (L : Nat) : (LAY L)[197]? = some (.inl (0, 6)) := rfl
theorem L198 (L : Nat) : (LAY L)[198]? = some (.inl (0, 6)) := rfl
theorem L199 (L : Nat) : (LAY L)[199]? = some (.inl (0, 6)) := rfl
theorem L200 (L : Nat) : (LAY L)[200]? = some (.inl (0, 36)) := rfl
theorem L201 (L : Nat) : (LAY L)[201]? = some (.inr 2) := rfl
theorem L202 (L : Nat) : (LAY L)[202]? = some (.inl (0, 24)) := rfl
theorem L203 (L : Nat) : (LAY L)[203]? = some (.inl (0, 24)) := rfl
theorem L204 (L : Nat) : (LAY L)[204]? = some (.inl (0, 24)) := rfl
theorem L205 (L : Nat) : (LAY L)[205]? = some (.inl (0, 24)) := rfl
theorem L206 (L : Nat) : (LAY L)[206]? = some (.inl (1, 24)) := rfl
theorem L207 (L : Nat) : (LAY L)[207]? = some (.inl (1, 24)) := rfl
theorem L208 (L : Nat) : (LAY L)[208]? = some (.inl (0, 6)) := rfl
theorem L209 (L : Nat) : (LAY L)[209]? = some (.inr 11) := rfl
theorem L210 (L : Nat) : (LAY L)[210]? = some (.inl (0, 700)) := rfl
theorem L211 (L : Nat) : (LAY L)[211]? = some (.inl (0, 107)) := rfl
theorem L212 (L : Nat) : (LAY L)[212]? = some (.inl (1, 4)) := rfl
theorem L213 (L : Nat) : (LAY L)[213]? = some (.inl (0, 8)) := rfl
theorem L214 (L : Nat) : (LAY L)[214]? = some (.inl (0, 12)) := rfl
theorem L215 (L : Nat) : (LAY L)[215]? = some (.inl (0, 12)) := rfl
theorem L216 (L : Nat) : (LAY L)[216]? = some (.inl (0, 12)) := rfl
theorem L217 (L : Nat) : (LAY L)[217]? = some (.inl (0, 20)) := rfl
theorem L218 (L : Nat) : (LAY L)[218]? = some (.inl (0, 20)) := rfl
theorem L219 (L : Nat) : (LAY L)[219]? = some (.inl (0, 20)) := rfl
theorem L220 (L : Nat) : (LAY L)[220]? = some (.inl (0, 24)) := rfl
theorem L221 (L : Nat) : (LAY L)[221]? = some (.inl (0, 24)) := rfl
theorem L222 (L : Nat) : (LAY L)[222]? = some (.inl (0, 24)) := rfl
theorem L223 (L : Nat) : (LAY L)[223]? = some (.inl (1, 6)) := rfl
theorem L224 (L : Nat) : (LAY L)[224]? = some (.inl (0, 6)) := rfl
theorem L225 (L : Nat) : (LAY L)[225]? = some (.inl (0, 6)) := rfl
theorem L226 (L : Nat) : (LAY L)[226]? = some (.inl (0, 128)) := rfl
theorem L227 (L : Nat) : (LAY L)[227]? = some (.inl (0, 128)) := rfl
theorem L228 (L : Nat) : (LAY L)[228]? = some (.inl (0, 128)) := rfl
theorem L229 (L : Nat) : (LAY L)[229]? = some (.inl (0, 96)) := rfl
theorem L230 (L : Nat) : (LAY L)[230]? = some (.inl (0, 96)) := rfl
theorem L231 (L : Nat) : (LAY L)[231]? = some (.inl (2, 7)) := rfl
theorem L232 (L : Nat) : (LAY L)[232]? = some (.inl (2, 64)) := rfl
theorem L233 (L : Nat) : (LAY L)[233]? = some (.inl (0, 12)) := rfl
theorem L234 (L : Nat) : (LAY L)[234]? = some (.inl (0, 12)) := rfl
theorem L235 (L : Nat) : (LAY L)[235]? = some (.inl (0, 12)) := rfl
theorem L236 (L : Nat) : (LAY L)[236]? = some (.inl (0, 72)) := rfl
theorem L237 (L : Nat) : (LAY L)[237]? = some (.inl (1, 72)) := rfl
theorem L238 (L : Nat) : (LAY L)[238]? = some (.inl (0, 2)) := rfl
theorem L239 (L : Nat) : (LAY L)[239]? = some (.inl (0, 96)) := rfl
theorem L240 (L : Nat) : (LAY L)[240]? = some (.inl (1, 24)) := rfl
theorem L241 (L : Nat) : (LAY L)[241]? = some (.inl (0, 1800)) := rfl
theorem L242 (L : Nat) : (LAY L)[242]? = some (.inl (0, 90)) := rfl
theorem L243 (L : Nat) : (LAY L)[243]? = some (.inl (2, 1)) := rfl
/-- the pointers that never change -/
def PFX : List (Nat × Int × Nat) := [(2, 0, 3), (4, 3, 5), (4, 4, 6), (4, 5, 7), (4, 7, 8), (4, 8, 9), (4, 9, 10), (4, 11, 11), (4, 12, 12), (4, 13, 13), (4, 14, 14), (4, 15, 15), (4, 16, 16), (17, 0, 18), (16, 0, 17), (19, 0, 20), (16, 1, 19), (21, 0, 22), (16, 2, 21), (23, 3, 24), (23, 4, 25), (23, 5, 26), (23, 7, 27), (23, 8, 28), (23, 9, 29), (23, 11, 30), (23, 12, 31), (23, 13, 32), (23, 14, 33), (23, 15, 34), (23, 16, 35), (36, 0, 37), (35, 0, 36), (38, 0, 39), (35, 1, 38), (40, 0, 41), (35, 2, 40), (2, 4, 42), (42, 0, 43), (43, 0, 44), (43, 1, 45), (43, 2, 46), (43, 3, 47), (42, 3, 49), (2, 5, 50), (50, 6, 51), (51, 0, 52), (51, 1, 53), (2, 6, 54), (54, 1, 55), (54, 2, 56), (54, 3, 57), (54, 4, 58), (54, 5, 59), (54, 7, 60), (54, 0, 50), (61, 0, 62), (61, 1, 63), (61, 2, 64), (61, 3, 65), (61, 4, 66), (2, 7, 61), (67, 0, 68), (67, 1, 69), (67, 2, 70), (67, 3, 71), (67, 4, 72), (2, 8, 67), (73, 0, 74), (73, 1, 75), (73, 2, 76), (73, 3, 77), (73, 4, 78), (2, 9, 73), (2, 11, 79), (79, 0, 80), (81, 0, 82), (81, 1, 83), (81, 2, 84), (81, 3, 85), (81, 4, 86), (80, 0, 81), (87, 0, 88), (87, 1, 89), (87, 2, 90), (87, 3, 91), (87, 4, 92), (80, 1, 87), (93, 0, 94), (93, 1, 95), (93, 2, 96), (93, 3, 97), (93, 4, 98), (80, 2, 93), (99, 0, 100), (99, 1, 101), (99, 2, 102), (99, 3, 103), (99, 4, 104), (80, 3, 99), (105, 0, 106), (105, 1, 107), (105, 2, 108), (105, 3, 109), (105, 4, 110), (80, 4, 105), (111, 0, 112), (111, 1, 113), (111, 2, 114), (111, 3, 115), (111, 4, 116), (80, 5, 111), (117, 0, 118), (117, 1, 119), (117, 2, 120), (117, 3, 121), (117, 4, 122), (80, 6, 117), (123, 0, 124), (123, 1, 125), (123, 2, 126), (123, 3, 127), (123, 4, 128), (80, 7, 123), (129, 0, 130), (129, 1, 131), (129, 2, 132), (129, 3, 133), (129, 4, 134), (80, 8, 129), (135, 0, 136), (135, 1, 137), (135, 2, 138), (135, 3, 139), (135, 4, 140), (80, 9, 135), (141, 0, 142), (141, 1, 143), (141, 2, 144), (141, 3, 145), (141, 4, 146), (80, 10, 141), (147, 0, 148), (147, 1, 149), (147, 2, 150), (147, 3, 151), (147, 4, 152), (80, 11, 147), (153, 0, 154), (153, 1, 155), (153, 2, 156), (153, 3, 157), (153, 4, 158), (80, 12, 153), (159, 0, 160), (159, 1, 161), (159, 2, 162), (159, 3, 163), (159, 4, 164), (80, 13, 159), (165, 0, 166), (165, 1, 167), (165, 2, 168), (165, 3, 169), (165, 4, 170), (80, 14, 165), (171, 0, 172), (171, 1, 173), (171, 2, 174), (171, 3, 175), (171, 4, 176), (80, 15, 171), (177, 0, 178), (177, 1, 179), (177, 2, 180), (177, 3, 181), (177, 4, 182), (80, 16, 177), (183, 0, 184), (183, 1, 185), (183, 2, 186), (183, 3, 187), (183, 4, 188), (80, 17, 183), (189, 0, 190), (189, 1, 191), (189, 2, 192), (189, 3, 193), (189, 4, 194), (80, 18, 189), (195, 0, 196), (195, 1, 197), (195, 2, 198), (195, 3, 199), (195, 4, 200), (80, 19, 195), (2, 12, 201), (201, 0, 202), (201, 1, 203), (201, 2, 204), (201, 3, 205), (201, 4, 206), (201, 5, 207), (2, 13, 208), (209, 0, 210), (209, 3, 211), (209, 20, 212), (209, 21, 213), (209, 22, 214), (209, 23, 215), (209, 24, 216), (209, 25, 217), (209, 26, 218), (209, 27, 219), (209, 28, 220), (209, 29, 221), (209, 30, 222), (209, 31, 223), (209, 32, 224), (209, 33, 225), (209, 34, 226), (209, 35, 227), (209, 36, 228), (209, 37, 229), (209, 38, 230), (209, 45, 231), (209, 46, 232), (209, 48, 233), (209, 49, 234), (209, 50, 235), (209, 51, 236), (209, 52, 237), (209, 53, 238), (209, 63, 239), (209, 64, 240), (209, 66, 241), (209, 68, 242)]
def PFok (P : zP) : Prop := ∀ q ∈ PFX, P q.1 q.2.1 = some q.2.2
theorem p2_0 {P : zP} (h : PFok P) : P 2 0 = some 3 := h (2, 0, 3) (List.mem_of_getElem? (i := 0) rfl)
theorem p4_3 {P : zP} (h : PFok P) : P 4 3 = some 5 := h (4, 3, 5) (List.mem_of_getElem? (i := 1) rfl)
theorem p4_4 {P : zP} (h : PFok P) : P 4 4 = some 6 := h (4, 4, 6) (List.mem_of_getElem? (i := 2) rfl)
theorem p4_5 {P : zP} (h : PFok P) : P 4 5 = some 7 := h (4, 5, 7) (List.mem_of_getElem? (i := 3) rfl)
theorem p4_7 {P : zP} (h : PFok P) : P 4 7 = some 8 := h (4, 7, 8) (List.mem_of_getElem? (i := 4) rfl)
theorem p4_8 {P : zP} (h : PFok P) : P 4 8 = some 9 := h (4, 8, 9) (List.mem_of_getElem? (i := 5) rfl)
theorem p4_9 {P : zP} (h : PFok P) : P 4 9 = some 10 := h (4, 9, 10) (List.mem_of_getElem? (i := 6) rfl)
theorem p4_11 {P : zP} (h : PFok P) : P 4 11 = some 11 := h (4, 11, 11) (List.mem_of_getElem? (i := 7) rfl)
theorem p4_12 {P : zP} (h : PFok P) : P 4 12 = some 12 := h (4, 12, 12) (List.mem_of_getElem? (i := 8) rfl)
theorem p4_13 {P : zP} (h : PFok P) : P 4 13 = some 13 := h (4, 13, 13) (List.mem_of_getElem? (i := 9) rfl)
theorem p4_14 {P : zP} (h : PFok P) : P 4 14 = some 14 := h (4, 14, 14) (List.mem_of_getElem? (i := 10) rfl)
theorem p4_15 {P : zP} (h : PFok P) : P 4 15 = some 15 := h (4, 15, 15) (List.mem_of_getElem? (i := 11) rfl)
theorem p4_16 {P : zP} (h : PFok P) : P 4 16 = some 16 := h (4, 16, 16) (List.mem_of_getElem? (i := 12) rfl)
theorem p17_0 {P : zP} (h : PFok P) : P 17 0 = some 18 := h (17, 0, 18) (List.mem_of_getElem? (i := 13) rfl)
theorem p16_0 {P : zP} (h : PFok P) : P 16 0 = some 17 := h (16, 0, 17) (List.mem_of_getElem? (i := 14) rfl)
theorem p19_0 {P : zP} (h : PFok P) : P 19 0 = some 20 := h (19, 0, 20) (List.mem_of_getElem? (i := 15) rfl)
theorem p16_1 {P : zP} (h : PFok P) : P 16 1 = some 19 := h (16, 1, 19) (List.mem_of_getElem? (i := 16) rfl)
theorem p21_0 {P : zP} (h : PFok P) : P 21 0 = some 22 := h (21, 0, 22) (List.mem_of_getElem? (i := 17) rfl)
theorem p16_2 {P : zP} (h : PFok P) : P 16 2 = some 21 := h (16, 2, 21) (List.mem_of_getElem? (i := 18) rfl)
theorem p23_3 {P : zP} (h : PFok P) : P 23 3 = some 24 := h (23, 3, 24) (List.mem_of_getElem? (i := 19) rfl)
theorem p23_4 {P : zP} (h : PFok P) : P 23 4 = some 25 := h (23, 4, 25) (List.mem_of_getElem? (i := 20) rfl)
theorem p23_5 {P : zP} (h : PFok P) : P 23 5 = some 26 := h (23, 5, 26) (List.mem_of_getElem? (i := 21) rfl)
theorem p23_7 {P : zP} (h : PFok P) : P 23 7 = some 27 := h (23, 7, 27) (List.mem_of_getElem? (i := 22) rfl)
theorem p23_8 {P : zP} (h : PFok P) : P 23 8 = some 28 := h (23, 8, 28) (List.mem_of_getElem? (i := 23) rfl)
theorem p23_9 {P : zP} (h : PFok P) : P 23 9 = some 29 := h (23, 9, 29) (List.mem_of_getElem? (i := 24) rfl)
theorem p23_11 {P : zP} (h : PFok P) : P 23 11 = some 30 := h (23, 11, 30) (List.mem_of_getElem? (i := 25) rfl)
theorem p23_12 {P : zP} (h : PFok P) : P 23 12 = some 31 := h (23, 12, 31) (List.mem_of_getElem? (i := 26) rfl)
theorem p23_13 {P : zP} (h : PFok P) : P 23 13 = some 32 := h (23, 13, 32) (List.mem_of_getElem? (i := 27) rfl)
theorem p23_14 {P : zP} (h : PFok P) : P 23 14 = some 33 := h (23, 14, 33) (List.mem_of_getElem? (i := 28) rfl)
theorem p23_15 {P : zP} (h : PFok P) : P 23 15 = some 34 := h (23, 15, 34) (List.mem_of_getElem? (i := 29) rfl)
theorem p23_16 {P : zP} (h : PFok P) : P 23 16 = some 35 := h (23, 16, 35) (List.mem_of_getElem? (i := 30) rfl)
theorem p36_0 {P : zP} (h : PFok P) : P 36 0 = some 37 := h (36, 0, 37) (List.mem_of_getElem? (i := 31) rfl)
theorem p35_0 {P : zP} (h : PFok P) : P 35 0 = some 36 := h (35, 0, 36) (List.mem_of_getElem? (i := 32) rfl)
theorem p38_0 {P : zP} (h : PFok P) : P 38 0 = some 39 := h (38, 0, 39) (List.mem_of_getElem? (i := 33) rfl)
theorem p35_1 {P : zP} (h : PFok P) : P 35 1 = some 38 := h (35, 1, 38) (List.mem_of_getElem? (i := 34) rfl)
theorem p40_0 {P : zP} (h : PFok P) : P 40 0 = some 41 := h (40, 0, 41) (List.mem_of_getElem? (i := 35) rfl)
theorem p35_2 {P : zP} (h : PFok P) : P 35 2 = some 40 := h (35, 2, 40) (List.mem_of_getElem? (i := 36) rfl)
theorem p2_4 {P : zP} (h : PFok P) : P 2 4 = some 42 := h (2, 4, 42) (List.mem_of_getElem? (i := 37) rfl)
theorem p42_0 {P : zP} (h : PFok P) : P 42 0 = some 43 := h (42, 0, 43) (List.mem_of_getElem? (i := 38) rfl)
theorem p43_0 {P : zP} (h : PFok P) : P 43 0 = some 44 := h (43, 0, 44) (List.mem_of_getElem? (i := 39) rfl)
theorem p43_1 {P : zP} (h : PFok P) : P 43 1 = some 45 := h (43, 1, 45) (List.mem_of_getElem? (i := 40) rfl)
theorem p43_2 {P : zP} (h : PFok P) : P 43 2 = some 46 := h (43, 2, 46) (List.mem_of_getElem? (i := 41) rfl)
theorem p43_3 {P : zP} (h : PFok P) : P 43 3 = some 47 := h (43, 3, 47) (List.mem_of_getElem? (i := 42) rfl)
theorem p42_3 {P : zP} (h : PFok P) : P 42 3 = some 49 := h (42, 3, 49) (List.mem_of_getElem? (i := 43) rfl)
theorem p2_5 {P : zP} (h : PFok P) : P 2 5 = some 50 := h (2, 5, 50) (List.mem_of_getElem? (i := 44) rfl)
theorem p50_6 {P : zP} (h : PFok P) : P 50 6 = some 51 := h (50, 6, 51) (List.mem_of_getElem? (i := 45) rfl)
theorem p51_0 {P : zP} (h : PFok P) : P 51 0 = some 52 := h (51, 0, 52) (List.mem_of_getElem? (i := 46) rfl)
theorem p51_1 {P : zP} (h : PFok P) : P 51 1 = some 53 := h (51, 1, 53) (List.mem_of_getElem? (i := 47) rfl)
theorem p2_6 {P : zP} (h : PFok P) : P 2 6 = some 54 := h (2, 6, 54) (List.mem_of_getElem? (i := 48) rfl)
theorem p54_1 {P : zP} (h : PFok P) : P 54 1 = some 55 := h (54, 1, 55) (List.mem_of_getElem? (i := 49) rfl)
theorem p54_2 {P : zP} (h : PFok P) : P 54 2 = some 56 := h (54, 2, 56) (List.mem_of_getElem? (i := 50) rfl)
theorem p54_3 {P : zP} (h : PFok P) : P 54 3 = some 57 := h (54, 3, 57) (List.mem_of_getElem? (i := 51) rfl)
theorem p54_4 {P : zP} (h : PFok P) : P 54 4 = some 58 := h (54, 4, 58) (List.mem_of_getElem? (i := 52) rfl)
theorem p54_5 {P : zP} (h : PFok P) : P 54 5 = some 59 := h (54, 5, 59) (List.mem_of_getElem? (i := 53) rfl)
theorem p54_7 {P : zP} (h : PFok P) : P 54 7 = some 60 := h (54, 7, 60) (List.mem_of_getElem? (i := 54) rfl)
theorem p54_0 {P : zP} (h : PFok P) : P 54 0 = some 50 := h (54, 0, 50) (List.mem_of_getElem? (i := 55) rfl)
theorem p61_0 {P : zP} (h : PFok P) : P 61 0 = some 62 := h (61, 0, 62) (List.mem_of_getElem? (i := 56) rfl)
theorem p61_1 {P : zP} (h : PFok P) : P 61 1 = some 63 := h (61, 1, 63) (List.mem_of_getElem? (i := 57) rfl)
theorem p61_2 {P : zP} (h : PFok P) : P 61 2 = some 64 := h (61, 2, 64) (List.mem_of_getElem? (i := 58) rfl)
theorem p61_3 {P : zP} (h : PFok P) : P 61 3 = some 65 := h (61, 3, 65) (List.mem_of_getElem? (i := 59) rfl)
theorem p61_4 {P : zP} (h : PFok P) : P 61 4 = some 66 := h (61, 4, 66) (List.mem_of_getElem? (i := 60) rfl)
theorem p2_7 {P : zP} (h : PFok P) : P 2 7 = some 61 := h (2, 7, 61) (List.mem_of_getElem? (i := 61) rfl)
theorem p67_0 {P : zP} (h : PFok P) : P 67 0 = some 68 := h (67, 0, 68) (List.mem_of_getElem? (i := 62) rfl)
theorem p67_1 {P : zP} (h : PFok P) : P 67 1 = some 69 := h (67, 1, 69) (List.mem_of_getElem? (i := 63) rfl)
theorem p67_2 {P : zP} (h : PFok P) : P 67 2 = some 70 := h (67, 2, 70) (List.mem_of_getElem? (i := 64) rfl)
theorem p67_3 {P : zP} (h : PFok P) : P 67 3 = some 71 := h (67, 3, 71) (List.mem_of_getElem? (i := 65) rfl)
theorem p67_4 {P : zP} (h : PFok P) : P 67 4 = some 72 := h (67, 4, 72) (List.mem_of_getElem? (i := 66) rfl)
theorem p2_8 {P : zP} (h : PFok P) : P 2 8 = some 67 := h (2, 8, 67) (List.mem_of_getElem? (i := 67) rfl)
theorem p73_0 {P : zP} (h : PFok P) : P 73 0 = some 74 := h (73, 0, 74) (List.mem_of_getElem? (i := 68) rfl)
theorem p73_1 {P : zP} (h : PFok P) : P 73 1 = some 75 := h (73, 1, 75) (List.mem_of_getElem? (i := 69) rfl)
theorem p73_2 {P : zP} (h : PFok P) : P 73 2 = some 76 := h (73, 2, 76) (List.mem_of_getElem? (i := 70) rfl)
theorem p73_3 {P : zP} (h : PFok P) : P 73 3 = some 77 := h (73, 3, 77) (List.mem_of_getElem? (i := 71) rfl)
theorem p73_4 {P : zP} (h : PFok P) : P 73 4 = some 78 := h (73, 4, 78) (List.mem_of_getElem? (i := 72) rfl)
theorem p2_9 {P : zP} (h : PFok P) : P 2 9 = some 73 := h (2, 9, 73) (List.mem_of_getElem? (i := 73) rfl)
theorem p2_11 {P : zP} (h : PFok P) : P 2 11 = some 79 := h (2, 11, 79) (List.mem_of_getElem? (i := 74) rfl)
theorem p79_0 {P : zP} (h : PFok P) : P 79 0 = some 80 := h (79, 0, 80) (List.mem_of_getElem? (i := 75) rfl)
theorem p81_0 {P : zP} (h : PFok P) : P 81 0 = some 82 := h (81, 0, 82) (List.mem_of_getElem? (i := 76) rfl)
theorem p81_1 {P : zP} (h : PFok P) : P 81 1 = some 83 := h (81, 1, 83) (List.mem_of_getElem? (i := 77) rfl)
theorem p81_2 {P : zP} (h : PFok P) : P 81 2 = some 84 := h (81, 2, 84) (List.mem_of_getElem? (i := 78) rfl)
theorem p81_3 {P : zP} (h : PFok P) : P 81 3 = some 85 := h (81, 3, 85) (List.mem_of_getElem? (i := 79) rfl)
theorem p81_4 {P : zP} (h : PFok P) : P 81 4 = some 86 := h (81, 4, 86) (List.mem_of_getElem? (i := 80) rfl)
theorem p80_0 {P : zP} (h : PFok P) : P 80 0 = some 81 := h (80, 0, 81) (List.mem_of_getElem? (i := 81) rfl)
theorem p87_0 {P : zP} (h : PFok P) : P 87 0 = some 88 := h (87, 0, 88) (List.mem_of_getElem? (i := 82) rfl)
theorem p87_1 {P : zP} (h : PFok P) : P 87 1 = some 89 := h (87, 1, 89) (List.mem_of_getElem? (i := 83) rfl)
theorem p87_2 {P : zP} (h : PFok P) : P 87 2 = some 90 := h (87, 2, 90) (List.mem_of_getElem? (i := 84) rfl)
theorem p87_3 {P : zP} (h : PFok P) : P 87 3 = some 91 := h (87, 3, 91) (List.mem_of_getElem? (i := 85) rfl)
theorem p87_4 {P : zP} (h : PFok P) : P 87 4 = some 92 := h (87, 4, 92) (List.mem_of_getElem? (i := 86) rfl)
theorem p80_1 {P : zP} (h : PFok P) : P 80 1 = some 87 := h (80, 1, 87) (List.mem_of_getElem? (i := 87) rfl)
theorem p93_0 {P : zP} (h : PFok P) : P 93 0 = some 94 := h (93, 0, 94) (List.mem_of_getElem? (i := 88) rfl)
theorem p93_1 {P : zP} (h : PFok P) : P 93 1 = some 95 := h (93, 1, 95) (List.mem_of_getElem? (i := 89) rfl)
theorem p93_2 {P : zP} (h : PFok P) : P 93 2 = some 96 := h (93, 2, 96) (List.mem_of_getElem? (i := 90) rfl)
theorem p93_3 {P : zP} (h : PFok P) : P 93 3 = some 97 := h (93, 3, 97) (List.mem_of_getElem? (i := 91) rfl)
theorem p93_4 {P : zP} (h : PFok P) : P 93 4 = some 98 := h (93, 4, 98) (List.mem_of_getElem? (i := 92) rfl)
theorem p80_2 {P : zP} (h : PFok P) : P 80 2 = some 93 := h (80, 2, 93) (List.mem_of_getElem? (i := 93) rfl)
theorem p99_0 {P : zP} (h : PFok P) : P 99 0 = some 100 := h (99, 0, 100) (List.mem_of_getElem? (i := 94) rfl)
theorem p99_1 {P : zP} (h : PFok P) : P 99 1 = some 101 := h (99, 1, 101) (List.mem_of_getElem? (i := 95) rfl)
theorem p99_2 {P : zP} (h : PFok P) : P 99 2 = some 102 := h (99, 2, 102) (List.mem_of_getElem? (i := 96) rfl)
theorem p99_3 {P : zP} (h : PFok P) : P 99 3 = some 103 := h (99, 3, 103) (List.mem_of_getElem? (i := 97) rfl)
theorem p99_4 {P : zP} (h : PFok P) : P 99 4 = some 104 := h (99, 4, 104) (List.mem_of_getElem? (i := 98) rfl)
theorem p80_3 {P : zP} (h : PFok P) : P 80 3 = some 99 := h (80, 3, 99) (List.mem_of_getElem? (i := 99) rfl)
theorem p105_0 {P : zP} (h : PFok P) : P 105 0 = some 106 := h (105, 0, 106) (List.mem_of_getElem? (i := 100) rfl)
theorem p105_1 {P : zP} (h : PFok P) : P 105 1 = some 107 := h (105, 1, 107) (List.mem_of_getElem? (i := 101) rfl)
theorem p105_2 {P : zP} (h : PFok P) : P 105 2 = some 108 := h (105, 2, 108) (List.mem_of_getElem? (i := 102) rfl)
theorem p105_3 {P : zP} (h : PFok P) : P 105 3 = some 109 := h (105, 3, 109) (List.mem_of_getElem? (i := 103) rfl)
theorem p105_4 {P : zP} (h : PFok P) : P 105 4 = some 110 := h (105, 4, 110) (List.mem_of_getElem? (i := 104) rfl)
theorem p80_4 {P : zP} (h : PFok P) : P 80 4 = some 105 := h (80, 4, 105) (List.mem_of_getElem? (i := 105) rfl)
theorem p111_0 {P : zP} (h : PFok P) : P 111 0 = some 112 := h (111, 0, 112) (List.mem_of_getElem? (i := 106) rfl)
theorem p111_1 {P : zP} (h : PFok P) : P 111 1 = some 113 := h (111, 1, 113) (List.mem_of_getElem? (i := 107) rfl)
theorem p111_2 {P : zP} (h : PFok P) : P 111 2 = some 114 := h (111, 2, 114) (List.mem_of_getElem? (i := 108) rfl)
theorem p111_3 {P : zP} (h : PFok P) : P 111 3 = some 115 := h (111, 3, 115) (List.mem_of_getElem? (i := 109) rfl)
theorem p111_4 {P : zP} (h : PFok P) : P 111 4 = some 116 := h (111, 4, 116) (List.mem_of_getElem? (i := 110) rfl)
theorem p80_5 {P : zP} (h : PFok P) : P 80 5 = some 111 := h (80, 5, 111) (List.mem_of_getElem? (i := 111) rfl)
theorem p117_0 {P : zP} (h : PFok P) : P 117 0 = some 118 := h (117, 0, 118) (List.mem_of_getElem? (i := 112) rfl)
theorem p117_1 {P : zP} (h : PFok P) : P 117 1 = some 119 := h (117, 1, 119) (List.mem_of_getElem? (i := 113) rfl)
theorem p117_2 {P : zP} (h : PFok P) : P 117 2 = some 120 := h (117, 2, 120) (List.mem_of_getElem? (i := 114) rfl)
theorem p117_3 {P : zP} (h : PFok P) : P 117 3 = some 121 := h (117, 3, 121) (List.mem_of_getElem? (i := 115) rfl)
theorem p117_4 {P : zP} (h : PFok P) : P 117 4 = some 122 := h (117, 4, 122) (List.mem_of_getElem? (i := 116) rfl)
theorem p80_6 {P : zP} (h : PFok P) : P 80 6 = some 117 := h (80, 6, 117) (List.mem_of_getElem? (i := 117) rfl)
theorem p123_0 {P : zP} (h : PFok P) : P 123 0 = some 124 := h (123, 0, 124) (List.mem_of_getElem? (i := 118) rfl)
theorem p123_1 {P : zP} (h : PFok P) : P 123 1 = some 125 := h (123, 1, 125) (List.mem_of_getElem? (i := 119) rfl)
theorem p123_2 {P : zP} (h : PFok P) : P 123 2 = some 126 := h (123, 2, 126) (List.mem_of_getElem? (i := 120) rfl)
theorem p123_3 {P : zP} (h : PFok P) : P 123 3 = some 127 := h (123, 3, 127) (List.mem_of_getElem? (i := 121) rfl)
theorem p123_4 {P : zP} (h : PFok P) : P 123 4 = some 128 := h (123, 4, 128) (List.mem_of_getElem? (i := 122) rfl)
theorem p80_7 {P : zP} (h : PFok P) : P 80 7 = some 123 := h (80, 7, 123) (List.mem_of_getElem? (i := 123) rfl)
theorem p129_0 {P : zP} (h : PFok P) : P 129 0 = some 130 := h (129, 0, 130) (List.mem_of_getElem? (i := 124) rfl)
theorem p129_1 {P : zP} (h : PFok P) : P 129 1 = some 131 := h (129, 1, 131) (List.mem_of_getElem? (i := 125) rfl)
theorem p129_2 {P : zP} (h : PFok P) : P 129 2 = some 132 := h (129, 2, 132) (List.mem_of_getElem? (i := 126) rfl)
theorem p129_3 {P : zP} (h : PFok P) : P 129 3 = some 133 := h (129, 3, 133) (List.mem_of_getElem? (i := 127) rfl)
theorem p129_4 {P : zP} (h : PFok P) : P 129 4 = some 134 := h (129, 4, 134) (List.mem_of_getElem? (i := 128) rfl)
theorem p80_8 {P : zP} (h : PFok P) : P 80 8 = some 129 := h (80, 8, 129) (List.mem_of_getElem? (i := 129) rfl)
theorem p135_0 {P : zP} (h : PFok P) : P 135 0 = some 136 := h (135, 0, 136) (List.mem_of_getElem? (i := 130) rfl)
theorem p135_1 {P : zP} (h : PFok P) : P 135 1 = some 137 := h (135, 1, 137) (List.mem_of_getElem? (i := 131) rfl)
theorem p135_2 {P : zP} (h : PFok P) : P 135 2 = some 138 := h (135, 2, 138) (List.mem_of_getElem? (i := 132) rfl)
theorem p135_3 {P : zP} (h : PFok P) : P 135 3 = some 139 := h (135, 3, 139) (List.mem_of_getElem? (i := 133) rfl)
theorem p135_4 {P : zP} (h : PFok P) : P 135 4 = some 140 := h (135, 4, 140) (List.mem_of_getElem? (i := 134) rfl)
theorem p80_9 {P : zP} (h : PFok P) : P 80 9 = some 135 := h (80, 9, 135) (List.mem_of_getElem? (i := 135) rfl)
theorem p141_0 {P : zP} (h : PFok P) : P 141 0 = some 142 := h (141, 0, 142) (List.mem_of_getElem? (i := 136) rfl)
theorem p141_1 {P : zP} (h : PFok P) : P 141 1 = some 143 := h (141, 1, 143) (List.mem_of_getElem? (i := 137) rfl)
theorem p141_2 {P : zP} (h : PFok P) : P 141 2 = some 144 := h (141, 2, 144) (List.mem_of_getElem? (i := 138) rfl)
theorem p141_3 {P : zP} (h : PFok P) : P 141 3 = some 145 := h (141, 3, 145) (List.mem_of_getElem? (i := 139) rfl)
theorem p141_4 {P : zP} (h : PFok P) : P 141 4 = some 146 := h (141, 4, 146) (List.mem_of_getElem? (i := 140) rfl)
theorem p80_10 {P : zP} (h : PFok P) : P 80 10 = some 141 := h (80, 10, 141) (List.mem_of_getElem? (i := 141) rfl)
theorem p147_0 {P : zP} (h : PFok P) : P 147 0 = some 148 := h (147, 0, 148) (List.mem_of_getElem? (i := 142) rfl)
theorem p147_1 {P : zP} (h : PFok P) : P 147 1 = some 149 := h (147, 1, 149) (List.mem_of_getElem? (i := 143) rfl)
theorem p147_2 {P : zP} (h : PFok P) : P 147 2 = some 150 := h (147, 2, 150) (List.mem_of_getElem? (i := 144) rfl)
theorem p147_3 {P : zP} (h : PFok P) : P 147 3 = some 151 := h (147, 3, 151) (List.mem_of_getElem? (i := 145) rfl)
theorem p147_4 {P : zP} (h : PFok P) : P 147 4 = some 152 := h (147, 4, 152) (List.mem_of_getElem? (i := 146) rfl)
theorem p80_11 {P : zP} (h : PFok P) : P 80 11 = some 147 := h (80, 11, 147) (List.mem_of_getElem? (i := 147) rfl)
theorem p153_0 {P : zP} (h : PFok P) : P 153 0 = some 154 := h (153, 0, 154) (List.mem_of_getElem? (i := 148) rfl)
theorem p153_1 {P : zP} (h : PFok P) : P 153 1 = some 155 := h (153, 1, 155) (List.mem_of_getElem? (i := 149) rfl)
theorem p153_2 {P : zP} (h : PFok P) : P 153 2 = some 156 := h (153, 2, 156) (List.mem_of_getElem? (i := 150) rfl)
theorem p153_3 {P : zP} (h : PFok P) : P 153 3 = some 157 := h (153, 3, 157) (List.mem_of_getElem? (i := 151) rfl)
theorem p153_4 {P : zP} (h : PFok P) : P 153 4 = some 158 := h (153, 4, 158) (List.mem_of_getElem? (i := 152) rfl)
theorem p80_12 {P : zP} (h : PFok P) : P 80 12 = some 153 := h (80, 12, 153) (List.mem_of_getElem? (i := 153) rfl)
theorem p159_0 {P : zP} (h : PFok P) : P 159 0 = some 160 := h (159, 0, 160) (List.mem_of_getElem? (i := 154) rfl)
theorem p159_1 {P : zP} (h : PFok P) : P 159 1 = some 161 := h (159, 1, 161) (List.mem_of_getElem? (i := 155) rfl)
theorem p159_2 {P : zP} (h : PFok P) : P 159 2 = some 162 := h (159, 2, 162) (List.mem_of_getElem? (i := 156) rfl)
theorem p159_3 {P : zP} (h : PFok P) : P 159 3 = some 163 := h (159, 3, 163) (List.mem_of_getElem? (i := 157) rfl)
theorem p159_4 {P : zP} (h : PFok P) : P 159 4 = some 164 := h (159, 4, 164) (List.mem_of_getElem? (i := 158) rfl)
theorem p80_13 {P : zP} (h : PFok P) : P 80 13 = some 159 := h (80, 13, 159) (List.mem_of_getElem? (i := 159) rfl)
theorem p165_0 {P : zP} (h : PFok P) : P 165 0 = some 166 := h (165, 0, 166) (List.mem_of_getElem? (i := 160) rfl)
theorem p165_1 {P : zP} (h : PFok P) : P 165 1 = some 167 := h (165, 1, 167) (List.mem_of_getElem? (i := 161) rfl)
theorem p165_2 {P : zP} (h : PFok P) : P 165 2 = some 168 := h (165, 2, 168) (List.mem_of_getElem? (i := 162) rfl)
theorem p165_3 {P : zP} (h : PFok P) : P 165 3 = some 169 := h (165, 3, 169) (List.mem_of_getElem? (i := 163) rfl)
theorem p165_4 {P : zP} (h : PFok P) : P 165 4 = some 170 := h (165, 4, 170) (List.mem_of_getElem? (i := 164) rfl)
theorem p80_14 {P : zP} (h : PFok P) : P 80 14 = some 165 := h (80, 14, 165) (List.mem_of_getElem? (i := 165) rfl)
theorem p171_0 {P : zP} (h : PFok P) : P 171 0 = some 172 := h (171, 0, 172) (List.mem_of_getElem? (i := 166) rfl)
theorem p171_1 {P : zP} (h : PFok P) : P 171 1 = some 173 := h (171, 1, 173) (List.mem_of_getElem? (i := 167) rfl)
theorem p171_2 {P : zP} (h : PFok P) : P 171 2 = some 174 := h (171, 2, 174) (List.mem_of_getElem? (i := 168) rfl)
theorem p171_3 {P : zP} (h : PFok P) : P 171 3 = some 175 := h (171, 3, 175) (List.mem_of_getElem? (i := 169) rfl)
theorem p171_4 {P : zP} (h : PFok P) : P 171 4 = some 176 := h (171, 4, 176) (List.mem_of_getElem? (i := 170) rfl)
theorem p80_15 {P : zP} (h : PFok P) : P 80 15 = some 171 := h (80, 15, 171) (List.mem_of_getElem? (i := 171) rfl)
theorem p177_0 {P : zP} (h : PFok P) : P 177 0 = some 178 := h (177, 0, 178) (List.mem_of_getElem? (i := 172) rfl)
theorem p177_1 {P : zP} (h : PFok P) : P 177 1 = some 179 := h (177, 1, 179) (List.mem_of_getElem? (i := 173) rfl)
theorem p177_2 {P : zP} (h : PFok P) : P 177 2 = some 180 := h (177, 2, 180) (List.mem_of_getElem? (i := 174) rfl)
theorem p177_3 {P : zP} (h : PFok P) : P 177 3 = some 181 := h (177, 3, 181) (List.mem_of_getElem? (i := 175) rfl)
theorem p177_4 {P : zP} (h : PFok P) : P 177 4 = some 182 := h (177, 4, 182) (List.mem_of_getElem? (i := 176) rfl)
theorem p80_16 {P : zP} (h : PFok P) : P 80 16 = some 177 := h (80, 16, 177) (List.mem_of_getElem? (i := 177) rfl)
theorem p183_0 {P : zP} (h : PFok P) : P 183 0 = some 184 := h (183, 0, 184) (List.mem_of_getElem? (i := 178) rfl)
theorem p183_1 {P : zP} (h : PFok P) : P 183 1 = some 185 := h (183, 1, 185) (List.mem_of_getElem? (i := 179) rfl)
theorem p183_2 {P : zP} (h : PFok P) : P 183 2 = some 186 := h (183, 2, 186) (List.mem_of_getElem? (i := 180) rfl)
theorem p183_3 {P : zP} (h : PFok P) : P 183 3 = some 187 := h (183, 3, 187) (List.mem_of_getElem? (i := 181) rfl)
theorem p183_4 {P : zP} (h : PFok P) : P 183 4 = some 188 := h (183, 4, 188) (List.mem_of_getElem? (i := 182) rfl)
theorem p80_17 {P : zP} (h : PFok P) : P 80 17 = some 183 := h (80, 17, 183) (List.mem_of_getElem? (i := 183) rfl)
theorem p189_0 {P : zP} (h : PFok P) : P 189 0 = some 190 := h (189, 0, 190) (List.mem_of_getElem? (i := 184) rfl)
theorem p189_1 {P : zP} (h : PFok P) : P 189 1 = some 191 := h (189, 1, 191) (List.mem_of_getElem? (i := 185) rfl)
theorem p189_2 {P : zP} (h : PFok P) : P 189 2 = some 192 := h (189, 2, 192) (List.mem_of_getElem? (i := 186) rfl)
theorem p189_3 {P : zP} (h : PFok P) : P 189 3 = some 193 := h (189, 3, 193) (List.mem_of_getElem? (i := 187) rfl)
theorem p189_4 {P : zP} (h : PFok P) : P 189 4 = some 194 := h (189, 4, 194) (List.mem_of_getElem? (i := 188) rfl)
theorem p80_18 {P : zP} (h : PFok P) : P 80 18 = some 189 := h (80, 18, 189) (List.mem_of_getElem? (i := 189) rfl)
theorem p195_0 {P : zP} (h : PFok P) : P 195 0 = some 196 := h (195, 0, 196) (List.mem_of_getElem? (i := 190) rfl)
theorem p195_1 {P : zP} (h : PFok P) : P 195 1 = some 197 := h (195, 1, 197) (List.mem_of_getElem? (i := 191) rfl)
theorem p195_2 {P : zP} (h : PFok P) : P 195 2 = some 198 := h (195, 2, 198) (List.mem_of_getElem? (i := 192) rfl)
theorem p195_3 {P : zP} (h : PFok P) : P 195 3 = some 199 := h (195, 3, 199) (List.mem_of_getElem? (i := 193) rfl)
theorem p195_4 {P : zP} (h : PFok P) : P 195 4 = some 200 := h (195, 4, 200) (List.mem_of_getElem? (i := 194) rfl)
theorem p80_19 {P : zP} (h : PFok P) : P 80 19 = some 195 := h (80, 19, 195) (List.mem_of_getElem? (i := 195) rfl)
theorem p2_12 {P : zP} (h : PFok P) : P 2 12 = some 201 := h (2, 12, 201) (List.mem_of_getElem? (i := 196) rfl)
theorem p201_0 {P : zP} (h : PFok P) : P 201 0 = some 202 := h (201, 0, 202) (List.mem_of_getElem? (i := 197) rfl)
theorem p201_1 {P : zP} (h : PFok P) : P 201 1 = some 203 := h (201, 1, 203) (List.mem_of_getElem? (i := 198) rfl)
theorem p201_2 {P : zP} (h : PFok P) : P 201 2 = some 204 := h (201, 2, 204) (List.mem_of_getElem? (i := 199) rfl)
theorem p201_3 {P : zP} (h : PFok P) : P 201 3 = some 205 := h (201, 3, 205) (List.mem_of_getElem? (i := 200) rfl)
theorem p201_4 {P : zP} (h : PFok P) : P 201 4 = some 206 := h (201, 4, 206) (List.mem_of_getElem? (i := 201) rfl)
theorem p201_5 {P : zP} (h : PFok P) : P 201 5 = some 207 := h (201, 5, 207) (List.mem_of_getElem? (i := 202) rfl)
theorem p2_13 {P : zP} (h : PFok P) : P 2 13 = some 208 := h (2, 13, 208) (List.mem_of_getElem? (i := 203) rfl)
theorem p209_0 {P : zP} (h : PFok P) : P 209 0 = some 210 := h (209, 0, 210) (List.mem_of_getElem? (i := 204) rfl)
theorem p209_3 {P : zP} (h : PFok P) : P 209 3 = some 211 := h (209, 3, 211) (List.mem_of_getElem? (i := 205) rfl)
theorem p209_20 {P : zP} (h : PFok P) : P 209 20 = some 212 := h (209, 20, 212) (List.mem_of_getElem? (i := 206) rfl)
theorem p209_21 {P : zP} (h : PFok P) : P 209 21 = some 213 := h (209, 21, 213) (List.mem_of_getElem? (i := 207) rfl)
theorem p209_22 {P : zP} (h : PFok P) : P 209 22 = some 214 := h (209, 22, 214) (List.mem_of_getElem? (i := 208) rfl)
theorem p209_23 {P : zP} (h : PFok P) : P 209 23 = some 215 := h (209, 23, 215) (List.mem_of_getElem? (i := 209) rfl)
theorem p209_24 {P : zP} (h : PFok P) : P 209 24 = some 216 := h (209, 24, 216) (List.mem_of_getElem? (i := 210) rfl)
theorem p209_25 {P : zP} (h : PFok P) : P 209 25 = some 217 := h (209, 25, 217) (List.mem_of_getElem? (i := 211) rfl)
theorem p209_26 {P : zP} (h : PFok P) : P 209 26 = some 218 := h (209, 26, 218) (List.mem_of_getElem? (i := 212) rfl)
theorem p209_27 {P : zP} (h : PFok P) : P 209 27 = some 219 := h (209, 27, 219) (List.mem_of_getElem? (i := 213) rfl)
theorem p209_28 {P : zP} (h : PFok P) : P 209 28 = some 220 := h (209, 28, 220) (List.mem_of_getElem? (i := 214) rfl)
theorem p209_29 {P : zP} (h : PFok P) : P 209 29 = some 221 := h (209, 29, 221) (List.mem_of_getElem? (i := 215) rfl)
theorem p209_30 {P : zP} (h : PFok P) : P 209 30 = some 222 := h (209, 30, 222) (List.mem_of_getElem? (i := 216) rfl)
theorem p209_31 {P : zP} (h : PFok P) : P 209 31 = some 223 := h (209, 31, 223) (List.mem_of_getElem? (i := 217) rfl)
theorem p209_32 {P : zP} (h : PFok P) : P 209 32 = some 224 := h (209, 32, 224) (List.mem_of_getElem? (i := 218) rfl)
theorem p209_33 {P : zP} (h : PFok P) : P 209 33 = some 225 := h (209, 33, 225) (List.mem_of_getElem? (i := 219) rfl)
theorem p209_34 {P : zP} (h : PFok P) : P 209 34 = some 226 := h (209, 34, 226) (List.mem_of_getElem? (i := 220) rfl)
theorem p209_35 {P : zP} (h : PFok P) : P 209 35 = some 227 := h (209, 35, 227) (List.mem_of_getElem? (i := 221) rfl)
theorem p209_36 {P : zP} (h : PFok P) : P 209 36 = some 228 := h (209, 36, 228) (List.mem_of_getElem? (i := 222) rfl)
theorem p209_37 {P : zP} (h : PFok P) : P 209 37 = some 229 := h (209, 37, 229) (List.mem_of_getElem? (i := 223) rfl)
theorem p209_38 {P : zP} (h : PFok P) : P 209 38 = some 230 := h (209, 38, 230) (List.mem_of_getElem? (i := 224) rfl)
theorem p209_45 {P : zP} (h : PFok P) : P 209 45 = some 231 := h (209, 45, 231) (List.mem_of_getElem? (i := 225) rfl)
theorem p209_46 {P : zP} (h : PFok P) : P 209 46 = some 232 := h (209, 46, 232) (List.mem_of_getElem? (i := 226) rfl)
theorem p209_48 {P : zP} (h : PFok P) : P 209 48 = some 233 := h (209, 48, 233) (List.mem_of_getElem? (i := 227) rfl)
theorem p209_49 {P : zP} (h : PFok P) : P 209 49 = some 234 := h (209, 49, 234) (List.mem_of_getElem? (i := 228) rfl)
theorem p209_50 {P : zP} (h : PFok P) : P 209 50 = some 235 := h (209, 50, 235) (List.mem_of_getElem? (i := 229) rfl)
theorem p209_51 {P : zP} (h : PFok P) : P 209 51 = some 236 := h (209, 51, 236) (List.mem_of_getElem? (i := 230) rfl)
theorem p209_52 {P : zP} (h : PFok P) : P 209 52 = some 237 := h (209, 52, 237) (List.mem_of_getElem? (i := 231) rfl)
theorem p209_53 {P : zP} (h : PFok P) : P 209 53 = some 238 := h (209, 53, 238) (List.mem_of_getElem? (i := 232) rfl)
theorem p209_63 {P : zP} (h : PFok P) : P 209 63 = some 239 := h (209, 63, 239) (List.mem_of_getElem? (i := 233) rfl)
theorem p209_64 {P : zP} (h : PFok P) : P 209 64 = some 240 := h (209, 64, 240) (List.mem_of_getElem? (i := 234) rfl)
theorem p209_66 {P : zP} (h : PFok P) : P 209 66 = some 241 := h (209, 66, 241) (List.mem_of_getElem? (i := 235) rfl)
theorem p209_68 {P : zP} (h : PFok P) : P 209 68 = some 242 := h (209, 68, 242) (List.mem_of_getElem? (i := 236) rfl)
def StA (L : Nat) (P : zP) (a : Nat) : Prop := 2 ≤ a ∧ (LAY L)[a]? = some (.inr 5) ∧ ((LAY L)[a + 1]? = some (.inl (0, 6)) ∧ P a 0 = some (a + 1)) ∧ ((LAY L)[a + 2]? = some (.inl (0, 6)) ∧ P a 1 = some (a + 2)) ∧ ((LAY L)[a + 3]? = some (.inl (0, 6)) ∧ P a 2 = some (a + 3)) ∧ ((LAY L)[a + 4]? = some (.inl (0, 6)) ∧ P a 3 = some (a + 4)) ∧ ((LAY L)[a + 5]? = some (.inl (0, 36)) ∧ P a 4 = some (a + 5))
def ToA0 (L : Nat) (P : zP) (a : Nat) : Prop := 2 ≤ a ∧ (LAY L)[a]? = some (.inr 8) ∧ ((LAY L)[a + 1]? = some (.inl (0, 6)) ∧ P a 3 = some (a + 1)) ∧ ((LAY L)[a + 2]? = some (.inl (0, 6)) ∧ P a 4 = some (a + 2)) ∧ ((LAY L)[a + 3]? = some (.inl (0, 6)) ∧ P a 5 = some (a + 3)) ∧ ((LAY L)[a + 4]? = some (.inl (0, 10)) ∧ P a 7 = some (a + 4)) ∧ ((LAY L)[a + 5]? = some (.inl (0, 10)) ∧ P a 8 = some (a + 5)) ∧ ((LAY L)[a + 6]? = some (.inl (0, 10)) ∧ P a 9 = some (a + 6)) ∧ ((LAY L)[a + 7]? = some (.inl (0, 12)) ∧ P a 11 = some (a + 7)) ∧ ((LAY L)[a + 8]? = some (.inl (0, 12)) ∧ P a 12 = some (a + 8)) ∧ ((LAY L)[a + 9]? = some (.inl (0, 12)) ∧ P a 13 = some (a + 9)) ∧ ((LAY L)[a + 10]? = some (.inl (0, 4)) ∧ P a 14 = some (a + 10)) ∧ ((LAY L)[a + 11]? = some (.inl (1, 4)) ∧ P a 15 = some (a + 11)) ∧ ((LAY L)[a + 12]? = some (.inl (3, 3)) ∧ P a 16 = some (a + 12))
def LwA (L : Nat) (P : zP) (a : Nat) : Prop := 2 ≤ a ∧ (LAY L)[a]? = some (.inr 1) ∧ ((LAY L)[a + 1]? = some (.inl (0, 64)) ∧ P a 0 = some (a + 1))
def ToA (L : Nat) (P : zP) (a : Nat) : Prop := ToA0 L P a ∧ (P (a + 12) 0 = some (a + 13) ∧ LwA L P (a + 13)) ∧ (P (a + 12) 1 = some (a + 15) ∧ LwA L P (a + 15)) ∧ (P (a + 12) 2 = some (a + 17) ∧ LwA L P (a + 17))
theorem st_now (L : Nat) {P : zP} (h : PFok P) : StA L P 61 := ⟨by decide, L61 L, ⟨L62 L, p61_0 h⟩, ⟨L63 L, p61_1 h⟩, ⟨L64 L, p61_2 h⟩, ⟨L65 L, p61_3 h⟩, ⟨L66 L, p61_4 h⟩⟩
theorem st_guess (L : Nat) {P : zP} (h : PFok P) : StA L P 67 := ⟨by decide, L67 L, ⟨L68 L, p67_0 h⟩, ⟨L69 L, p67_1 h⟩, ⟨L70 L, p67_2 h⟩, ⟨L71 L, p67_3 h⟩, ⟨L72 L, p67_4 h⟩⟩
theorem st_image (L : Nat) {P : zP} (h : PFok P) : StA L P 73 := ⟨by decide, L73 L, ⟨L74 L, p73_0 h⟩, ⟨L75 L, p73_1 h⟩, ⟨L76 L, p73_2 h⟩, ⟨L77 L, p73_3 h⟩, ⟨L78 L, p73_4 h⟩⟩
theorem st_undo0 (L : Nat) {P : zP} (h : PFok P) : StA L P 81 := ⟨by decide, L81 L, ⟨L82 L, p81_0 h⟩, ⟨L83 L, p81_1 h⟩, ⟨L84 L, p81_2 h⟩, ⟨L85 L, p81_3 h⟩, ⟨L86 L, p81_4 h⟩⟩
theorem st_undo1 (L : Nat) {P : zP} (h : PFok P) : StA L P 87 := ⟨by decide, L87 L, ⟨L88 L, p87_0 h⟩, ⟨L89 L, p87_1 h⟩, ⟨L90 L, p87_2 h⟩, ⟨L91 L, p87_3 h⟩, ⟨L92 L, p87_4 h⟩⟩
theorem st_undo2 (L : Nat) {P : zP} (h : PFok P) : StA L P 93 := ⟨by decide, L93 L, ⟨L94 L, p93_0 h⟩, ⟨L95 L, p93_1 h⟩, ⟨L96 L, p93_2 h⟩, ⟨L97 L, p93_3 h⟩, ⟨L98 L, p93_4 h⟩⟩
theorem st_undo3 (L : Nat) {P : zP} (h : PFok P) : StA L P 99 := ⟨by decide, L99 L, ⟨L100 L, p99_0 h⟩, ⟨L101 L, p99_1 h⟩, ⟨L102 L, p99_2 h⟩, ⟨L103 L, p99_3 h⟩, ⟨L104 L, p99_4 h⟩⟩
theorem st_undo4 (L : Nat) {P : zP} (h : PFok P) : StA L P 105 := ⟨by decide, L105 L, ⟨L106 L, p105_0 h⟩, ⟨L107 L, p105_1 h⟩, ⟨L108 L, p105_2 h⟩, ⟨L109 L, p105_3 h⟩, ⟨L110 L, p105_4 h⟩⟩
theorem st_undo5 (L : Nat) {P : zP} (h : PFok P) : StA L P 111 := ⟨by decide, L111 L, ⟨L112 L, p111_0 h⟩, ⟨L113 L, p111_1 h⟩, ⟨L114 L, p111_2 h⟩, ⟨L115 L, p111_3 h⟩, ⟨L116 L, p111_4 h⟩⟩
theorem st_undo6 (L : Nat) {P : zP} (h : PFok P) : StA L P 117 := ⟨by decide, L117 L, ⟨L118 L, p117_0 h⟩, ⟨L119 L, p117_1 h⟩, ⟨L120 L, p117_2 h⟩, ⟨L121 L, p117_3 h⟩, ⟨L122 L, p117_4 h⟩⟩
theorem st_undo7 (L : Nat) {P : zP} (h : PFok P) : StA L P 123 := ⟨by decide, L123 L, ⟨L124 L, p123_0 h⟩, ⟨L125 L, p123_1 h⟩, ⟨L126 L, p123_2 h⟩, ⟨L127 L, p123_3 h⟩, ⟨L128 L, p123_4 h⟩⟩
theorem st_undo8 (L : Nat) {P : zP} (h : PFok P) : StA L P 129 := ⟨by decide, L129 L, ⟨L130 L, p129_0 h⟩, ⟨L131 L, p129_1 h⟩, ⟨L132 L, p129_2 h⟩, ⟨L133 L, p129_3 h⟩, ⟨L134 L, p129_4 h⟩⟩
theorem st_undo9 (L : Nat) {P : zP} (h : PFok P) : StA L P 135 := ⟨by decide, L135 L, ⟨L136 L, p135_0 h⟩, ⟨L137 L, p135_1 h⟩, ⟨L138 L, p135_2 h⟩, ⟨L139 L, p135_3 h⟩, ⟨L140 L, p135_4 h⟩⟩
theorem st_undo10 (L : Nat) {P : zP} (h : PFok P) : StA L P 141 := ⟨by decide, L141 L, ⟨L142 L, p141_0 h⟩, ⟨L143 L, p141_1 h⟩, ⟨L144 L, p141_2 h⟩, ⟨L145 L, p141_3 h⟩, ⟨L146 L, p141_4 h⟩⟩
theorem st_undo11 (L : Nat) {P : zP} (h : PFok P) : StA L P 147 := ⟨by decide, L147 L, ⟨L148 L, p147_0 h⟩, ⟨L149 L, p147_1 h⟩, ⟨L150 L, p147_2 h⟩, ⟨L151 L, p147_3 h⟩, ⟨L152 L, p147_4 h⟩⟩
theorem st_undo12 (L : Nat) {P : zP} (h : PFok P) : StA L P 153 := ⟨by decide, L153 L, ⟨L154 L, p153_0 h⟩, ⟨L155 L, p153_1 h⟩, ⟨L156 L, p153_2 h⟩, ⟨L157 L, p153_3 h⟩, ⟨L158 L, p153_4 h⟩⟩
theorem st_undo13 (L : Nat) {P : zP} (h : PFok P) : StA L P 159 := ⟨by decide, L159 L, ⟨L160 L, p159_0 h⟩, ⟨L161 L, p159_1 h⟩, ⟨L162 L, p159_2 h⟩, ⟨L163 L, p159_3 h⟩, ⟨L164 L, p159_4 h⟩⟩
theorem st_undo14 (L : Nat) {P : zP} (h : PFok P) : StA L P 165 := ⟨by decide, L165 L, ⟨L166 L, p165_0 h⟩, ⟨L167 L, p165_1 h⟩, ⟨L168 L, p165_2 h⟩, ⟨L169 L, p165_3 h⟩, ⟨L170 L, p165_4 h⟩⟩
theorem st_undo15 (L : Nat) {P : zP} (h : PFok P) : StA L P 171 := ⟨by decide, L171 L, ⟨L172 L, p171_0 h⟩, ⟨L173 L, p171_1 h⟩, ⟨L174 L, p171_2 h⟩, ⟨L175 L, p171_3 h⟩, ⟨L176 L, p171_4 h⟩⟩
theorem st_undo16 (L : Nat) {P : zP} (h : PFok P) : StA L P 177 := ⟨by decide, L177 L, ⟨L178 L, p177_0 h⟩, ⟨L179 L, p177_1 h⟩, ⟨L180 L, p177_2 h⟩, ⟨L181 L, p177_3 h⟩, ⟨L182 L, p177_4 h⟩⟩
theorem st_undo17 (L : Nat) {P : zP} (h : PFok P) : StA L P 183 := ⟨by decide, L183 L, ⟨L184 L, p183_0 h⟩, ⟨L185 L, p183_1 h⟩, ⟨L186 L, p183_2 h⟩, ⟨L187 L, p183_3 h⟩, ⟨L188 L, p183_4 h⟩⟩
theorem st_undo18 (L : Nat) {P : zP} (h : PFok P) : StA L P 189 := ⟨by decide, L189 L, ⟨L190 L, p189_0 h⟩, ⟨L191 L, p189_1 h⟩, ⟨L192 L, p189_2 h⟩, ⟨L193 L, p189_3 h⟩, ⟨L194 L, p189_4 h⟩⟩
theorem st_undo19 (L : Nat) {P : zP} (h : PFok P) : StA L P 195 := ⟨by decide, L195 L, ⟨L196 L, p195_0 h⟩, ⟨L197 L, p195_1 h⟩, ⟨L198 L, p195_2 h⟩, ⟨L199 L, p195_3 h⟩, ⟨L200 L, p195_4 h⟩⟩
theorem to_toldA (L : Nat) {P : zP} (h : PFok P) : ToA L P 4 := ⟨⟨by decide, L4 L, ⟨L5 L, p4_3 h⟩, ⟨L6 L, p4_4 h⟩, ⟨L7 L, p4_5 h⟩, ⟨L8 L, p4_7 h⟩, ⟨L9 L, p4_8 h⟩, ⟨L10 L, p4_9 h⟩, ⟨L11 L, p4_11 h⟩, ⟨L12 L, p4_12 h⟩, ⟨L13 L, p4_13 h⟩, ⟨L14 L, p4_14 h⟩, ⟨L15 L, p4_15 h⟩, ⟨L16 L, p4_16 h⟩⟩, ⟨p16_0 h, ⟨by decide, L17 L, ⟨L18 L, p17_0 h⟩⟩⟩, ⟨p16_1 h, ⟨by decide, L19 L, ⟨L20 L, p19_0 h⟩⟩⟩, ⟨p16_2 h, ⟨by decide, L21 L, ⟨L22 L, p21_0 h⟩⟩⟩⟩
theorem to_toldB (L : Nat) {P : zP} (h : PFok P) : ToA L P 23 := ⟨⟨by decide, L23 L, ⟨L24 L, p23_3 h⟩, ⟨L25 L, p23_4 h⟩, ⟨L26 L, p23_5 h⟩, ⟨L27 L, p23_7 h⟩, ⟨L28 L, p23_8 h⟩, ⟨L29 L, p23_9 h⟩, ⟨L30 L, p23_11 h⟩, ⟨L31 L, p23_12 h⟩, ⟨L32 L, p23_13 h⟩, ⟨L33 L, p23_14 h⟩, ⟨L34 L, p23_15 h⟩, ⟨L35 L, p23_16 h⟩⟩, ⟨p35_0 h, ⟨by decide, L36 L, ⟨L37 L, p36_0 h⟩⟩⟩, ⟨p35_1 h, ⟨by decide, L38 L, ⟨L39 L, p38_0 h⟩⟩⟩, ⟨p35_2 h, ⟨by decide, L40 L, ⟨L41 L, p40_0 h⟩⟩⟩⟩
