def aT1 : List aCe := [.inr (11, [(false, .inr (some [1])), (true, .inl (0, 1600)), (false, .inl (-2147483648, 2147483647)), (false, .inl (-2147483648, 2147483647)), (false, .inr (some [2, 14])), (false, .inr (some [2, 14])), (false, .inr (some [26])), (false, .inr (some [31])), (false, .inr (some [34])), (false, .inr (some [38])), (false, .inr (some [181])), (false, .inr (some [185])), (false, .inr (some [219])), (false, .inl (0, 33)), (false, .inr (some [220])), (false, .inl (-2147483648, 2147483647))]),
  .inl (true, 0, 1600, .inl (0, 255)),
  .inr (4, [(false, .inl (-2147483648, 2147483647)), (false, .inl (-2147483648, 2147483647)), (false, .inl (-2147483648, 2147483647)), (false, .inl (-2147483648, 2147483647)), (false, .inl (-2147483648, 2147483647)), (false, .inr none), (false, .inr none), (false, .inl (0, 9)), (false, .inr (some [3])), (false, .inr (some [4])), (false, .inr (some [5])), (false, .inr (some [6])), (false, .inl (0, 511)), (false, .inl (0, 6)), (false, .inr (some [7])), (false, .inr (some [8])), (false, .inr (some [9])), (false, .inr (some [10]))]),
  .inl (false, 0, 9, .inl (-2147483648, 2147483647)),
  .inl (false, 0, 9, .inl (-2147483648, 2147483647)),
  .inl (false, 0, 9, .inl (-2147483648, 2147483647)),
  .inl (false, 0, 9, .inl (-2147483648, 2147483647)),
  .inl (false, 0, 6, .inl (-2147483648, 2147483647)),
  .inl (false, 0, 6, .inl (-2147483648, 2147483647)),
  .inl (false, 0, 6, .inl (-2147483648, 2147483647)),
  .inr (7, [(false, .inr (some [11])), (false, .inr (some [12])), (false, .inr (some [13])), (false, .inl (0, 1600))]),
  .inl (false, 0, 1600, .inl (-2147483648, 2147483647)),
  .inl (false, 0, 3, .inl (0, 1600)),
  .inl (false, 0, 3, .inl (0, 1600)),
  .inr (4, [(false, .inl (-2147483648, 2147483647)), (false, .inl (-2147483648, 2147483647)), (false, .inl (-2147483648, 2147483647)), (false, .inl (-2147483648, 2147483647)), (false, .inl (-2147483648, 2147483647)), (false, .inr none), (false, .inr none), (false, .inl (0, 9)), (false, .inr (some [15])), (false, .inr (some [16])), (false, .inr (some [17])), (false, .inr (some [18])), (false, .inl (0, 511)), (false, .inl (0, 6)), (false, .inr (some [19])), (false, .inr (some [20])), (false, .inr (some [21])), (false, .inr (some [22]))]),
  .inl (false, 0, 9, .inl (-2147483648, 2147483647)),
  .inl (false, 0, 9, .inl (-2147483648, 2147483647)),
  .inl (false, 0, 9, .inl (-2147483648, 2147483647)),
  .inl (false, 0, 9, .inl (-2147483648, 2147483647)),
  .inl (false, 0, 6, .inl (-2147483648, 2147483647)),
  .inl (false, 0, 6, .inl (-2147483648, 2147483647)),
  .inl (false, 0, 6, .inl (-2147483648, 2147483647)),
  .inr (7, [(false, .inr (some [23])), (false, .inr (some [24])), (false, .inr (some [25])), (false, .inl (0, 1600))]),
  .inl (false, 0, 1600, .inl (-2147483648, 2147483647)),
  .inl (false, 0, 3, .inl (0, 1600)),
  .inl (false, 0, 3, .inl (0, 1600)),
  .inr (9, [(false, .inr (some [27])), (false, .inr (some [30])), (false, .inr (some [2, 14])), (false, .inl (-2147483648, 2147483647))]),
  .inr (5, [(false, .inr (some [28])), (false, .inr (some [1])), (false, .inl (0, 1600)), (false, .inl (0, 1600)), (false, .inl (-2147483648, 2147483647)), (false, .inl (-2147483648, 2147483647)), (false, .inl (-2147483648, 2147483647)), (false, .inl (-2147483648, 2147483647)), (false, .inl (-2147483648, 2147483647)), (false, .inl (-2147483648, 2147483647)), (false, .inl (-2147483648, 2147483647)), (false, .inl (-2147483648, 2147483647))]),
  .inl (true, 0, 26, .inl (-2147483648, 2147483647)),
  .inl (false, 0, 0, .inl (-2147483648, 2147483647)),
  .inr (10, [(false, .inr (some [27])), (false, .inr (some [10, 22])), (false, .inl (-2147483648, 2147483647))]),
  .inr (8, [(false, .inl (-2147483648, 2147483647)), (false, .inl (0, 511)), (false, .inr (some [32])), (false, .inr (some [33])), (false, .inl (-2147483648, 2147483647)), (false, .inl (-2147483648, 2147483647))]),
  .inl (false, 0, 9, .inl (-2147483648, 2147483647)),
  .inl (false, 0, 6, .inl (-2147483648, 2147483647)),
  .inr (1, [(false, .inr (some [35])), (false, .inr (some [36])), (false, .inr (some [37])), (false, .inl (0, 40))]),
  .inl (false, 0, 40, .inl (-2147483648, 2147483647)),
  .inl (false, 0, 40, .inl (-2147483648, 2147483647)),
  .inl (false, 0, 40, .inl (-2147483648, 2147483647)),
  .inr (2, [(false, .inr (some [39])), (false, .inr (some [40])), (false, .inl (0, 19)), (false, .inl (0, 20))]),
  .inl (false, 3, 20, .inr (some [41, 48, 55, 62, 69, 76, 83, 90, 97, 104, 111, 118, 125, 132, 139, 146, 153, 160, 167, 174])),
  .inl (false, 4, 20, .inr (some [44, 51, 58, 65, 72, 79, 86, 93, 100, 107, 114, 121, 128, 135, 142, 149, 156, 163, 170, 177])),
  .inr (8, [(false, .inl (-2147483648, 2147483647)), (false, .inl (0, 511)), (false, .inr (some [42])), (false, .inr (some [43])), (false, .inl (-2147483648, 2147483647)), (false, .inl (-2147483648, 2147483647))]),
  .inl (false, 0, 9, .inl (-2147483648, 2147483647)),
  .inl (false, 0, 6, .inl (-2147483648, 2147483647)),
  .inr (1, [(false, .inr (some [45])), (false, .inr (some [46])), (false, .inr (some [47])), (false, .inl (0, 40))]),
  .inl (false, 0, 40, .inl (-2147483648, 2147483647)),
  .inl (false, 0, 40, .inl (-2147483648, 2147483647)),
  .inl (false, 0, 40, .inl (-2147483648, 2147483647)),
  .inr (8, [(false, .inl (-2147483648, 2147483647)), (false, .inl (0, 511)), (false, .inr (some [49])), (false, .inr (some [50])), (false, .inl (-2147483648, 2147483647)), (false, .inl (-2147483648, 2147483647))]),
  .inl (false, 0, 9, .inl (-2147483648, 2147483647)),
  .inl (false, 0, 6, .inl (-2147483648, 2147483647)),
  .inr (1, [(false, .inr (some [52])), (false, .inr (some [53])), (false, .inr (some [54])), (false, .inl (0, 40))]),
  .inl (false, 0, 40, .inl (-2147483648, 2147483647)),
  .inl (false, 0, 40, .inl (-2147483648, 2147483647)),
  .inl (false, 0, 40, .inl (-2147483648, 2147483647)),
  .inr (8, [(false, .inl (-2147483648, 2147483647)), (false, .inl (0, 511)), (false, .inr (some [56])), (false, .inr (some [57])), (false, .inl (-2147483648, 2147483647)), (false, .inl (-2147483648, 2147483647))]),
  .inl (false, 0, 9, .inl (-2147483648, 2147483647)),
  .inl (false, 0, 6, .inl (-2147483648, 2147483647)),
  .inr (1, [(false, .inr (some [59])), (false, .inr (some [60])), (false, .inr (some [61])), (false, .inl (0, 40))]),
  .inl (false, 0, 40, .inl (-2147483648, 2147483647)),
  .inl (false, 0, 40, .inl (-2147483648, 2147483647)),
  .inl (false, 0, 40, .inl (-2147483648, 2147483647)),
  .inr (8, [(false, .inl (-2147483648, 2147483647)), (false, .inl (0, 511)), (false, .inr (some [63])), (false, .inr (some [64])), (false, .inl (-2147483648, 2147483647)), (false, .inl (-2147483648, 2147483647))]),
  .inl (false, 0, 9, .inl (-2147483648, 2147483647)),
  .inl (false, 0, 6, .inl (-2147483648, 2147483647)),
  .inr (1, [(false, .inr (some [66])), (false, .inr (some [67])), (false, .inr (some [68])), (false, .inl (0, 40))]),
  .inl (false, 0, 40, .inl (-2147483648, 2147483647)),
  .inl (false, 0, 40, .inl (-2147483648, 2147483647)),
  .inl (false, 0, 40, .inl (-2147483648, 2147483647)),
  .inr (8, [(false, .inl (-2147483648, 2147483647)), (false, .inl (0, 511)), (false, .inr (some [70])), (false, .inr (some [71])), (false, .inl (-2147483648, 2147483647)), (false, .inl (-2147483648, 2147483647))]),
  .inl (false, 0, 9, .inl (-2147483648, 2147483647)),
  .inl (false, 0, 6, .inl (-2147483648, 2147483647)),
  .inr (1, [(false, .inr (some [73])), (false, .inr (some [74])), (false, .inr (some [75])), (false, .inl (0, 40))]),
  .inl (false, 0, 40, .inl (-2147483648, 2147483647)),
  .inl (false, 0, 40, .inl (-2147483648, 2147483647)),
  .inl (false, 0, 40, .inl (-2147483648, 2147483647)),
  .inr (8, [(false, .inl (-2147483648, 2147483647)), (false, .inl (0, 511)), (false, .inr (some [77])), (false, .inr (some [78])), (false, .inl (-2147483648, 2147483647)), (false, .inl (-2147483648, 2147483647))]),
  .inl (false, 0, 9, .inl (-2147483648, 2147483647)),
  .inl (false, 0, 6, .inl (-2147483648, 2147483647)),
  .inr (1, [(false, .inr (some [80])), (false, .inr (some [81])), (false, .inr (some [82])), (false, .inl (0, 40))]),
  .inl (false, 0, 40, .inl (-2147483648, 2147483647)),
  .inl (false, 0, 40, .inl (-2147483648, 2147483647)),
  .inl (false, 0, 40, .inl (-2147483648, 2147483647)),
  .inr (8, [(false, .inl (-2147483648, 2147483647)), (false, .inl (0, 511)), (false, .inr (some [84])), (false, .inr (some [85])), (false, .inl (-2147483648, 2147483647)), (false, .inl (-2147483648, 2147483647))]),
  .inl (false, 0, 9, .inl (-2147483648, 2147483647)),
  .inl (false, 0, 6, .inl (-2147483648, 2147483647)),
  .inr (1, [(false, .inr (some [87])), (false, .inr (some [88])), (false, .inr (some [89])), (false, .inl (0, 40))]),
  .inl (false, 0, 40, .inl (-2147483648, 2147483647)),
  .inl (false, 0, 40, .inl (-2147483648, 2147483647)),
  .inl (false, 0, 40, .inl (-2147483648, 2147483647)),
  .inr (8, [(false, .inl (-2147483648, 2147483647)), (false, .inl (0, 511)), (false, .inr (some [91])), (false, .inr (some [92])), (false, .inl (-2147483648, 2147483647)), (false, .inl (-2147483648, 2147483647))]),
  .inl (false, 0, 9, .inl (-2147483648, 2147483647)),
  .inl (false, 0, 6, .inl (-2147483648, 2147483647)),
  .inr (1, [(false, .inr (some [94])), (false, .inr (some [95])), (false, .inr (some [96])), (false, .inl (0, 40))]),
  .inl (false, 0, 40, .inl (-2147483648, 2147483647)),
  .inl (false, 0, 40, .inl (-2147483648, 2147483647)),
  .inl (false, 0, 40, .inl (-2147483648, 2147483647)),
  .inr (8, [(false, .inl (-2147483648, 2147483647)), (false, .inl (0, 511)), (false, .inr (some [98])), (false, .inr (some [99])), (false, .inl (-2147483648, 2147483647)), (false, .inl (-2147483648, 2147483647))]),
  .inl (false, 0, 9, .inl (-2147483648, 2147483647)),
  .inl (false, 0, 6, .inl (-2147483648, 2147483647)),
  .inr (1, [(false, .inr (some [101])), (false, .inr (some [102])), (false, .inr (some [103])), (false, .inl (0, 40))]),
  .inl (false, 0, 40, .inl (-2147483648, 2147483647)),
  .inl (false, 0, 40, .inl (-2147483648, 2147483647)),
  .inl (false, 0, 40, .inl (-2147483648, 2147483647)),
  .inr (8, [(false, .inl (-2147483648, 2147483647)), (false, .inl (0, 511)), (false, .inr (some [105])), (false, .inr (some [106])), (false, .inl (-2147483648, 2147483647)), (false, .inl (-2147483648, 2147483647))]),
  .inl (false, 0, 9, .inl (-2147483648, 2147483647)),
  .inl (false, 0, 6, .inl (-2147483648, 2147483647)),
  .inr (1, [(false, .inr (some [108])), (false, .inr (some [109])), (false, .inr (some [110])), (false, .inl (0, 40))]),
  .inl (false, 0, 40, .inl (-2147483648, 2147483647)),
  .inl (false, 0, 40, .inl (-2147483648, 2147483647)),
  .inl (false, 0, 40, .inl (-2147483648, 2147483647)),
  .inr (8, [(false, .inl (-2147483648, 2147483647)), (false, .inl (0, 511)), (false, .inr (some [112])), (false, .inr (some [113])), (false, .inl (-2147483648, 2147483647)), (false, .inl (-2147483648, 2147483647))]),
  .inl (false, 0, 9, .inl (-2147483648, 2147483647)),
  .inl (false, 0, 6, .inl (-2147483648, 2147483647)),
  .inr (1, [(false, .inr (some [115])), (false, .inr (some [116])), (false, .inr (some [117])), (false, .inl (0, 40))]),
  .inl (false, 0, 40, .inl (-2147483648, 2147483647)),
  .inl (false, 0, 40, .inl (-2147483648, 2147483647)),
  .inl (false, 0, 40, .inl (-2147483648, 2147483647)),
  .inr (8, [(false, .inl (-2147483648, 2147483647)), (false, .inl (0, 511)), (false, .inr (some [119])), (false, .inr (some [120])), (false, .inl (-2147483648, 2147483647)), (false, .inl (-2147483648, 2147483647))]),
  .inl (false, 0, 9, .inl (-2147483648, 2147483647)),
  .inl (false, 0, 6, .inl (-2147483648, 2147483647)),
  .inr (1, [(false, .inr (some [122])), (false, .inr (some [123])), (false, .inr (some [124])), (false, .inl (0, 40))]),
  .inl (false, 0, 40, .inl (-2147483648, 2147483647)),
  .inl (false, 0, 40, .inl (-2147483648, 2147483647)),
  .inl (false, 0, 40, .inl (-2147483648, 2147483647)),
  .inr (8, [(false, .inl (-2147483648, 2147483647)), (false, .inl (0, 511)), (false, .inr (some [126])), (false, .inr (some [127])), (false, .inl (-2147483648, 2147483647)), (false, .inl (-2147483648, 2147483647))]),
  .inl (false, 0, 9, .inl (-2147483648, 2147483647)),
  .inl (false, 0, 6, .inl (-2147483648, 2147483647)),
  .inr (1, [(false, .inr (some [129])), (false, .inr (some [130])), (false, .inr (some [131])), (false, .inl (0, 40))]),
  .inl (false, 0, 40, .inl (-2147483648, 2147483647)),
  .inl (false, 0, 40, .inl (-2147483648, 2147483647)),
  .inl (false, 0, 40, .inl (-2147483648, 2147483647)),
  .inr (8, [(false, .inl (-2147483648, 2147483647)), (false, .inl (0, 511)), (false, .inr (some [133])), (false, .inr (some [134])), (false, .inl (-2147483648, 2147483647)), (false, .inl (-2147483648, 2147483647))]),
  .inl (false, 0, 9, .inl (-2147483648, 2147483647)),
  .inl (false, 0, 6, .inl (-2147483648, 2147483647)),
  .inr (1, [(false, .inr (some [136])), (false, .inr (some [137])), (false, .inr (some [138])), (false, .inl (0, 40))]),
  .inl (false, 0, 40, .inl (-2147483648, 2147483647)),
  .inl (false, 0, 40, .inl (-2147483648, 2147483647)),
  .inl (false, 0, 40, .inl (-2147483648, 2147483647)),
  .inr (8, [(false, .inl (-2147483648, 2147483647)), (false, .inl (0, 511)), (false, .inr (some [140])), (false, .inr (some [141])), (false, .inl (-2147483648, 2147483647)), (false, .inl (-2147483648, 2147483647))]),
  .inl (false, 0, 9, .inl (-2147483648, 2147483647)),
  .inl (false, 0, 6, .inl (-2147483648, 2147483647)),
  .inr (1, [(false, .inr (some [143])), (false, .inr (some [144])), (false, .inr (some [145])), (false, .inl (0, 40))]),
  .inl (false, 0, 40, .inl (-2147483648, 2147483647)),
  .inl (false, 0, 40, .inl (-2147483648, 2147483647)),
  .inl (false, 0, 40, .inl (-2147483648, 2147483647)),
  .inr (8, [(false, .inl (-2147483648, 2147483647)), (false, .inl (0, 511)), (false, .inr (some [147])), (false, .inr (some [148])), (false, .inl (-2147483648, 2147483647)), (false, .inl (-2147483648, 2147483647))]),
  .inl (false, 0, 9, .inl (-2147483648, 2147483647)),
  .inl (false, 0, 6, .inl (-2147483648, 2147483647)),
  .inr (1, [(false, .inr (some [150])), (false, .inr (some [151])), (false, .inr (some [152])), (false, .inl (0, 40))]),
  .inl (false, 0, 40, .inl (-2147483648, 2147483647)),
  .inl (false, 0, 40, .inl (-2147483648, 2147483647)),
  .inl (false, 0, 40, .inl (-2147483648, 2147483647)),
  .inr (8, [(false, .inl (-2147483648, 2147483647)), (false, .inl (0, 511)), (false, .inr (some [154])), (false, .inr (some [155])), (false, .inl (-2147483648, 2147483647)), (false, .inl (-2147483648, 2147483647))]),
  .inl (false, 0, 9, .inl (-2147483648, 2147483647)),
  .inl (false, 0, 6, .inl (-2147483648, 2147483647)),
  .inr (1, [(false, .inr (some [157])), (false, .inr (some [158])), (false, .inr (some [159])), (false, .inl (0, 40))]),
  .inl (false, 0, 40, .inl (-2147483648, 2147483647)),
  .inl (false, 0, 40, .inl (-2147483648, 2147483647)),
  .inl (false, 0, 40, .inl (-2147483648, 2147483647)),
  .inr (8, [(false, .inl (-2147483648, 2147483647)), (false, .inl (0, 511)), (false, .inr (some [161])), (false, .inr (some [162])), (false, .inl (-2147483648, 2147483647)), (false, .inl (-2147483648, 2147483647))]),
  .inl (false, 0, 9, .inl (-2147483648, 2147483647)),
  .inl (false, 0, 6, .inl (-2147483648, 2147483647)),
  .inr (1, [(false, .inr (some [164])), (false, .inr (some [165])), (false, .inr (some [166])), (false, .inl (0, 40))]),
  .inl (false, 0, 40, .inl (-2147483648, 2147483647)),
  .inl (false, 0, 40, .inl (-2147483648, 2147483647)),
  .inl (false, 0, 40, .inl (-2147483648, 2147483647)),
  .inr (8, [(false, .inl (-2147483648, 2147483647)), (false, .inl (0, 511)), (false, .inr (some [168])), (false, .inr (some [169])), (false, .inl (-2147483648, 2147483647)), (false, .inl (-2147483648, 2147483647))]),
  .inl (false, 0, 9, .inl (-2147483648, 2147483647)),
  .inl (false, 0, 6, .inl (-2147483648, 2147483647)),
  .inr (1, [(false, .inr (some [171])), (false, .inr (some [172])), (false, .inr (some [173])), (false, .inl (0, 40))]),
  .inl (false, 0, 40, .inl (-2147483648, 2147483647)),
  .inl (false, 0, 40, .inl (-2147483648, 2147483647)),
  .inl (false, 0, 40, .inl (-2147483648, 2147483647)),
  .inr (8, [(false, .inl (-2147483648, 2147483647)), (false, .inl (0, 511)), (false, .inr (some [175])), (false, .inr (some [176])), (false, .inl (-2147483648, 2147483647)), (false, .inl (-2147483648, 2147483647))]),
  .inl (false, 0, 9, .inl (-2147483648, 2147483647)),
  .inl (false, 0, 6, .inl (-2147483648, 2147483647)),
  .inr (1, [(false, .inr (some [178])), (false, .inr (some [179])), (false, .inr (some [180])), (false, .inl (0, 40))]),
  .inl (false, 0, 40, .inl (-2147483648, 2147483647)),
  .inl (false, 0, 40, .inl (-2147483648, 2147483647)),
  .inl (false, 0, 40, .inl (-2147483648, 2147483647)),
  .inr (0, [(false, .inr (some [2, 14])), (false, .inr (some [182])), (false, .inr (some [184])), (false, .inl (0, 511)), (false, .inl (0, 511))]),
  .inr (6, [(false, .inr (some [183])), (false, .inl (-2147483648, 2147483647)), (false, .inl (-2147483648, 2147483647)), (false, .inl (-2147483648, 2147483647)), (false, .inl (-2147483648, 2147483647)), (false, .inl (-2147483648, 2147483647)), (false, .inl (-2147483648, 2147483647))]),
  .inl (false, 0, 128, .inl (-2147483648, 2147483647)),
  .inl (false, 1, 49, .inr none),
  .inr (3, [(false, .inr (some [181])), (false, .inr (some [186])), (false, .inr (some [187])), (false, .inr (some [188])), (false, .inr (some [189])), (false, .inr (some [190])), (false, .inl (-2147483648, 2147483647)), (false, .inl (-2147483648, 2147483647)), (false, .inr (some [191])), (true, .inl (0, 16)), (false, .inl (-2147483648, 2147483647)), (false, .inl (-2147483648, 2147483647)), (false, .inl (-2147483648, 2147483647))]),
  .inl (false, 3, 9, .inr (some [192, 195, 198, 201, 204, 207, 210, 213, 216])),
  .inl (false, 1, 9, .inr none),
  .inl (false, 0, 54, .inl (-2147483648, 2147483647)),
  .inl (false, 0, 3584, .inl (-2147483648, 2147483647)),
  .inl (false, 0, 6, .inl (-2147483648, 2147483647)),
  .inl (true, 0, 64, .inl (0, 255)),
  .inr (8, [(false, .inl (-2147483648, 2147483647)), (false, .inl (0, 511)), (false, .inr (some [193])), (false, .inr (some [194])), (false, .inl (-2147483648, 2147483647)), (false, .inl (-2147483648, 2147483647))]),
  .inl (false, 0, 9, .inl (-2147483648, 2147483647)),
  .inl (false, 0, 6, .inl (-2147483648, 2147483647)),
  .inr (8, [(false, .inl (-2147483648, 2147483647)), (false, .inl (0, 511)), (false, .inr (some [196])), (false, .inr (some [197])), (false, .inl (-2147483648, 2147483647)), (false, .inl (-2147483648, 2147483647))]),
  .inl (false, 0, 9, .inl (-2147483648, 2147483647)),
  .inl (false, 0, 6, .inl (-2147483648, 2147483647)),
  .inr (8, [(false, .inl (-2147483648, 2147483647)), (false, .inl (0, 511)), (false, .inr (some [199])), (false, .inr (some [200])), (false, .inl (-2147483648, 2147483647)), (false, .inl (-2147483648, 2147483647))]),
  .inl (false, 0, 9, .inl (-2147483648, 2147483647)),
  .inl (false, 0, 6, .inl (-2147483648, 2147483647)),
  .inr (8, [(false, .inl (-2147483648, 2147483647)), (false, .inl (0, 511)), (false, .inr (some [202])), (false, .inr (some [203])), (false, .inl (-2147483648, 2147483647)), (false, .inl (-2147483648, 2147483647))]),
  .inl (false, 0, 9, .inl (-2147483648, 2147483647)),
  .inl (false, 0, 6, .inl (-2147483648, 2147483647)),
  .inr (8, [(false, .inl (-2147483648, 2147483647)), (false, .inl (0, 511)), (false, .inr (some [205])), (false, .inr (some [206])), (false, .inl (-2147483648, 2147483647)), (false, .inl (-2147483648, 2147483647))]),
  .inl (false, 0, 9, .inl (-2147483648, 2147483647)),
  .inl (false, 0, 6, .inl (-2147483648, 2147483647)),
  .inr (8, [(false, .inl (-2147483648, 2147483647)), (false, .inl (0, 511)), (false, .inr (some [208])), (false, .inr (some [209])), (false, .inl (-2147483648, 2147483647)), (false, .inl (-2147483648, 2147483647))]),
  .inl (false, 0, 9, .inl (-2147483648, 2147483647)),
  .inl (false, 0, 6, .inl (-2147483648, 2147483647)),
  .inr (8, [(false, .inl (-2147483648, 2147483647)), (false, .inl (0, 511)), (false, .inr (some [211])), (false, .inr (some [212])), (false, .inl (-2147483648, 2147483647)), (false, .inl (-2147483648, 2147483647))]),
  .inl (false, 0, 9, .inl (-2147483648, 2147483647)),
  .inl (false, 0, 6, .inl (-2147483648, 2147483647)),
  .inr (8, [(false, .inl (-2147483648, 2147483647)), (false, .inl (0, 511)), (false, .inr (some [214])), (false, .inr (some [215])), (false, .inl (-2147483648, 2147483647)), (false, .inl (-2147483648, 2147483647))]),
  .inl (false, 0, 9, .inl (-2147483648, 2147483647)),
  .inl (false, 0, 6, .inl (-2147483648, 2147483647)),
  .inr (8, [(false, .inl (-2147483648, 2147483647)), (false, .inl (0, 511)), (false, .inr (some [217])), (false, .inr (some [218])), (false, .inl (-2147483648, 2147483647)), (false, .inl (-2147483648, 2147483647))]),
  .inl (false, 0, 9, .inl (-2147483648, 2147483647)),
  .inl (false, 0, 6, .inl (-2147483648, 2147483647)),
  .inl (false, 0, 33, .inl (-2147483648, 2147483647)),
  .inl (false, 0, 6, .inl (-2147483648, 2147483647)),
  .inr (12, [(false, .inr (some [222])), (true, .inl (0, 1600)), (false, .inl (0, 1600)), (false, .inl (-2147483648, 2147483647)), (false, .inl (0, 1600)), (false, .inl (0, 1600)), (false, .inl (-2147483648, 2147483647)), (false, .inr none), (false, .inl (-2147483648, 2147483647)), (false, .inl (-2147483648, 2147483647)), (false, .inl (-2147483648, 2147483647)), (false, .inl (-2147483648, 2147483647)), (false, .inl (-2147483648, 2147483647)), (true, .inl (0, 1)), (false, .inr (some [223])), (false, .inr (some [224])), (false, .inr (some [225])), (false, .inr (some [226])), (false, .inr (some [227])), (false, .inr (some [228])), (false, .inr (some [229])), (false, .inr (some [230])), (false, .inr (some [231])), (false, .inr (some [232])), (false, .inr (some [233])), (false, .inr (some [234])), (false, .inr (some [235])), (false, .inr (some [236])), (false, .inr (some [237])), (false, .inr (some [238])), (false, .inr (some [239])), (false, .inr (some [240])), (false, .inr (some [241])), (true, .inl (-2147483648, 2147483647)), (true, .inl (0, 1)), (false, .inl (-2147483648, 2147483647)), (false, .inr (some [242])), (false, .inr (some [243])), (false, .inr (some [244])), (false, .inr (some [245])), (false, .inr (some [246])), (false, .inl (-2147483648, 2147483647)), (false, .inl (-2147483648, 2147483647)), (false, .inr (some [247])), (false, .inl (-2147483648, 2147483647)), (false, .inl (0, 1)), (true, .inl (0, 1)), (false, .inr (some [248])), (false, .inr (some [249])), (false, .inr (some [250])), (false, .inr (some [251])), (false, .inr (some [252])), (false, .inr (some [253])), (false, .inr (some [254])), (false, .inl (0, 19)), (false, .inl (0, 20)), (false, .inr none), (false, .inr (some [255])), (false, .inr (some [256])), (false, .inr (some [257])), (false, .inr (some [258])), (false, .inr (some [259])), (false, .inr (some [260])), (false, .inr (some [261])), (false, .inr (some [262])), (false, .inr (some [263])), (true, .inl (0, 16)), (false, .inr (some [264])), (false, .inr (some [265])), (false, .inr (some [266])), (false, .inr (some [267])), (false, .inr (some [268])), (false, .inl (0, 33))]),
  .inl (true, 0, 1800, .inl (0, 255)),
  .inl (true, 0, 2, .inl (-2147483648, 2147483647)),
  .inl (true, 0, 2, .inl (-2147483648, 2147483647)),
  .inl (true, 0, 2, .inl (-2147483648, 2147483647)),
  .inl (true, 0, 2, .inl (-2147483648, 2147483647)),
  .inl (true, 0, 128, .inl (0, 1)),
  .inl (true, 0, 2, .inl (0, 9)),
  .inl (true, 0, 18, .inl (0, 63)),
  .inl (true, 0, 18, .inl (-2147483648, 2147483647)),
  .inl (true, 0, 18, .inl (-2147483648, 2147483647)),
  .inl (true, 0, 2, .inl (0, 511)),
  .inl (true, 0, 2, .inl (0, 6)),
  .inl (true, 0, 12, .inl (0, 63)),
  .inl (true, 0, 12, .inl (0, 63)),
  .inl (true, 0, 6, .inl (-2147483648, 2147483647)),
  .inl (true, 0, 6, .inl (-2147483648, 2147483647)),
  .inl (true, 0, 3200, .inl (-2147483648, 2147483647)),
  .inl (true, 0, 3200, .inl (-2147483648, 2147483647)),
  .inl (true, 1, 18, .inr none),
  .inl (true, 1, 12, .inr none),
  .inl (false, 0, 20, .inl (-2147483648, 2147483647)),
  .inl (false, 0, 20, .inl (-2147483648, 2147483647)),
  .inl (false, 2, 20, .inl (0, 1)),
  .inl (false, 0, 20, .inl (-2147483648, 2147483647)),
  .inl (false, 0, 20, .inl (-2147483648, 2147483647)),
  .inl (false, 0, 500, .inl (-2147483648, 2147483647)),
  .inl (false, 0, 6, .inl (-2147483648, 2147483647)),
  .inl (false, 0, 22, .inl (-2147483648, 2147483647)),
  .inl (false, 0, 22, .inl (0, 511)),
  .inl (false, 0, 198, .inl (-2147483648, 2147483647)),
  .inl (false, 0, 132, .inl (0, 63)),
  .inl (false, 0, 22, .inl (0, 40)),
  .inl (false, 0, 2640, .inl (-2147483648, 2147483647)),
  .inl (false, 0, 9, .inl (-2147483648, 2147483647)),
  .inl (false, 1, 500, .inr none),
  .inl (false, 0, 10, .inl (-2147483648, 2147483647)),
  .inl (false, 0, 64, .inl (-2147483648, 2147483647)),
  .inl (false, 0, 64, .inl (-2147483648, 2147483647)),
  .inl (false, 0, 64, .inl (0, 63)),
  .inl (false, 0, 64, .inl (0, 511)),
  .inl (false, 0, 54, .inl (-2147483648, 2147483647)),
  .inl (false, 0, 3584, .inl (-2147483648, 2147483647)),
  .inl (true, 0, 16, .inl (0, 255)),
  .inl (true, 0, 16, .inl (0, 5)),
  .inl (true, 0, 16, .inl (-2147483648, 2147483647)),
  .inl (false, 0, 1674, .inl (-2147483648, 2147483647)),
  .inl (false, 0, 50, .inl (-2147483648, 2147483647))]
noncomputable abbrev aΘ1 (E : zM → Prop) : aTh := (aT1, E, zpg)
def aH1 (E : zM → Prop) : Prop := aEs (aΘ1 E) ∧ True
abbrev c1_X5_isOwn : aCt := (61, [.inr (some [27]), .inl (0, 23)], some (.inl (0, 1)))
def a1_X5_isOwn_0 : List (Nat × aF) := [(0, a_lda 0 1), (1, a_gf aT1 5 4 (.inl (-2147483648, 2147483647))), (4, a_pi (2) 1), (5, a_ic d_ne d_eq 3 20), (8, a_lda 0 1), (9, a_gf aT1 5 5 (.inl (-2147483648, 2147483647))), (12, a_ldi 1 1), (13, a_ic d_ne d_eq 3 20), (16, a_pi (1) 1), (17, a_gt 21), (20, a_pi (0) 1), (21, a_ri true)]
theorem p1_X5_isOwn_0 {E : zM → Prop} (h : aH1 E) : aP0 (aΘ1 E) 0 tX5_isOwn_0 a1_X5_isOwn_0 := ⟨rfl, aok_lda, rfl, aok_gf, rfl, aok_pi rfl, rfl, aok_ic sj_ne, rfl, aok_lda, rfl, aok_gf, rfl, aok_ldi, rfl, aok_ic sj_ne, rfl, aok_pi rfl, rfl, aok_gt, rfl, aok_pi rfl, rfl, aok_ri, trivial⟩
def b1_X5_isOwn : aTb := [(100000, a1_X5_isOwn_0)]
theorem q1_X5_isOwn {E : zM → Prop} (h : aH1 E) : aP1 (aΘ1 E) 0 tX5_isOwn b1_X5_isOwn := ⟨rfl, p1_X5_isOwn_0 h, trivial⟩
def n1_X5_isOwn : List aNd := []
theorem k1_X5_isOwn {E : zM → Prop} (h : aH1 E) : aCv (aΘ1 E) 1 c1_X5_isOwn := aMeth (D := 0) (c := c1_X5_isOwn) (tb := b1_X5_isOwn) (ns := n1_X5_isOwn) (fuel := 3000) rfl (q1_X5_isOwn h) (by decide +kernel)
abbrev c1_X5_faults : aCt := (63, [.inr (some [27]), .inl (1, 6), .inl (-2147483648, 2147483647)], some (.inl (0, 0)))
def a1_X5_faults_0 : List (Nat × aF) := [(0, a_lda 0 1), (1, a_ldi 1 1), (2, a_pf aT1 5 10 (.int)), (5, a_lda 0 1), (6, a_ldi 2 1), (7, a_pf aT1 5 11 (.int)), (10, a_pi (0) 1), (11, a_ri true)]
theorem p1_X5_faults_0 {E : zM → Prop} (h : aH1 E) : aP0 (aΘ1 E) 0 tX5_faults_0 a1_X5_faults_0 := ⟨rfl, aok_lda, rfl, aok_ldi, rfl, aok_pf h.1, rfl, aok_lda, rfl, aok_ldi, rfl, aok_pf h.1, rfl, aok_pi rfl, rfl, aok_ri, trivial⟩
def b1_X5_faults : aTb := [(100000, a1_X5_faults_0)]
theorem q1_X5_faults {E : zM → Prop} (h : aH1 E) : aP1 (aΘ1 E) 0 tX5_faults b1_X5_faults := ⟨rfl, p1_X5_faults_0 h, trivial⟩
def n1_X5_faults : List aNd := []
theorem k1_X5_faults {E : zM → Prop} (h : aH1 E) : aCv (aΘ1 E) 1 c1_X5_faults := aMeth (D := 0) (c := c1_X5_faults) (tb := b1_X5_faults) (ns := n1_X5_faults) (fuel := 3000) rfl (q1_X5_faults h) (by decide +kernel)
abbrev c1_X5_readWord : aCt := (59, [.inr (some [27]), .inl (0, 1)], none)
def a1_X5_readWord_0 : List (Nat × aF) := [(0, a_pi (0) 1), (1, a_sti 4 2 1), (2, a_pi (0) 1), (3, a_sti 4 3 1), (4, a_lda 0 1), (5, a_gf aT1 5 3 (.inl (0, 1600))), (8, a_lda 0 1), (9, a_gf aT1 5 2 (.inl (0, 1600))), (12, a_ic d_ge d_lt 3 100), (15, a_lda 0 1), (16, a_gf aT1 5 1 (.inr (some [1]))), (19, a_lda 0 1)]
theorem p1_X5_readWord_0 {E : zM → Prop} (h : aH1 E) : aP0 (aΘ1 E) 0 tX5_readWord_0 a1_X5_readWord_0 := ⟨rfl, aok_pi rfl, rfl, aok_sti, rfl, aok_pi rfl, rfl, aok_sti, rfl, aok_lda, rfl, aok_gf, rfl, aok_lda, rfl, aok_gf, rfl, aok_ic sj_ge, rfl, aok_lda, rfl, aok_gf, rfl, aok_lda, trivial⟩
def a1_X5_readWord_1 : List (Nat × aF) := [(20, a_gf aT1 5 3 (.inl (0, 1600))), (23, a_al aT1 0 (0, 255)), (24, a_pi (97) 2), (26, a_ic d_lt d_ge 3 100), (29, a_lda 0 1), (30, a_gf aT1 5 1 (.inr (some [1]))), (33, a_lda 0 1), (34, a_gf aT1 5 3 (.inl (0, 1600))), (37, a_al aT1 0 (0, 255)), (38, a_pi (122) 2), (40, a_ic d_gt d_le 3 100), (43, a_ldi 3 1)]
theorem p1_X5_readWord_1 {E : zM → Prop} (h : aH1 E) : aP0 (aΘ1 E) 0 tX5_readWord_1 a1_X5_readWord_1 := ⟨rfl, aok_gf, rfl, aok_al, rfl, aok_pi rfl, rfl, aok_ic sj_lt, rfl, aok_lda, rfl, aok_gf, rfl, aok_lda, rfl, aok_gf, rfl, aok_al, rfl, aok_pi rfl, rfl, aok_ic sj_gt, rfl, aok_ldi, trivial⟩
def a1_X5_readWord_2 : List (Nat × aF) := [(44, a_pi (6) 2), (46, a_ic d_ne d_eq 3 63), (49, a_lda 0 1), (50, a_pi (5) 1), (51, a_pf aT1 5 4 (.int)), (54, a_lda 0 1), (55, a_lda 0 1), (56, a_gf aT1 5 3 (.inl (0, 1600))), (59, a_pf aT1 5 7 (.int)), (62, a_rv), (63, a_ldi 2 1), (64, a_lda 0 1)]
theorem p1_X5_readWord_2 {E : zM → Prop} (h : aH1 E) : aP0 (aΘ1 E) 0 tX5_readWord_2 a1_X5_readWord_2 := ⟨rfl, aok_pi rfl, rfl, aok_ic sj_ne, rfl, aok_lda, rfl, aok_pi rfl, rfl, aok_pf h.1, rfl, aok_lda, rfl, aok_lda, rfl, aok_gf, rfl, aok_pf h.1, rfl, aok_rv, rfl, aok_ldi, rfl, aok_lda, trivial⟩
def a1_X5_readWord_3 : List (Nat × aF) := [(65, a_gf aT1 5 1 (.inr (some [1]))), (68, a_lda 0 1), (69, a_gf aT1 5 3 (.inl (0, 1600))), (72, a_al aT1 0 (0, 255)), (73, a_pi (97) 2), (75, a_b2 g_sub), (76, a_pi (1) 1), (77, a_b2 g_add), (78, a_pi (5) 1), (79, a_ldi 3 1), (80, a_b2 g_mul), (81, a_b2 g_shm)]
theorem p1_X5_readWord_3 {E : zM → Prop} (h : aH1 E) : aP0 (aΘ1 E) 0 tX5_readWord_3 a1_X5_readWord_3 := ⟨rfl, aok_gf, rfl, aok_lda, rfl, aok_gf, rfl, aok_al, rfl, aok_pi rfl, rfl, aok_b2 sd_sub, rfl, aok_pi rfl, rfl, aok_b2 sd_add, rfl, aok_pi rfl, rfl, aok_ldi, rfl, aok_b2 sd_mul, rfl, aok_b2 sd_shm, trivial⟩
def a1_X5_readWord_4 : List (Nat × aF) := [(82, a_b2 g_or), (83, a_sti 4 2 1), (84, a_lda 0 1), (85, a_du), (86, a_gf aT1 5 3 (.inl (0, 1600))), (89, a_pi (1) 1), (90, a_b2 g_add), (91, a_pf aT1 5 3 (.int)), (94, a_iw 4 3 (1)), (97, a_gt 4), (100, a_lda 0 1), (101, a_ldi 1 1)]
theorem p1_X5_readWord_4 {E : zM → Prop} (h : aH1 E) : aP0 (aΘ1 E) 0 tX5_readWord_4 a1_X5_readWord_4 := ⟨rfl, aok_b2 sd_or, rfl, aok_sti, rfl, aok_lda, rfl, aok_du, rfl, aok_gf, rfl, aok_pi rfl, rfl, aok_b2 sd_add, rfl, aok_pf h.1, rfl, aok_iw rfl, rfl, aok_gt, rfl, aok_lda, rfl, aok_ldi, trivial⟩
def a1_X5_readWord_5 : List (Nat × aF) := [(102, a_if c_eq c_ne 3 109), (105, a_pi (5) 1), (106, a_gt 110), (109, a_pi (1) 1), (110, a_pf aT1 5 4 (.int)), (113, a_lda 0 1), (114, a_ldi 2 1), (115, a_pf aT1 5 5 (.int)), (118, a_pi (0) 1), (119, a_sti 4 3 1), (120, a_ldi 3 1), (121, a_pi (26) 2)]
theorem p1_X5_readWord_5 {E : zM → Prop} (h : aH1 E) : aP0 (aΘ1 E) 0 tX5_readWord_5 a1_X5_readWord_5 := ⟨rfl, aok_if si_eq, rfl, aok_pi rfl, rfl, aok_gt, rfl, aok_pi rfl, rfl, aok_pf h.1, rfl, aok_lda, rfl, aok_ldi, rfl, aok_pf h.1, rfl, aok_pi rfl, rfl, aok_sti, rfl, aok_ldi, rfl, aok_pi rfl, trivial⟩
def a1_X5_readWord_6 : List (Nat × aF) := [(123, a_ic d_ge d_lt 3 160), (126, a_lda 0 1), (127, a_gf aT1 5 4 (.inl (-2147483648, 2147483647))), (130, a_pi (1) 1), (131, a_ic d_ne d_eq 3 160), (134, a_lda 0 1), (135, a_gf aT1 5 0 (.inr (some [28]))), (138, a_ldi 3 1), (139, a_al aT1 0 (-2147483648, 2147483647)), (140, a_ldi 2 1), (141, a_ic d_ne d_eq 3 154), (144, a_lda 0 1)]
theorem p1_X5_readWord_6 {E : zM → Prop} (h : aH1 E) : aP0 (aΘ1 E) 0 tX5_readWord_6 a1_X5_readWord_6 := ⟨rfl, aok_ic sj_ge, rfl, aok_lda, rfl, aok_gf, rfl, aok_pi rfl, rfl, aok_ic sj_ne, rfl, aok_lda, rfl, aok_gf, rfl, aok_ldi, rfl, aok_al, rfl, aok_ldi, rfl, aok_ic sj_ne, rfl, aok_lda, trivial⟩
def a1_X5_readWord_7 : List (Nat × aF) := [(145, a_pi (2) 1), (146, a_pf aT1 5 4 (.int)), (149, a_lda 0 1), (150, a_ldi 3 1), (151, a_pf aT1 5 5 (.int)), (154, a_iw 4 3 (1)), (157, a_gt 120), (160, a_rv)]
theorem p1_X5_readWord_7 {E : zM → Prop} (h : aH1 E) : aP0 (aΘ1 E) 0 tX5_readWord_7 a1_X5_readWord_7 := ⟨rfl, aok_pi rfl, rfl, aok_pf h.1, rfl, aok_lda, rfl, aok_ldi, rfl, aok_pf h.1, rfl, aok_iw rfl, rfl, aok_gt, rfl, aok_rv, trivial⟩
def b1_X5_readWord : aTb := [(20, a1_X5_readWord_0), (44, a1_X5_readWord_1), (65, a1_X5_readWord_2), (82, a1_X5_readWord_3), (102, a1_X5_readWord_4), (123, a1_X5_readWord_5), (145, a1_X5_readWord_6), (100000, a1_X5_readWord_7)]
theorem q1_X5_readWord {E : zM → Prop} (h : aH1 E) : aP1 (aΘ1 E) 0 tX5_readWord b1_X5_readWord := ⟨rfl, p1_X5_readWord_0 h, rfl, p1_X5_readWord_1 h, rfl, p1_X5_readWord_2 h, rfl, p1_X5_readWord_3 h, rfl, p1_X5_readWord_4 h, rfl, p1_X5_readWord_5 h, rfl, p1_X5_readWord_6 h, rfl, p1_X5_readWord_7 h, trivial⟩
def n1_X5_readWord : List aNd := [(4, [(0, .inr (some [27])), (1, .inl (0, 1)), (2, .inl (-2147483648, 2147483647)), (3, .inl (0, 6))], [(3, -1)], 34), (120, [(0, .inr (some [27])), (1, .inl (0, 1)), (2, .inl (-2147483648, 2147483647)), (3, .inl (0, 26))], [(3, -1)], 26)]
theorem k1_X5_readWord {E : zM → Prop} (h : aH1 E) : aCv (aΘ1 E) 1 c1_X5_readWord := aMeth (D := 0) (c := c1_X5_readWord) (tb := b1_X5_readWord) (ns := n1_X5_readWord) (fuel := 3000) rfl (q1_X5_readWord h) (by decide +kernel)
abbrev c1_X5_readNumber : aCt := (60, [.inr (some [27]), .inl (0, 1)], none)
def a1_X5_readNumber_0 : List (Nat × aF) := [(0, a_pi (0) 1), (1, a_sti 3 2 1), (2, a_lda 0 1), (3, a_gf aT1 5 3 (.inl (0, 1600))), (6, a_lda 0 1), (7, a_gf aT1 5 2 (.inl (0, 1600))), (10, a_ic d_ge d_lt 3 100), (13, a_lda 0 1), (14, a_gf aT1 5 1 (.inr (some [1]))), (17, a_lda 0 1), (18, a_gf aT1 5 3 (.inl (0, 1600))), (21, a_al aT1 0 (0, 255))]
theorem p1_X5_readNumber_0 {E : zM → Prop} (h : aH1 E) : aP0 (aΘ1 E) 0 tX5_readNumber_0 a1_X5_readNumber_0 := ⟨rfl, aok_pi rfl, rfl, aok_sti, rfl, aok_lda, rfl, aok_gf, rfl, aok_lda, rfl, aok_gf, rfl, aok_ic sj_ge, rfl, aok_lda, rfl, aok_gf, rfl, aok_lda, rfl, aok_gf, rfl, aok_al, trivial⟩
def a1_X5_readNumber_1 : List (Nat × aF) := [(22, a_pi (48) 2), (24, a_ic d_lt d_ge 3 100), (27, a_lda 0 1), (28, a_gf aT1 5 1 (.inr (some [1]))), (31, a_lda 0 1), (32, a_gf aT1 5 3 (.inl (0, 1600))), (35, a_al aT1 0 (0, 255)), (36, a_pi (57) 2), (38, a_ic d_gt d_le 3 100), (41, a_ldi 2 1), (42, a_pi (4) 1), (43, a_ic d_ne d_eq 3 60)]
theorem p1_X5_readNumber_1 {E : zM → Prop} (h : aH1 E) : aP0 (aΘ1 E) 0 tX5_readNumber_1 a1_X5_readNumber_1 := ⟨rfl, aok_pi rfl, rfl, aok_ic sj_lt, rfl, aok_lda, rfl, aok_gf, rfl, aok_lda, rfl, aok_gf, rfl, aok_al, rfl, aok_pi rfl, rfl, aok_ic sj_gt, rfl, aok_ldi, rfl, aok_pi rfl, rfl, aok_ic sj_ne, trivial⟩
def a1_X5_readNumber_2 : List (Nat × aF) := [(46, a_lda 0 1), (47, a_pi (5) 1), (48, a_pf aT1 5 4 (.int)), (51, a_lda 0 1), (52, a_lda 0 1), (53, a_gf aT1 5 3 (.inl (0, 1600))), (56, a_pf aT1 5 7 (.int)), (59, a_rv), (60, a_lda 0 1), (61, a_pi (10) 2), (63, a_lda 0 1), (64, a_gf aT1 5 5 (.inl (-2147483648, 2147483647)))]
theorem p1_X5_readNumber_2 {E : zM → Prop} (h : aH1 E) : aP0 (aΘ1 E) 0 tX5_readNumber_2 a1_X5_readNumber_2 := ⟨rfl, aok_lda, rfl, aok_pi rfl, rfl, aok_pf h.1, rfl, aok_lda, rfl, aok_lda, rfl, aok_gf, rfl, aok_pf h.1, rfl, aok_rv, rfl, aok_lda, rfl, aok_pi rfl, rfl, aok_lda, rfl, aok_gf, trivial⟩
def a1_X5_readNumber_3 : List (Nat × aF) := [(67, a_b2 g_mul), (68, a_lda 0 1), (69, a_gf aT1 5 1 (.inr (some [1]))), (72, a_lda 0 1), (73, a_gf aT1 5 3 (.inl (0, 1600))), (76, a_al aT1 0 (0, 255)), (77, a_b2 g_add), (78, a_pi (48) 2), (80, a_b2 g_sub), (81, a_pf aT1 5 5 (.int)), (84, a_lda 0 1), (85, a_du)]
theorem p1_X5_readNumber_3 {E : zM → Prop} (h : aH1 E) : aP0 (aΘ1 E) 0 tX5_readNumber_3 a1_X5_readNumber_3 := ⟨rfl, aok_b2 sd_mul, rfl, aok_lda, rfl, aok_gf, rfl, aok_lda, rfl, aok_gf, rfl, aok_al, rfl, aok_b2 sd_add, rfl, aok_pi rfl, rfl, aok_b2 sd_sub, rfl, aok_pf h.1, rfl, aok_lda, rfl, aok_du, trivial⟩
def a1_X5_readNumber_4 : List (Nat × aF) := [(86, a_gf aT1 5 3 (.inl (0, 1600))), (89, a_pi (1) 1), (90, a_b2 g_add), (91, a_pf aT1 5 3 (.int)), (94, a_iw 3 2 (1)), (97, a_gt 2), (100, a_lda 0 1), (101, a_ldi 1 1), (102, a_if c_eq c_ne 3 109), (105, a_pi (5) 1), (106, a_gt 110), (109, a_pi (3) 1)]
theorem p1_X5_readNumber_4 {E : zM → Prop} (h : aH1 E) : aP0 (aΘ1 E) 0 tX5_readNumber_4 a1_X5_readNumber_4 := ⟨rfl, aok_gf, rfl, aok_pi rfl, rfl, aok_b2 sd_add, rfl, aok_pf h.1, rfl, aok_iw rfl, rfl, aok_gt, rfl, aok_lda, rfl, aok_ldi, rfl, aok_if si_eq, rfl, aok_pi rfl, rfl, aok_gt, rfl, aok_pi rfl, trivial⟩
def a1_X5_readNumber_5 : List (Nat × aF) := [(110, a_pf aT1 5 4 (.int)), (113, a_rv)]
theorem p1_X5_readNumber_5 {E : zM → Prop} (h : aH1 E) : aP0 (aΘ1 E) 0 tX5_readNumber_5 a1_X5_readNumber_5 := ⟨rfl, aok_pf h.1, rfl, aok_rv, trivial⟩
def b1_X5_readNumber : aTb := [(22, a1_X5_readNumber_0), (46, a1_X5_readNumber_1), (67, a1_X5_readNumber_2), (86, a1_X5_readNumber_3), (110, a1_X5_readNumber_4), (100000, a1_X5_readNumber_5)]
theorem q1_X5_readNumber {E : zM → Prop} (h : aH1 E) : aP1 (aΘ1 E) 0 tX5_readNumber b1_X5_readNumber := ⟨rfl, p1_X5_readNumber_0 h, rfl, p1_X5_readNumber_1 h, rfl, p1_X5_readNumber_2 h, rfl, p1_X5_readNumber_3 h, rfl, p1_X5_readNumber_4 h, rfl, p1_X5_readNumber_5 h, trivial⟩
def n1_X5_readNumber : List aNd := [(2, [(0, .inr (some [27])), (1, .inl (0, 1)), (2, .inl (0, 4))], [(2, -1)], 4)]
theorem k1_X5_readNumber {E : zM → Prop} (h : aH1 E) : aCv (aΘ1 E) 1 c1_X5_readNumber := aMeth (D := 0) (c := c1_X5_readNumber) (tb := b1_X5_readNumber) (ns := n1_X5_readNumber) (fuel := 3000) rfl (q1_X5_readNumber h) (by decide +kernel)
abbrev c1_X5_advance : aCt := (58, [.inr (some [27])], none)
def a1_X5_advance_0 : List (Nat × aF) := [(0, a_lda 0 1), (1, a_gf aT1 5 4 (.inl (-2147483648, 2147483647))), (4, a_pi (1) 1), (5, a_ic d_eq d_ne 3 24), (8, a_lda 0 1), (9, a_gf aT1 5 4 (.inl (-2147483648, 2147483647))), (12, a_pi (2) 1), (13, a_ic d_eq d_ne 3 24), (16, a_lda 0 1), (17, a_gf aT1 5 4 (.inl (-2147483648, 2147483647))), (20, a_pi (3) 1), (21, a_ic d_ne d_eq 3 28)]
theorem p1_X5_advance_0 {E : zM → Prop} (h : aH1 E) : aP0 (aΘ1 E) 1 tX5_advance_0 a1_X5_advance_0 := ⟨rfl, aok_lda, rfl, aok_gf, rfl, aok_pi rfl, rfl, aok_ic sj_eq, rfl, aok_lda, rfl, aok_gf, rfl, aok_pi rfl, rfl, aok_ic sj_eq, rfl, aok_lda, rfl, aok_gf, rfl, aok_pi rfl, rfl, aok_ic sj_ne, trivial⟩
def a1_X5_advance_1 : List (Nat × aF) := [(24, a_pi (1) 1), (25, a_gt 29), (28, a_pi (0) 1), (29, a_sti 3 1 1), (30, a_lda 0 1), (31, a_gf aT1 5 3 (.inl (0, 1600))), (34, a_sti 3 2 1), (35, a_lda 0 1), (36, a_gf aT1 5 3 (.inl (0, 1600))), (39, a_lda 0 1), (40, a_gf aT1 5 2 (.inl (0, 1600))), (43, a_ic d_ge d_lt 3 87)]
theorem p1_X5_advance_1 {E : zM → Prop} (h : aH1 E) : aP0 (aΘ1 E) 1 tX5_advance_1 a1_X5_advance_1 := ⟨rfl, aok_pi rfl, rfl, aok_gt, rfl, aok_pi rfl, rfl, aok_sti, rfl, aok_lda, rfl, aok_gf, rfl, aok_sti, rfl, aok_lda, rfl, aok_gf, rfl, aok_lda, rfl, aok_gf, rfl, aok_ic sj_ge, trivial⟩
def a1_X5_advance_2 : List (Nat × aF) := [(46, a_lda 0 1), (47, a_gf aT1 5 1 (.inr (some [1]))), (50, a_lda 0 1), (51, a_gf aT1 5 3 (.inl (0, 1600))), (54, a_al aT1 0 (0, 255)), (55, a_pi (32) 2), (57, a_ic d_eq d_ne 3 74), (60, a_lda 0 1), (61, a_gf aT1 5 1 (.inr (some [1]))), (64, a_lda 0 1), (65, a_gf aT1 5 3 (.inl (0, 1600))), (68, a_al aT1 0 (0, 255))]
theorem p1_X5_advance_2 {E : zM → Prop} (h : aH1 E) : aP0 (aΘ1 E) 1 tX5_advance_2 a1_X5_advance_2 := ⟨rfl, aok_lda, rfl, aok_gf, rfl, aok_lda, rfl, aok_gf, rfl, aok_al, rfl, aok_pi rfl, rfl, aok_ic sj_eq, rfl, aok_lda, rfl, aok_gf, rfl, aok_lda, rfl, aok_gf, rfl, aok_al, trivial⟩
def a1_X5_advance_3 : List (Nat × aF) := [(69, a_pi (10) 2), (71, a_ic d_ne d_eq 3 87), (74, a_lda 0 1), (75, a_du), (76, a_gf aT1 5 3 (.inl (0, 1600))), (79, a_pi (1) 1), (80, a_adc), (81, a_pf aT1 5 3 (.int)), (84, a_gt 35), (87, a_lda 0 1), (88, a_lda 0 1), (89, a_gf aT1 5 3 (.inl (0, 1600)))]
theorem p1_X5_advance_3 {E : zM → Prop} (h : aH1 E) : aP0 (aΘ1 E) 1 tX5_advance_3 a1_X5_advance_3 := ⟨rfl, aok_pi rfl, rfl, aok_ic sj_ne, rfl, aok_lda, rfl, aok_du, rfl, aok_gf, rfl, aok_pi rfl, rfl, aok_adc, rfl, aok_pf h.1, rfl, aok_gt, rfl, aok_lda, rfl, aok_lda, rfl, aok_gf, trivial⟩
def a1_X5_advance_4 : List (Nat × aF) := [(92, a_pf aT1 5 6 (.int)), (95, a_lda 0 1), (96, a_lda 0 1), (97, a_gf aT1 5 3 (.inl (0, 1600))), (100, a_pf aT1 5 7 (.int)), (103, a_lda 0 1), (104, a_pi (0) 1), (105, a_pf aT1 5 5 (.int)), (108, a_lda 0 1), (109, a_gf aT1 5 3 (.inl (0, 1600))), (112, a_lda 0 1), (113, a_gf aT1 5 2 (.inl (0, 1600)))]
theorem p1_X5_advance_4 {E : zM → Prop} (h : aH1 E) : aP0 (aΘ1 E) 1 tX5_advance_4 a1_X5_advance_4 := ⟨rfl, aok_pf h.1, rfl, aok_lda, rfl, aok_lda, rfl, aok_gf, rfl, aok_pf h.1, rfl, aok_lda, rfl, aok_pi rfl, rfl, aok_pf h.1, rfl, aok_lda, rfl, aok_gf, rfl, aok_lda, rfl, aok_gf, trivial⟩
def a1_X5_advance_5 : List (Nat × aF) := [(116, a_ic d_lt d_ge 3 127), (119, a_lda 0 1), (120, a_pi (0) 1), (121, a_pf aT1 5 4 (.int)), (124, a_gt 259), (127, a_lda 0 1), (128, a_gf aT1 5 1 (.inr (some [1]))), (131, a_lda 0 1), (132, a_gf aT1 5 3 (.inl (0, 1600))), (135, a_al aT1 0 (0, 255)), (136, a_pi (97) 2), (138, a_ic d_lt d_ge 3 179)]
theorem p1_X5_advance_5 {E : zM → Prop} (h : aH1 E) : aP0 (aΘ1 E) 1 tX5_advance_5 a1_X5_advance_5 := ⟨rfl, aok_ic sj_lt, rfl, aok_lda, rfl, aok_pi rfl, rfl, aok_pf h.1, rfl, aok_gt, rfl, aok_lda, rfl, aok_gf, rfl, aok_lda, rfl, aok_gf, rfl, aok_al, rfl, aok_pi rfl, rfl, aok_ic sj_lt, trivial⟩
def a1_X5_advance_6 : List (Nat × aF) := [(141, a_lda 0 1), (142, a_gf aT1 5 1 (.inr (some [1]))), (145, a_lda 0 1), (146, a_gf aT1 5 3 (.inl (0, 1600))), (149, a_al aT1 0 (0, 255)), (150, a_pi (122) 2), (152, a_ic d_gt d_le 3 179), (155, a_lda 0 1), (156, a_ldi 1 1), (157, a_if c_eq c_ne 3 172), (160, a_lda 0 1), (161, a_gf aT1 5 3 (.inl (0, 1600)))]
theorem p1_X5_advance_6 {E : zM → Prop} (h : aH1 E) : aP0 (aΘ1 E) 1 tX5_advance_6 a1_X5_advance_6 := ⟨rfl, aok_lda, rfl, aok_gf, rfl, aok_lda, rfl, aok_gf, rfl, aok_al, rfl, aok_pi rfl, rfl, aok_ic sj_gt, rfl, aok_lda, rfl, aok_ldi, rfl, aok_if si_eq, rfl, aok_lda, rfl, aok_gf, trivial⟩
def a1_X5_advance_7 : List (Nat × aF) := [(164, a_ldi 2 1), (165, a_ic d_ne d_eq 3 172), (168, a_pi (1) 1), (169, a_gt 173), (172, a_pi (0) 1), (173, a_cv aT1 c1_X5_readWord 1 5), (176, a_gt 259), (179, a_lda 0 1), (180, a_gf aT1 5 1 (.inr (some [1]))), (183, a_lda 0 1), (184, a_gf aT1 5 3 (.inl (0, 1600))), (187, a_al aT1 0 (0, 255))]
theorem p1_X5_advance_7 {E : zM → Prop} (h : aH1 E) : aP0 (aΘ1 E) 1 tX5_advance_7 a1_X5_advance_7 := ⟨rfl, aok_ldi, rfl, aok_ic sj_ne, rfl, aok_pi rfl, rfl, aok_gt, rfl, aok_pi rfl, rfl, aok_cv (c := c1_X5_readWord) (D' := 1) (k1_X5_readWord h) (by decide), rfl, aok_gt, rfl, aok_lda, rfl, aok_gf, rfl, aok_lda, rfl, aok_gf, rfl, aok_al, trivial⟩
def a1_X5_advance_8 : List (Nat × aF) := [(188, a_pi (48) 2), (190, a_ic d_lt d_ge 3 231), (193, a_lda 0 1), (194, a_gf aT1 5 1 (.inr (some [1]))), (197, a_lda 0 1), (198, a_gf aT1 5 3 (.inl (0, 1600))), (201, a_al aT1 0 (0, 255)), (202, a_pi (57) 2), (204, a_ic d_gt d_le 3 231), (207, a_lda 0 1), (208, a_ldi 1 1), (209, a_if c_eq c_ne 3 224)]
theorem p1_X5_advance_8 {E : zM → Prop} (h : aH1 E) : aP0 (aΘ1 E) 1 tX5_advance_8 a1_X5_advance_8 := ⟨rfl, aok_pi rfl, rfl, aok_ic sj_lt, rfl, aok_lda, rfl, aok_gf, rfl, aok_lda, rfl, aok_gf, rfl, aok_al, rfl, aok_pi rfl, rfl, aok_ic sj_gt, rfl, aok_lda, rfl, aok_ldi, rfl, aok_if si_eq, trivial⟩
def a1_X5_advance_9 : List (Nat × aF) := [(212, a_lda 0 1), (213, a_gf aT1 5 3 (.inl (0, 1600))), (216, a_ldi 2 1), (217, a_ic d_ne d_eq 3 224), (220, a_pi (1) 1), (221, a_gt 225), (224, a_pi (0) 1), (225, a_cv aT1 c1_X5_readNumber 1 5), (228, a_gt 259), (231, a_lda 0 1), (232, a_pi (4) 1), (233, a_pf aT1 5 4 (.int))]
theorem p1_X5_advance_9 {E : zM → Prop} (h : aH1 E) : aP0 (aΘ1 E) 1 tX5_advance_9 a1_X5_advance_9 := ⟨rfl, aok_lda, rfl, aok_gf, rfl, aok_ldi, rfl, aok_ic sj_ne, rfl, aok_pi rfl, rfl, aok_gt, rfl, aok_pi rfl, rfl, aok_cv (c := c1_X5_readNumber) (D' := 1) (k1_X5_readNumber h) (by decide), rfl, aok_gt, rfl, aok_lda, rfl, aok_pi rfl, rfl, aok_pf h.1, trivial⟩
def a1_X5_advance_10 : List (Nat × aF) := [(236, a_lda 0 1), (237, a_lda 0 1), (238, a_gf aT1 5 1 (.inr (some [1]))), (241, a_lda 0 1), (242, a_gf aT1 5 3 (.inl (0, 1600))), (245, a_al aT1 0 (0, 255)), (246, a_pf aT1 5 5 (.int)), (249, a_lda 0 1), (250, a_du), (251, a_gf aT1 5 3 (.inl (0, 1600))), (254, a_pi (1) 1), (255, a_adc)]
theorem p1_X5_advance_10 {E : zM → Prop} (h : aH1 E) : aP0 (aΘ1 E) 1 tX5_advance_10 a1_X5_advance_10 := ⟨rfl, aok_lda, rfl, aok_lda, rfl, aok_gf, rfl, aok_lda, rfl, aok_gf, rfl, aok_al, rfl, aok_pf h.1, rfl, aok_lda, rfl, aok_du, rfl, aok_gf, rfl, aok_pi rfl, rfl, aok_adc, trivial⟩
def a1_X5_advance_11 : List (Nat × aF) := [(256, a_pf aT1 5 3 (.int)), (259, a_rv)]
theorem p1_X5_advance_11 {E : zM → Prop} (h : aH1 E) : aP0 (aΘ1 E) 1 tX5_advance_11 a1_X5_advance_11 := ⟨rfl, aok_pf h.1, rfl, aok_rv, trivial⟩
def b1_X5_advance : aTb := [(24, a1_X5_advance_0), (46, a1_X5_advance_1), (69, a1_X5_advance_2), (92, a1_X5_advance_3), (116, a1_X5_advance_4), (141, a1_X5_advance_5), (164, a1_X5_advance_6), (188, a1_X5_advance_7), (212, a1_X5_advance_8), (236, a1_X5_advance_9), (256, a1_X5_advance_10), (100000, a1_X5_advance_11)]
theorem q1_X5_advance {E : zM → Prop} (h : aH1 E) : aP1 (aΘ1 E) 1 tX5_advance b1_X5_advance := ⟨rfl, p1_X5_advance_0 h, rfl, p1_X5_advance_1 h, rfl, p1_X5_advance_2 h, rfl, p1_X5_advance_3 h, rfl, p1_X5_advance_4 h, rfl, p1_X5_advance_5 h, rfl, p1_X5_advance_6 h, rfl, p1_X5_advance_7 h, rfl, p1_X5_advance_8 h, rfl, p1_X5_advance_9 h, rfl, p1_X5_advance_10 h, rfl, p1_X5_advance_11 h, trivial⟩
theorem k1_X5_advance {E : zM → Prop} (h : aH1 E) : aCv (aΘ1 E) 2 c1_X5_advance := aMeth2 (D := 1) (c := c1_X5_advance) (tb := b1_X5_advance) (pc0 := 35) (k := 27) (i := 3) (ci := 5) (lo := 0) (hi := 1600) (ls := [(0, .inr (some [27])), (1, .inl (0, 1)), (2, .inl (0, 1600))]) (fuel := 3000) rfl (q1_X5_advance h) (show aGf aT1 5 3 (.inl (0, 1600)) 27 = true by decide +kernel) (by decide +kernel)
abbrev c1_X5_takesOwn : aCt := (64, [.inr (some [27]), .inl (0, 11)], some (.inl (0, 1)))
def a1_X5_takesOwn_0 : List (Nat × aF) := [(0, a_lda 0 1), (1, a_ldi 1 1), (2, a_cv aT1 c1_X5_isOwn 1 5), (5, a_if c_ne c_eq 3 18), (8, a_lda 0 1), (9, a_pi (1) 1), (10, a_lda 0 1), (11, a_gf aT1 5 7 (.inl (-2147483648, 2147483647))), (14, a_cv aT1 c1_X5_faults 2 5), (17, a_ri true), (18, a_lda 0 1), (19, a_cv aT1 c1_X5_advance 0 5)]
theorem p1_X5_takesOwn_0 {E : zM → Prop} (h : aH1 E) : aP0 (aΘ1 E) 2 tX5_takesOwn_0 a1_X5_takesOwn_0 := ⟨rfl, aok_lda, rfl, aok_ldi, rfl, aok_cv (c := c1_X5_isOwn) (D' := 1) (k1_X5_isOwn h) (by decide), rfl, aok_if si_ne, rfl, aok_lda, rfl, aok_pi rfl, rfl, aok_lda, rfl, aok_gf, rfl, aok_cv (c := c1_X5_faults) (D' := 1) (k1_X5_faults h) (by decide), rfl, aok_ri, rfl, aok_lda, rfl, aok_cv (c := c1_X5_advance) (D' := 2) (k1_X5_advance h) (by decide), trivial⟩
def a1_X5_takesOwn_1 : List (Nat × aF) := [(22, a_pi (1) 1), (23, a_ri true)]
theorem p1_X5_takesOwn_1 {E : zM → Prop} (h : aH1 E) : aP0 (aΘ1 E) 2 tX5_takesOwn_1 a1_X5_takesOwn_1 := ⟨rfl, aok_pi rfl, rfl, aok_ri, trivial⟩
def b1_X5_takesOwn : aTb := [(22, a1_X5_takesOwn_0), (100000, a1_X5_takesOwn_1)]
theorem q1_X5_takesOwn {E : zM → Prop} (h : aH1 E) : aP1 (aΘ1 E) 2 tX5_takesOwn b1_X5_takesOwn := ⟨rfl, p1_X5_takesOwn_0 h, rfl, p1_X5_takesOwn_1 h, trivial⟩
def n1_X5_takesOwn : List aNd := []
theorem k1_X5_takesOwn {E : zM → Prop} (h : aH1 E) : aCv (aΘ1 E) 3 c1_X5_takesOwn := aMeth (D := 2) (c := c1_X5_takesOwn) (tb := b1_X5_takesOwn) (ns := n1_X5_takesOwn) (fuel := 3000) rfl (q1_X5_takesOwn h) (by decide +kernel)
abbrev c1_X5_takesNumber : aCt := (67, [.inr (some [27]), .inl (0, 3), .inl (-2147483648, 2147483647)], some (.inl (0, 1)))
def a1_X5_takesNumber_0 : List (Nat × aF) := [(0, a_lda 0 1), (1, a_gf aT1 5 4 (.inl (-2147483648, 2147483647))), (4, a_pi (3) 1), (5, a_ic d_eq d_ne 3 18), (8, a_lda 0 1), (9, a_pi (1) 1), (10, a_lda 0 1), (11, a_gf aT1 5 7 (.inl (-2147483648, 2147483647))), (14, a_cv aT1 c1_X5_faults 2 5), (17, a_ri true), (18, a_lda 0 1), (19, a_gf aT1 5 5 (.inl (-2147483648, 2147483647)))]
theorem p1_X5_takesNumber_0 {E : zM → Prop} (h : aH1 E) : aP0 (aΘ1 E) 2 tX5_takesNumber_0 a1_X5_takesNumber_0 := ⟨rfl, aok_lda, rfl, aok_gf, rfl, aok_pi rfl, rfl, aok_ic sj_eq, rfl, aok_lda, rfl, aok_pi rfl, rfl, aok_lda, rfl, aok_gf, rfl, aok_cv (c := c1_X5_faults) (D' := 1) (k1_X5_faults h) (by decide), rfl, aok_ri, rfl, aok_lda, rfl, aok_gf, trivial⟩
def a1_X5_takesNumber_1 : List (Nat × aF) := [(22, a_ldi 1 1), (23, a_ic d_lt d_ge 3 34), (26, a_lda 0 1), (27, a_gf aT1 5 5 (.inl (-2147483648, 2147483647))), (30, a_ldi 2 1), (31, a_ic d_le d_gt 3 44), (34, a_lda 0 1), (35, a_pi (4) 1), (36, a_lda 0 1), (37, a_gf aT1 5 7 (.inl (-2147483648, 2147483647))), (40, a_cv aT1 c1_X5_faults 2 5), (43, a_ri true)]
theorem p1_X5_takesNumber_1 {E : zM → Prop} (h : aH1 E) : aP0 (aΘ1 E) 2 tX5_takesNumber_1 a1_X5_takesNumber_1 := ⟨rfl, aok_ldi, rfl, aok_ic sj_lt, rfl, aok_lda, rfl, aok_gf, rfl, aok_ldi, rfl, aok_ic sj_le, rfl, aok_lda, rfl, aok_pi rfl, rfl, aok_lda, rfl, aok_gf, rfl, aok_cv (c := c1_X5_faults) (D' := 1) (k1_X5_faults h) (by decide), rfl, aok_ri, trivial⟩
def a1_X5_takesNumber_2 : List (Nat × aF) := [(44, a_lda 0 1), (45, a_lda 0 1), (46, a_gf aT1 5 5 (.inl (-2147483648, 2147483647))), (49, a_pf aT1 5 8 (.int)), (52, a_lda 0 1), (53, a_lda 0 1), (54, a_gf aT1 5 7 (.inl (-2147483648, 2147483647))), (57, a_pf aT1 5 9 (.int)), (60, a_lda 0 1), (61, a_cv aT1 c1_X5_advance 0 5), (64, a_pi (1) 1), (65, a_ri true)]
theorem p1_X5_takesNumber_2 {E : zM → Prop} (h : aH1 E) : aP0 (aΘ1 E) 2 tX5_takesNumber_2 a1_X5_takesNumber_2 := ⟨rfl, aok_lda, rfl, aok_lda, rfl, aok_gf, rfl, aok_pf h.1, rfl, aok_lda, rfl, aok_lda, rfl, aok_gf, rfl, aok_pf h.1, rfl, aok_lda, rfl, aok_cv (c := c1_X5_advance) (D' := 2) (k1_X5_advance h) (by decide), rfl, aok_pi rfl, rfl, aok_ri, trivial⟩
def b1_X5_takesNumber : aTb := [(22, a1_X5_takesNumber_0), (44, a1_X5_takesNumber_1), (100000, a1_X5_takesNumber_2)]
theorem q1_X5_takesNumber {E : zM → Prop} (h : aH1 E) : aP1 (aΘ1 E) 2 tX5_takesNumber b1_X5_takesNumber := ⟨rfl, p1_X5_takesNumber_0 h, rfl, p1_X5_takesNumber_1 h, rfl, p1_X5_takesNumber_2 h, trivial⟩
def n1_X5_takesNumber : List aNd := []
theorem k1_X5_takesNumber {E : zM → Prop} (h : aH1 E) : aCv (aΘ1 E) 3 c1_X5_takesNumber := aMeth (D := 2) (c := c1_X5_takesNumber) (tb := b1_X5_takesNumber) (ns := n1_X5_takesNumber) (fuel := 3000) rfl (q1_X5_takesNumber h) (by decide +kernel)
abbrev c1_X4_setSize : aCt := (52, [.inr (some [2, 14]), .inl (-2147483648, 2147483647), .inl (-2147483648, 2147483647)], none)
def a1_X4_setSize_0 : List (Nat × aF) := [(0, a_lda 0 1), (1, a_ldi 1 1), (2, a_pf aT1 4 1 (.int)), (5, a_lda 0 1), (6, a_ldi 2 1), (7, a_pf aT1 4 2 (.int)), (10, a_lda 0 1), (11, a_pl 1), (12, a_pf aT1 4 5 (.long)), (15, a_pi (0) 1), (16, a_sti 4 3 1), (17, a_ldi 3 1)]
theorem p1_X4_setSize_0 {E : zM → Prop} (h : aH1 E) : aP0 (aΘ1 E) 0 tX4_setSize_0 a1_X4_setSize_0 := ⟨rfl, aok_lda, rfl, aok_ldi, rfl, aok_pf h.1, rfl, aok_lda, rfl, aok_ldi, rfl, aok_pf h.1, rfl, aok_lda, rfl, aok_pl, rfl, aok_pf h.1, rfl, aok_pi rfl, rfl, aok_sti, rfl, aok_ldi, trivial⟩
def a1_X4_setSize_1 : List (Nat × aF) := [(18, a_lda 0 1), (19, a_gf aT1 4 2 (.inl (-2147483648, 2147483647))), (22, a_ic d_ge d_lt 3 53), (25, a_lda 0 1), (26, a_du), (27, a_gf aT1 4 5 (.inr none)), (30, a_pl 1), (31, a_lda 0 1), (32, a_gf aT1 4 1 (.inl (-2147483648, 2147483647))), (35, a_ls), (36, a_pl 1), (37, a_l2)]
theorem p1_X4_setSize_1 {E : zM → Prop} (h : aH1 E) : aP0 (aΘ1 E) 0 tX4_setSize_1 a1_X4_setSize_1 := ⟨rfl, aok_lda, rfl, aok_gf, rfl, aok_ic sj_ge, rfl, aok_lda, rfl, aok_du, rfl, aok_gf, rfl, aok_pl, rfl, aok_lda, rfl, aok_gf, rfl, aok_ls, rfl, aok_pl, rfl, aok_l2, trivial⟩
def a1_X4_setSize_2 : List (Nat × aF) := [(38, a_pi (8) 2), (40, a_ldi 3 1), (41, a_b2 g_mul), (42, a_ls), (43, a_l2), (44, a_pf aT1 4 5 (.long)), (47, a_iw 4 3 (1)), (50, a_gt 17), (53, a_rv)]
theorem p1_X4_setSize_2 {E : zM → Prop} (h : aH1 E) : aP0 (aΘ1 E) 0 tX4_setSize_2 a1_X4_setSize_2 := ⟨rfl, aok_pi rfl, rfl, aok_ldi, rfl, aok_b2 sd_mul, rfl, aok_ls, rfl, aok_l2, rfl, aok_pf h.1, rfl, aok_iw rfl, rfl, aok_gt, rfl, aok_rv, trivial⟩
def b1_X4_setSize : aTb := [(18, a1_X4_setSize_0), (38, a1_X4_setSize_1), (100000, a1_X4_setSize_2)]
theorem q1_X4_setSize {E : zM → Prop} (h : aH1 E) : aP1 (aΘ1 E) 0 tX4_setSize b1_X4_setSize := ⟨rfl, p1_X4_setSize_0 h, rfl, p1_X4_setSize_1 h, rfl, p1_X4_setSize_2 h, trivial⟩
def n1_X4_setSize : List aNd := [(17, [(0, .inr (some [2, 14])), (1, .inl (-2147483648, 2147483647)), (2, .inl (-2147483648, 2147483647)), (3, .inl (0, 2147483647))], [(3, -1)], 2147483647)]
theorem k1_X4_setSize {E : zM → Prop} (h : aH1 E) : aCv (aΘ1 E) 1 c1_X4_setSize := aMeth (D := 0) (c := c1_X4_setSize) (tb := b1_X4_setSize) (ns := n1_X4_setSize) (fuel := 3000) rfl (q1_X4_setSize h) (by decide +kernel)
abbrev c1_X9_takesSize : aCt := (87, [.inr (some [26])], some (.inl (0, 1)))
def a1_X9_takesSize_0 : List (Nat × aF) := [(0, a_lda 0 1), (1, a_gf aT1 9 0 (.inr (some [27]))), (4, a_pi (0) 1), (5, a_cv aT1 c1_X5_takesOwn 1 5), (8, a_if c_eq c_ne 3 24), (11, a_lda 0 1), (12, a_gf aT1 9 0 (.inr (some [27]))), (15, a_pi (3) 1), (16, a_pi (7) 2), (18, a_cv aT1 c1_X5_takesNumber 2 5), (21, a_if c_ne c_eq 3 26), (24, a_pi (0) 1)]
theorem p1_X9_takesSize_0 {E : zM → Prop} (h : aH1 E) : aP0 (aΘ1 E) 3 tX9_takesSize_0 a1_X9_takesSize_0 := ⟨rfl, aok_lda, rfl, aok_gf, rfl, aok_pi rfl, rfl, aok_cv (c := c1_X5_takesOwn) (D' := 3) (k1_X5_takesOwn h) (by decide), rfl, aok_if si_eq, rfl, aok_lda, rfl, aok_gf, rfl, aok_pi rfl, rfl, aok_pi rfl, rfl, aok_cv (c := c1_X5_takesNumber) (D' := 3) (k1_X5_takesNumber h) (by decide), rfl, aok_if si_ne, rfl, aok_pi rfl, trivial⟩
def a1_X9_takesSize_1 : List (Nat × aF) := [(25, a_ri true), (26, a_lda 0 1), (27, a_gf aT1 9 0 (.inr (some [27]))), (30, a_gf aT1 5 8 (.inl (-2147483648, 2147483647))), (33, a_sti 2 1 1), (34, a_lda 0 1), (35, a_gf aT1 9 0 (.inr (some [27]))), (38, a_pi (1) 1), (39, a_cv aT1 c1_X5_takesOwn 1 5), (42, a_if c_eq c_ne 3 58), (45, a_lda 0 1), (46, a_gf aT1 9 0 (.inr (some [27])))]
theorem p1_X9_takesSize_1 {E : zM → Prop} (h : aH1 E) : aP0 (aΘ1 E) 3 tX9_takesSize_1 a1_X9_takesSize_1 := ⟨rfl, aok_ri, rfl, aok_lda, rfl, aok_gf, rfl, aok_gf, rfl, aok_sti, rfl, aok_lda, rfl, aok_gf, rfl, aok_pi rfl, rfl, aok_cv (c := c1_X5_takesOwn) (D' := 3) (k1_X5_takesOwn h) (by decide), rfl, aok_if si_eq, rfl, aok_lda, rfl, aok_gf, trivial⟩
def a1_X9_takesSize_2 : List (Nat × aF) := [(49, a_pi (3) 1), (50, a_pi (7) 2), (52, a_cv aT1 c1_X5_takesNumber 2 5), (55, a_if c_ne c_eq 3 60), (58, a_pi (0) 1), (59, a_ri true), (60, a_lda 0 1), (61, a_gf aT1 9 2 (.inr (some [2, 14]))), (64, a_ldi 1 1), (65, a_lda 0 1), (66, a_gf aT1 9 0 (.inr (some [27]))), (69, a_gf aT1 5 8 (.inl (-2147483648, 2147483647)))]
theorem p1_X9_takesSize_2 {E : zM → Prop} (h : aH1 E) : aP0 (aΘ1 E) 3 tX9_takesSize_2 a1_X9_takesSize_2 := ⟨rfl, aok_pi rfl, rfl, aok_pi rfl, rfl, aok_cv (c := c1_X5_takesNumber) (D' := 3) (k1_X5_takesNumber h) (by decide), rfl, aok_if si_ne, rfl, aok_pi rfl, rfl, aok_ri, rfl, aok_lda, rfl, aok_gf, rfl, aok_ldi, rfl, aok_lda, rfl, aok_gf, rfl, aok_gf, trivial⟩
def a1_X9_takesSize_3 : List (Nat × aF) := [(72, a_cv aT1 c1_X4_setSize 2 4), (75, a_pi (1) 1), (76, a_ri true)]
theorem p1_X9_takesSize_3 {E : zM → Prop} (h : aH1 E) : aP0 (aΘ1 E) 3 tX9_takesSize_3 a1_X9_takesSize_3 := ⟨rfl, aok_cv (c := c1_X4_setSize) (D' := 1) (k1_X4_setSize h) (by decide), rfl, aok_pi rfl, rfl, aok_ri, trivial⟩
def b1_X9_takesSize : aTb := [(25, a1_X9_takesSize_0), (49, a1_X9_takesSize_1), (72, a1_X9_takesSize_2), (100000, a1_X9_takesSize_3)]
theorem q1_X9_takesSize {E : zM → Prop} (h : aH1 E) : aP1 (aΘ1 E) 3 tX9_takesSize b1_X9_takesSize := ⟨rfl, p1_X9_takesSize_0 h, rfl, p1_X9_takesSize_1 h, rfl, p1_X9_takesSize_2 h, rfl, p1_X9_takesSize_3 h, trivial⟩
def n1_X9_takesSize : List aNd := []
theorem k1_X9_takesSize {E : zM → Prop} (h : aH1 E) : aCv (aΘ1 E) 4 c1_X9_takesSize := aMeth (D := 3) (c := c1_X9_takesSize) (tb := b1_X9_takesSize) (ns := n1_X9_takesSize) (fuel := 3000) rfl (q1_X9_takesSize h) (by decide +kernel)
abbrev c1_X7_isTold : aCt := (75, [.inr (some [10, 22]), .inl (0, 2)], some (.inl (0, 1)))
def a1_X7_isTold_0 : List (Nat × aF) := [(0, a_lda 0 1), (1, a_gf aT1 7 2 (.inr (some [13, 25]))), (4, a_ldi 1 1), (5, a_al aT1 0 (0, 1600)), (6, a_lda 0 1), (7, a_gf aT1 7 1 (.inr (some [12, 24]))), (10, a_ldi 1 1), (11, a_al aT1 0 (0, 1600)), (12, a_ic d_le d_gt 3 19), (15, a_pi (1) 1), (16, a_gt 20), (19, a_pi (0) 1)]
theorem p1_X7_isTold_0 {E : zM → Prop} (h : aH1 E) : aP0 (aΘ1 E) 0 tX7_isTold_0 a1_X7_isTold_0 := ⟨rfl, aok_lda, rfl, aok_gf, rfl, aok_ldi, rfl, aok_al, rfl, aok_lda, rfl, aok_gf, rfl, aok_ldi, rfl, aok_al, rfl, aok_ic sj_le, rfl, aok_pi rfl, rfl, aok_gt, rfl, aok_pi rfl, trivial⟩
def a1_X7_isTold_1 : List (Nat × aF) := [(20, a_ri true)]
theorem p1_X7_isTold_1 {E : zM → Prop} (h : aH1 E) : aP0 (aΘ1 E) 0 tX7_isTold_1 a1_X7_isTold_1 := ⟨rfl, aok_ri, trivial⟩
def b1_X7_isTold : aTb := [(20, a1_X7_isTold_0), (100000, a1_X7_isTold_1)]
theorem q1_X7_isTold {E : zM → Prop} (h : aH1 E) : aP1 (aΘ1 E) 0 tX7_isTold b1_X7_isTold := ⟨rfl, p1_X7_isTold_0 h, rfl, p1_X7_isTold_1 h, trivial⟩
def n1_X7_isTold : List aNd := []
theorem k1_X7_isTold {E : zM → Prop} (h : aH1 E) : aCv (aΘ1 E) 1 c1_X7_isTold := aMeth (D := 0) (c := c1_X7_isTold) (tb := b1_X7_isTold) (ns := n1_X7_isTold) (fuel := 3000) rfl (q1_X7_isTold h) (by decide +kernel)
abbrev c1_X10_begin : aCt := (99, [.inr (some [30]), .inr (some [10, 22]), .inl (0, 2)], none)
def a1_X10_begin_0 : List (Nat × aF) := [(0, a_lda 0 1), (1, a_lda 1 1), (2, a_pf aT1 10 1 (.object "MissingLamps$Rules")), (5, a_lda 0 1), (6, a_ldi 2 1), (7, a_pf aT1 10 2 (.int)), (10, a_rv)]
theorem p1_X10_begin_0 {E : zM → Prop} (h : aH1 E) : aP0 (aΘ1 E) 0 tX10_begin_0 a1_X10_begin_0 := ⟨rfl, aok_lda, rfl, aok_lda, rfl, aok_pf h.1, rfl, aok_lda, rfl, aok_ldi, rfl, aok_pf h.1, rfl, aok_rv, trivial⟩
def b1_X10_begin : aTb := [(100000, a1_X10_begin_0)]
theorem q1_X10_begin {E : zM → Prop} (h : aH1 E) : aP1 (aΘ1 E) 0 tX10_begin b1_X10_begin := ⟨rfl, p1_X10_begin_0 h, trivial⟩
def n1_X10_begin : List aNd := []
theorem k1_X10_begin {E : zM → Prop} (h : aH1 E) : aCv (aΘ1 E) 1 c1_X10_begin := aMeth (D := 0) (c := c1_X10_begin) (tb := b1_X10_begin) (ns := n1_X10_begin) (fuel := 3000) rfl (q1_X10_begin h) (by decide +kernel)
abbrev c1_X7_begin : aCt := (76, [.inr (some [10, 22]), .inl (0, 2)], none)
def a1_X7_begin_0 : List (Nat × aF) := [(0, a_lda 0 1), (1, a_gf aT1 7 1 (.inr (some [12, 24]))), (4, a_ldi 1 1), (5, a_lda 0 1), (6, a_gf aT1 7 3 (.inl (0, 1600))), (9, a_as aT1 0), (10, a_rv)]
theorem p1_X7_begin_0 {E : zM → Prop} (h : aH1 E) : aP0 (aΘ1 E) 0 tX7_begin_0 a1_X7_begin_0 := ⟨rfl, aok_lda, rfl, aok_gf, rfl, aok_ldi, rfl, aok_lda, rfl, aok_gf, rfl, aok_as h.1, rfl, aok_rv, trivial⟩
def b1_X7_begin : aTb := [(100000, a1_X7_begin_0)]
theorem q1_X7_begin {E : zM → Prop} (h : aH1 E) : aP1 (aΘ1 E) 0 tX7_begin b1_X7_begin := ⟨rfl, p1_X7_begin_0 h, trivial⟩
def n1_X7_begin : List aNd := []
theorem k1_X7_begin {E : zM → Prop} (h : aH1 E) : aCv (aΘ1 E) 1 c1_X7_begin := aMeth (D := 0) (c := c1_X7_begin) (tb := b1_X7_begin) (ns := n1_X7_begin) (fuel := 3000) rfl (q1_X7_begin h) (by decide +kernel)
abbrev c1_X7_put : aCt := (78, [.inr (some [10, 22]), .inl (-2147483648, 2147483647)], some (.inl (1, 1)))
def a1_X7_put_0 : List (Nat × aF) := [(0, a_lds 0 1), (1, a_gf aT1 7 3 (.inl (0, 1600))), (4, a_lda 0 1), (5, a_gf aT1 7 0 (.inr (some [11, 23]))), (8, a_len aT1 0 1600), (9, a_ic d_ge d_lt 3 32), (12, a_lda 0 1), (13, a_gf aT1 7 0 (.inr (some [11, 23]))), (16, a_lda 0 1), (17, a_gf aT1 7 3 (.inl (0, 1600))), (20, a_ldi 1 1), (21, a_as aT1 0)]
theorem p1_X7_put_0 {E : zM → Prop} (h : aH1 E) : aP0 (aΘ1 E) 0 tX7_put_0 a1_X7_put_0 := ⟨rfl, aok_lds, rfl, aok_gf, rfl, aok_lda, rfl, aok_gf, rfl, aok_len, rfl, aok_ic sj_ge, rfl, aok_lda, rfl, aok_gf, rfl, aok_lda, rfl, aok_gf, rfl, aok_ldi, rfl, aok_as h.1, trivial⟩
def a1_X7_put_1 : List (Nat × aF) := [(22, a_lda 0 1), (23, a_du), (24, a_gf aT1 7 3 (.inl (0, 1600))), (27, a_pi (1) 1), (28, a_b2 g_add), (29, a_pf aT1 7 3 (.int)), (32, a_pi (1) 1), (33, a_ri true)]
theorem p1_X7_put_1 {E : zM → Prop} (h : aH1 E) : aP0 (aΘ1 E) 0 tX7_put_1 a1_X7_put_1 := ⟨rfl, aok_lda, rfl, aok_du, rfl, aok_gf, rfl, aok_pi rfl, rfl, aok_b2 sd_add, rfl, aok_pf h.1, rfl, aok_pi rfl, rfl, aok_ri, trivial⟩
def b1_X7_put : aTb := [(22, a1_X7_put_0), (100000, a1_X7_put_1)]
theorem q1_X7_put {E : zM → Prop} (h : aH1 E) : aP1 (aΘ1 E) 0 tX7_put b1_X7_put := ⟨rfl, p1_X7_put_0 h, rfl, p1_X7_put_1 h, trivial⟩
def n1_X7_put : List aNd := []
theorem k1_X7_put {E : zM → Prop} (h : aH1 E) : aCv (aΘ1 E) 1 c1_X7_put := aMeth (D := 0) (c := c1_X7_put) (tb := b1_X7_put) (ns := n1_X7_put) (fuel := 3000) rfl (q1_X7_put h) (by decide +kernel)
abbrev c1_X5_isSign : aCt := (62, [.inr (some [27]), .inl (37, 93)], some (.inl (0, 1)))
def a1_X5_isSign_0 : List (Nat × aF) := [(0, a_lda 0 1), (1, a_gf aT1 5 4 (.inl (-2147483648, 2147483647))), (4, a_pi (4) 1), (5, a_ic d_ne d_eq 3 20), (8, a_lda 0 1), (9, a_gf aT1 5 5 (.inl (-2147483648, 2147483647))), (12, a_ldi 1 1), (13, a_ic d_ne d_eq 3 20), (16, a_pi (1) 1), (17, a_gt 21), (20, a_pi (0) 1), (21, a_ri true)]
theorem p1_X5_isSign_0 {E : zM → Prop} (h : aH1 E) : aP0 (aΘ1 E) 0 tX5_isSign_0 a1_X5_isSign_0 := ⟨rfl, aok_lda, rfl, aok_gf, rfl, aok_pi rfl, rfl, aok_ic sj_ne, rfl, aok_lda, rfl, aok_gf, rfl, aok_ldi, rfl, aok_ic sj_ne, rfl, aok_pi rfl, rfl, aok_gt, rfl, aok_pi rfl, rfl, aok_ri, trivial⟩
def b1_X5_isSign : aTb := [(100000, a1_X5_isSign_0)]
theorem q1_X5_isSign {E : zM → Prop} (h : aH1 E) : aP1 (aΘ1 E) 0 tX5_isSign b1_X5_isSign := ⟨rfl, p1_X5_isSign_0 h, trivial⟩
def n1_X5_isSign : List aNd := []
theorem k1_X5_isSign {E : zM → Prop} (h : aH1 E) : aCv (aΘ1 E) 1 c1_X5_isSign := aMeth (D := 0) (c := c1_X5_isSign) (tb := b1_X5_isSign) (ns := n1_X5_isSign) (fuel := 3000) rfl (q1_X5_isSign h) (by decide +kernel)
abbrev c1_X10_opens_0 : aCt := (110, [.inr (some [30]), .inl (0, 0), .inl (0, 1)], some (.inl (0, 1)))
def a1_X10_opens_0_0 : List (Nat × aF) := [(0, a_ldi 2 1), (1, a_if c_ne c_eq 3 20), (4, a_lda 0 1), (5, a_gf aT1 10 0 (.inr (some [27]))), (8, a_pi (1) 1), (9, a_lda 0 1), (10, a_gf aT1 10 0 (.inr (some [27]))), (13, a_gf aT1 5 7 (.inl (-2147483648, 2147483647))), (16, a_cv aT1 c1_X5_faults 2 5), (19, a_ri true), (20, a_ldi 1 1), (21, a_pi (7) 2)]
theorem p1_X10_opens_0_0 {E : zM → Prop} (h : aH1 E) : aP0 (aΘ1 E) 2 tX10_opens_0 a1_X10_opens_0_0 := ⟨rfl, aok_ldi, rfl, aok_if si_ne, rfl, aok_lda, rfl, aok_gf, rfl, aok_pi rfl, rfl, aok_lda, rfl, aok_gf, rfl, aok_gf, rfl, aok_cv (c := c1_X5_faults) (D' := 1) (k1_X5_faults h) (by decide), rfl, aok_ri, rfl, aok_ldi, rfl, aok_pi rfl, trivial⟩
def a1_X10_opens_0_1 : List (Nat × aF) := [(23, a_ic d_lt d_ge 3 42), (26, a_lda 0 1), (27, a_no), (30, a_pi (5) 1), (31, a_lda 0 1), (32, a_no), (35, a_no), (38, a_no), (41, a_ri true), (42, a_lda 0 1), (43, a_gf aT1 10 0 (.inr (some [27]))), (46, a_cv aT1 c1_X5_advance 0 5)]
theorem p1_X10_opens_0_1 {E : zM → Prop} (h : aH1 E) : aP0 (aΘ1 E) 2 tX10_opens_1 a1_X10_opens_0_1 := ⟨rfl, aok_ic sj_lt, rfl, aok_lda, rfl, aok_no, rfl, aok_pi rfl, rfl, aok_lda, rfl, aok_no, rfl, aok_no, rfl, aok_no, rfl, aok_ri, rfl, aok_lda, rfl, aok_gf, rfl, aok_cv (c := c1_X5_advance) (D' := 2) (k1_X5_advance h) (by decide), trivial⟩
def a1_X10_opens_0_2 : List (Nat × aF) := [(49, a_pi (1) 1), (50, a_ri true)]
theorem p1_X10_opens_0_2 {E : zM → Prop} (h : aH1 E) : aP0 (aΘ1 E) 2 tX10_opens_2 a1_X10_opens_0_2 := ⟨rfl, aok_pi rfl, rfl, aok_ri, trivial⟩
def b1_X10_opens_0 : aTb := [(23, a1_X10_opens_0_0), (49, a1_X10_opens_0_1), (100000, a1_X10_opens_0_2)]
theorem q1_X10_opens_0 {E : zM → Prop} (h : aH1 E) : aP1 (aΘ1 E) 2 tX10_opens b1_X10_opens_0 := ⟨rfl, p1_X10_opens_0_0 h, rfl, p1_X10_opens_0_1 h, rfl, p1_X10_opens_0_2 h, trivial⟩
def n1_X10_opens_0 : List aNd := []
theorem k1_X10_opens_0 {E : zM → Prop} (h : aH1 E) : aCv (aΘ1 E) 3 c1_X10_opens_0 := aMeth (D := 2) (c := c1_X10_opens_0) (tb := b1_X10_opens_0) (ns := n1_X10_opens_0) (fuel := 3000) rfl (q1_X10_opens_0 h) (by decide +kernel)
abbrev c1_X10_opens_1 : aCt := (110, [.inr (some [30]), .inl (1, 1), .inl (0, 1)], some (.inl (0, 1)))
def a1_X10_opens_1_0 : List (Nat × aF) := [(0, a_ldi 2 1), (1, a_if c_ne c_eq 3 20), (4, a_lda 0 1), (5, a_gf aT1 10 0 (.inr (some [27]))), (8, a_pi (1) 1), (9, a_lda 0 1), (10, a_gf aT1 10 0 (.inr (some [27]))), (13, a_gf aT1 5 7 (.inl (-2147483648, 2147483647))), (16, a_cv aT1 c1_X5_faults 2 5), (19, a_ri true), (20, a_ldi 1 1), (21, a_pi (7) 2)]
theorem p1_X10_opens_1_0 {E : zM → Prop} (h : aH1 E) : aP0 (aΘ1 E) 2 tX10_opens_0 a1_X10_opens_1_0 := ⟨rfl, aok_ldi, rfl, aok_if si_ne, rfl, aok_lda, rfl, aok_gf, rfl, aok_pi rfl, rfl, aok_lda, rfl, aok_gf, rfl, aok_gf, rfl, aok_cv (c := c1_X5_faults) (D' := 1) (k1_X5_faults h) (by decide), rfl, aok_ri, rfl, aok_ldi, rfl, aok_pi rfl, trivial⟩
def a1_X10_opens_1_1 : List (Nat × aF) := [(23, a_ic d_lt d_ge 3 42), (26, a_lda 0 1), (27, a_no), (30, a_pi (5) 1), (31, a_lda 0 1), (32, a_no), (35, a_no), (38, a_no), (41, a_ri true), (42, a_lda 0 1), (43, a_gf aT1 10 0 (.inr (some [27]))), (46, a_cv aT1 c1_X5_advance 0 5)]
theorem p1_X10_opens_1_1 {E : zM → Prop} (h : aH1 E) : aP0 (aΘ1 E) 2 tX10_opens_1 a1_X10_opens_1_1 := ⟨rfl, aok_ic sj_lt, rfl, aok_lda, rfl, aok_no, rfl, aok_pi rfl, rfl, aok_lda, rfl, aok_no, rfl, aok_no, rfl, aok_no, rfl, aok_ri, rfl, aok_lda, rfl, aok_gf, rfl, aok_cv (c := c1_X5_advance) (D' := 2) (k1_X5_advance h) (by decide), trivial⟩
def a1_X10_opens_1_2 : List (Nat × aF) := [(49, a_pi (1) 1), (50, a_ri true)]
theorem p1_X10_opens_1_2 {E : zM → Prop} (h : aH1 E) : aP0 (aΘ1 E) 2 tX10_opens_2 a1_X10_opens_1_2 := ⟨rfl, aok_pi rfl, rfl, aok_ri, trivial⟩
def b1_X10_opens_1 : aTb := [(23, a1_X10_opens_1_0), (49, a1_X10_opens_1_1), (100000, a1_X10_opens_1_2)]
theorem q1_X10_opens_1 {E : zM → Prop} (h : aH1 E) : aP1 (aΘ1 E) 2 tX10_opens b1_X10_opens_1 := ⟨rfl, p1_X10_opens_1_0 h, rfl, p1_X10_opens_1_1 h, rfl, p1_X10_opens_1_2 h, trivial⟩
def n1_X10_opens_1 : List aNd := []
theorem k1_X10_opens_1 {E : zM → Prop} (h : aH1 E) : aCv (aΘ1 E) 3 c1_X10_opens_1 := aMeth (D := 2) (c := c1_X10_opens_1) (tb := b1_X10_opens_1) (ns := n1_X10_opens_1) (fuel := 3000) rfl (q1_X10_opens_1 h) (by decide +kernel)
abbrev c1_X10_opens_2 : aCt := (110, [.inr (some [30]), .inl (2, 2), .inl (0, 1)], some (.inl (0, 1)))
def a1_X10_opens_2_0 : List (Nat × aF) := [(0, a_ldi 2 1), (1, a_if c_ne c_eq 3 20), (4, a_lda 0 1), (5, a_gf aT1 10 0 (.inr (some [27]))), (8, a_pi (1) 1), (9, a_lda 0 1), (10, a_gf aT1 10 0 (.inr (some [27]))), (13, a_gf aT1 5 7 (.inl (-2147483648, 2147483647))), (16, a_cv aT1 c1_X5_faults 2 5), (19, a_ri true), (20, a_ldi 1 1), (21, a_pi (7) 2)]
theorem p1_X10_opens_2_0 {E : zM → Prop} (h : aH1 E) : aP0 (aΘ1 E) 2 tX10_opens_0 a1_X10_opens_2_0 := ⟨rfl, aok_ldi, rfl, aok_if si_ne, rfl, aok_lda, rfl, aok_gf, rfl, aok_pi rfl, rfl, aok_lda, rfl, aok_gf, rfl, aok_gf, rfl, aok_cv (c := c1_X5_faults) (D' := 1) (k1_X5_faults h) (by decide), rfl, aok_ri, rfl, aok_ldi, rfl, aok_pi rfl, trivial⟩
def a1_X10_opens_2_1 : List (Nat × aF) := [(23, a_ic d_lt d_ge 3 42), (26, a_lda 0 1), (27, a_no), (30, a_pi (5) 1), (31, a_lda 0 1), (32, a_no), (35, a_no), (38, a_no), (41, a_ri true), (42, a_lda 0 1), (43, a_gf aT1 10 0 (.inr (some [27]))), (46, a_cv aT1 c1_X5_advance 0 5)]
theorem p1_X10_opens_2_1 {E : zM → Prop} (h : aH1 E) : aP0 (aΘ1 E) 2 tX10_opens_1 a1_X10_opens_2_1 := ⟨rfl, aok_ic sj_lt, rfl, aok_lda, rfl, aok_no, rfl, aok_pi rfl, rfl, aok_lda, rfl, aok_no, rfl, aok_no, rfl, aok_no, rfl, aok_ri, rfl, aok_lda, rfl, aok_gf, rfl, aok_cv (c := c1_X5_advance) (D' := 2) (k1_X5_advance h) (by decide), trivial⟩
def a1_X10_opens_2_2 : List (Nat × aF) := [(49, a_pi (1) 1), (50, a_ri true)]
theorem p1_X10_opens_2_2 {E : zM → Prop} (h : aH1 E) : aP0 (aΘ1 E) 2 tX10_opens_2 a1_X10_opens_2_2 := ⟨rfl, aok_pi rfl, rfl, aok_ri, trivial⟩
def b1_X10_opens_2 : aTb := [(23, a1_X10_opens_2_0), (49, a1_X10_opens_2_1), (100000, a1_X10_opens_2_2)]
theorem q1_X10_opens_2 {E : zM → Prop} (h : aH1 E) : aP1 (aΘ1 E) 2 tX10_opens b1_X10_opens_2 := ⟨rfl, p1_X10_opens_2_0 h, rfl, p1_X10_opens_2_1 h, rfl, p1_X10_opens_2_2 h, trivial⟩
def n1_X10_opens_2 : List aNd := []
theorem k1_X10_opens_2 {E : zM → Prop} (h : aH1 E) : aCv (aΘ1 E) 3 c1_X10_opens_2 := aMeth (D := 2) (c := c1_X10_opens_2) (tb := b1_X10_opens_2) (ns := n1_X10_opens_2) (fuel := 3000) rfl (q1_X10_opens_2 h) (by decide +kernel)
abbrev c1_X10_opens_3 : aCt := (110, [.inr (some [30]), .inl (3, 3), .inl (0, 1)], some (.inl (0, 1)))
def a1_X10_opens_3_0 : List (Nat × aF) := [(0, a_ldi 2 1), (1, a_if c_ne c_eq 3 20), (4, a_lda 0 1), (5, a_gf aT1 10 0 (.inr (some [27]))), (8, a_pi (1) 1), (9, a_lda 0 1), (10, a_gf aT1 10 0 (.inr (some [27]))), (13, a_gf aT1 5 7 (.inl (-2147483648, 2147483647))), (16, a_cv aT1 c1_X5_faults 2 5), (19, a_ri true), (20, a_ldi 1 1), (21, a_pi (7) 2)]
theorem p1_X10_opens_3_0 {E : zM → Prop} (h : aH1 E) : aP0 (aΘ1 E) 2 tX10_opens_0 a1_X10_opens_3_0 := ⟨rfl, aok_ldi, rfl, aok_if si_ne, rfl, aok_lda, rfl, aok_gf, rfl, aok_pi rfl, rfl, aok_lda, rfl, aok_gf, rfl, aok_gf, rfl, aok_cv (c := c1_X5_faults) (D' := 1) (k1_X5_faults h) (by decide), rfl, aok_ri, rfl, aok_ldi, rfl, aok_pi rfl, trivial⟩
def a1_X10_opens_3_1 : List (Nat × aF) := [(23, a_ic d_lt d_ge 3 42), (26, a_lda 0 1), (27, a_no), (30, a_pi (5) 1), (31, a_lda 0 1), (32, a_no), (35, a_no), (38, a_no), (41, a_ri true), (42, a_lda 0 1), (43, a_gf aT1 10 0 (.inr (some [27]))), (46, a_cv aT1 c1_X5_advance 0 5)]
theorem p1_X10_opens_3_1 {E : zM → Prop} (h : aH1 E) : aP0 (aΘ1 E) 2 tX10_opens_1 a1_X10_opens_3_1 := ⟨rfl, aok_ic sj_lt, rfl, aok_lda, rfl, aok_no, rfl, aok_pi rfl, rfl, aok_lda, rfl, aok_no, rfl, aok_no, rfl, aok_no, rfl, aok_ri, rfl, aok_lda, rfl, aok_gf, rfl, aok_cv (c := c1_X5_advance) (D' := 2) (k1_X5_advance h) (by decide), trivial⟩
def a1_X10_opens_3_2 : List (Nat × aF) := [(49, a_pi (1) 1), (50, a_ri true)]
theorem p1_X10_opens_3_2 {E : zM → Prop} (h : aH1 E) : aP0 (aΘ1 E) 2 tX10_opens_2 a1_X10_opens_3_2 := ⟨rfl, aok_pi rfl, rfl, aok_ri, trivial⟩
def b1_X10_opens_3 : aTb := [(23, a1_X10_opens_3_0), (49, a1_X10_opens_3_1), (100000, a1_X10_opens_3_2)]
theorem q1_X10_opens_3 {E : zM → Prop} (h : aH1 E) : aP1 (aΘ1 E) 2 tX10_opens b1_X10_opens_3 := ⟨rfl, p1_X10_opens_3_0 h, rfl, p1_X10_opens_3_1 h, rfl, p1_X10_opens_3_2 h, trivial⟩
def n1_X10_opens_3 : List aNd := []
theorem k1_X10_opens_3 {E : zM → Prop} (h : aH1 E) : aCv (aΘ1 E) 3 c1_X10_opens_3 := aMeth (D := 2) (c := c1_X10_opens_3) (tb := b1_X10_opens_3) (ns := n1_X10_opens_3) (fuel := 3000) rfl (q1_X10_opens_3 h) (by decide +kernel)
abbrev c1_X10_opens_4 : aCt := (110, [.inr (some [30]), .inl (4, 4), .inl (0, 1)], some (.inl (0, 1)))
def a1_X10_opens_4_0 : List (Nat × aF) := [(0, a_ldi 2 1), (1, a_if c_ne c_eq 3 20), (4, a_lda 0 1), (5, a_gf aT1 10 0 (.inr (some [27]))), (8, a_pi (1) 1), (9, a_lda 0 1), (10, a_gf aT1 10 0 (.inr (some [27]))), (13, a_gf aT1 5 7 (.inl (-2147483648, 2147483647))), (16, a_cv aT1 c1_X5_faults 2 5), (19, a_ri true), (20, a_ldi 1 1), (21, a_pi (7) 2)]
theorem p1_X10_opens_4_0 {E : zM → Prop} (h : aH1 E) : aP0 (aΘ1 E) 2 tX10_opens_0 a1_X10_opens_4_0 := ⟨rfl, aok_ldi, rfl, aok_if si_ne, rfl, aok_lda, rfl, aok_gf, rfl, aok_pi rfl, rfl, aok_lda, rfl, aok_gf, rfl, aok_gf, rfl, aok_cv (c := c1_X5_faults) (D' := 1) (k1_X5_faults h) (by decide), rfl, aok_ri, rfl, aok_ldi, rfl, aok_pi rfl, trivial⟩
def a1_X10_opens_4_1 : List (Nat × aF) := [(23, a_ic d_lt d_ge 3 42), (26, a_lda 0 1), (27, a_no), (30, a_pi (5) 1), (31, a_lda 0 1), (32, a_no), (35, a_no), (38, a_no), (41, a_ri true), (42, a_lda 0 1), (43, a_gf aT1 10 0 (.inr (some [27]))), (46, a_cv aT1 c1_X5_advance 0 5)]
theorem p1_X10_opens_4_1 {E : zM → Prop} (h : aH1 E) : aP0 (aΘ1 E) 2 tX10_opens_1 a1_X10_opens_4_1 := ⟨rfl, aok_ic sj_lt, rfl, aok_lda, rfl, aok_no, rfl, aok_pi rfl, rfl, aok_lda, rfl, aok_no, rfl, aok_no, rfl, aok_no, rfl, aok_ri, rfl, aok_lda, rfl, aok_gf, rfl, aok_cv (c := c1_X5_advance) (D' := 2) (k1_X5_advance h) (by decide), trivial⟩
def a1_X10_opens_4_2 : List (Nat × aF) := [(49, a_pi (1) 1), (50, a_ri true)]
theorem p1_X10_opens_4_2 {E : zM → Prop} (h : aH1 E) : aP0 (aΘ1 E) 2 tX10_opens_2 a1_X10_opens_4_2 := ⟨rfl, aok_pi rfl, rfl, aok_ri, trivial⟩
def b1_X10_opens_4 : aTb := [(23, a1_X10_opens_4_0), (49, a1_X10_opens_4_1), (100000, a1_X10_opens_4_2)]
theorem q1_X10_opens_4 {E : zM → Prop} (h : aH1 E) : aP1 (aΘ1 E) 2 tX10_opens b1_X10_opens_4 := ⟨rfl, p1_X10_opens_4_0 h, rfl, p1_X10_opens_4_1 h, rfl, p1_X10_opens_4_2 h, trivial⟩
def n1_X10_opens_4 : List aNd := []
theorem k1_X10_opens_4 {E : zM → Prop} (h : aH1 E) : aCv (aΘ1 E) 3 c1_X10_opens_4 := aMeth (D := 2) (c := c1_X10_opens_4) (tb := b1_X10_opens_4) (ns := n1_X10_opens_4) (fuel := 3000) rfl (q1_X10_opens_4 h) (by decide +kernel)
abbrev c1_X10_opens_5 : aCt := (110, [.inr (some [30]), .inl (5, 5), .inl (0, 1)], some (.inl (0, 1)))
def a1_X10_opens_5_0 : List (Nat × aF) := [(0, a_ldi 2 1), (1, a_if c_ne c_eq 3 20), (4, a_lda 0 1), (5, a_gf aT1 10 0 (.inr (some [27]))), (8, a_pi (1) 1), (9, a_lda 0 1), (10, a_gf aT1 10 0 (.inr (some [27]))), (13, a_gf aT1 5 7 (.inl (-2147483648, 2147483647))), (16, a_cv aT1 c1_X5_faults 2 5), (19, a_ri true), (20, a_ldi 1 1), (21, a_pi (7) 2)]
theorem p1_X10_opens_5_0 {E : zM → Prop} (h : aH1 E) : aP0 (aΘ1 E) 2 tX10_opens_0 a1_X10_opens_5_0 := ⟨rfl, aok_ldi, rfl, aok_if si_ne, rfl, aok_lda, rfl, aok_gf, rfl, aok_pi rfl, rfl, aok_lda, rfl, aok_gf, rfl, aok_gf, rfl, aok_cv (c := c1_X5_faults) (D' := 1) (k1_X5_faults h) (by decide), rfl, aok_ri, rfl, aok_ldi, rfl, aok_pi rfl, trivial⟩
def a1_X10_opens_5_1 : List (Nat × aF) := [(23, a_ic d_lt d_ge 3 42), (26, a_lda 0 1), (27, a_no), (30, a_pi (5) 1), (31, a_lda 0 1), (32, a_no), (35, a_no), (38, a_no), (41, a_ri true), (42, a_lda 0 1), (43, a_gf aT1 10 0 (.inr (some [27]))), (46, a_cv aT1 c1_X5_advance 0 5)]
theorem p1_X10_opens_5_1 {E : zM → Prop} (h : aH1 E) : aP0 (aΘ1 E) 2 tX10_opens_1 a1_X10_opens_5_1 := ⟨rfl, aok_ic sj_lt, rfl, aok_lda, rfl, aok_no, rfl, aok_pi rfl, rfl, aok_lda, rfl, aok_no, rfl, aok_no, rfl, aok_no, rfl, aok_ri, rfl, aok_lda, rfl, aok_gf, rfl, aok_cv (c := c1_X5_advance) (D' := 2) (k1_X5_advance h) (by decide), trivial⟩
def a1_X10_opens_5_2 : List (Nat × aF) := [(49, a_pi (1) 1), (50, a_ri true)]
theorem p1_X10_opens_5_2 {E : zM → Prop} (h : aH1 E) : aP0 (aΘ1 E) 2 tX10_opens_2 a1_X10_opens_5_2 := ⟨rfl, aok_pi rfl, rfl, aok_ri, trivial⟩
def b1_X10_opens_5 : aTb := [(23, a1_X10_opens_5_0), (49, a1_X10_opens_5_1), (100000, a1_X10_opens_5_2)]
theorem q1_X10_opens_5 {E : zM → Prop} (h : aH1 E) : aP1 (aΘ1 E) 2 tX10_opens b1_X10_opens_5 := ⟨rfl, p1_X10_opens_5_0 h, rfl, p1_X10_opens_5_1 h, rfl, p1_X10_opens_5_2 h, trivial⟩
def n1_X10_opens_5 : List aNd := []
theorem k1_X10_opens_5 {E : zM → Prop} (h : aH1 E) : aCv (aΘ1 E) 3 c1_X10_opens_5 := aMeth (D := 2) (c := c1_X10_opens_5) (tb := b1_X10_opens_5) (ns := n1_X10_opens_5) (fuel := 3000) rfl (q1_X10_opens_5 h) (by decide +kernel)
abbrev c1_X10_opens_6 : aCt := (110, [.inr (some [30]), .inl (6, 6), .inl (0, 1)], some (.inl (0, 1)))
def a1_X10_opens_6_0 : List (Nat × aF) := [(0, a_ldi 2 1), (1, a_if c_ne c_eq 3 20), (4, a_lda 0 1), (5, a_gf aT1 10 0 (.inr (some [27]))), (8, a_pi (1) 1), (9, a_lda 0 1), (10, a_gf aT1 10 0 (.inr (some [27]))), (13, a_gf aT1 5 7 (.inl (-2147483648, 2147483647))), (16, a_cv aT1 c1_X5_faults 2 5), (19, a_ri true), (20, a_ldi 1 1), (21, a_pi (7) 2)]
theorem p1_X10_opens_6_0 {E : zM → Prop} (h : aH1 E) : aP0 (aΘ1 E) 2 tX10_opens_0 a1_X10_opens_6_0 := ⟨rfl, aok_ldi, rfl, aok_if si_ne, rfl, aok_lda, rfl, aok_gf, rfl, aok_pi rfl, rfl, aok_lda, rfl, aok_gf, rfl, aok_gf, rfl, aok_cv (c := c1_X5_faults) (D' := 1) (k1_X5_faults h) (by decide), rfl, aok_ri, rfl, aok_ldi, rfl, aok_pi rfl, trivial⟩
def a1_X10_opens_6_1 : List (Nat × aF) := [(23, a_ic d_lt d_ge 3 42), (26, a_lda 0 1), (27, a_no), (30, a_pi (5) 1), (31, a_lda 0 1), (32, a_no), (35, a_no), (38, a_no), (41, a_ri true), (42, a_lda 0 1), (43, a_gf aT1 10 0 (.inr (some [27]))), (46, a_cv aT1 c1_X5_advance 0 5)]
theorem p1_X10_opens_6_1 {E : zM → Prop} (h : aH1 E) : aP0 (aΘ1 E) 2 tX10_opens_1 a1_X10_opens_6_1 := ⟨rfl, aok_ic sj_lt, rfl, aok_lda, rfl, aok_no, rfl, aok_pi rfl, rfl, aok_lda, rfl, aok_no, rfl, aok_no, rfl, aok_no, rfl, aok_ri, rfl, aok_lda, rfl, aok_gf, rfl, aok_cv (c := c1_X5_advance) (D' := 2) (k1_X5_advance h) (by decide), trivial⟩
def a1_X10_opens_6_2 : List (Nat × aF) := [(49, a_pi (1) 1), (50, a_ri true)]
theorem p1_X10_opens_6_2 {E : zM → Prop} (h : aH1 E) : aP0 (aΘ1 E) 2 tX10_opens_2 a1_X10_opens_6_2 := ⟨rfl, aok_pi rfl, rfl, aok_ri, trivial⟩
def b1_X10_opens_6 : aTb := [(23, a1_X10_opens_6_0), (49, a1_X10_opens_6_1), (100000, a1_X10_opens_6_2)]
theorem q1_X10_opens_6 {E : zM → Prop} (h : aH1 E) : aP1 (aΘ1 E) 2 tX10_opens b1_X10_opens_6 := ⟨rfl, p1_X10_opens_6_0 h, rfl, p1_X10_opens_6_1 h, rfl, p1_X10_opens_6_2 h, trivial⟩
def n1_X10_opens_6 : List aNd := []
theorem k1_X10_opens_6 {E : zM → Prop} (h : aH1 E) : aCv (aΘ1 E) 3 c1_X10_opens_6 := aMeth (D := 2) (c := c1_X10_opens_6) (tb := b1_X10_opens_6) (ns := n1_X10_opens_6) (fuel := 3000) rfl (q1_X10_opens_6 h) (by decide +kernel)
abbrev c1_X10_opens_7 : aCt := (110, [.inr (some [30]), .inl (7, 7), .inl (0, 1)], some (.inl (0, 0)))
def a1_X10_opens_7_0 : List (Nat × aF) := [(0, a_ldi 2 1), (1, a_if c_ne c_eq 3 20), (4, a_lda 0 1), (5, a_gf aT1 10 0 (.inr (some [27]))), (8, a_pi (1) 1), (9, a_lda 0 1), (10, a_gf aT1 10 0 (.inr (some [27]))), (13, a_gf aT1 5 7 (.inl (-2147483648, 2147483647))), (16, a_cv aT1 c1_X5_faults 2 5), (19, a_ri true), (20, a_ldi 1 1), (21, a_pi (7) 2)]
theorem p1_X10_opens_7_0 {E : zM → Prop} (h : aH1 E) : aP0 (aΘ1 E) 1 tX10_opens_0 a1_X10_opens_7_0 := ⟨rfl, aok_ldi, rfl, aok_if si_ne, rfl, aok_lda, rfl, aok_gf, rfl, aok_pi rfl, rfl, aok_lda, rfl, aok_gf, rfl, aok_gf, rfl, aok_cv (c := c1_X5_faults) (D' := 1) (k1_X5_faults h) (by decide), rfl, aok_ri, rfl, aok_ldi, rfl, aok_pi rfl, trivial⟩
def a1_X10_opens_7_1 : List (Nat × aF) := [(23, a_ic d_lt d_ge 3 42), (26, a_lda 0 1), (27, a_gf aT1 10 0 (.inr (some [27]))), (30, a_pi (5) 1), (31, a_lda 0 1), (32, a_gf aT1 10 0 (.inr (some [27]))), (35, a_gf aT1 5 7 (.inl (-2147483648, 2147483647))), (38, a_cv aT1 c1_X5_faults 2 5), (41, a_ri true), (42, a_lda 0 1), (43, a_no), (46, a_no)]
theorem p1_X10_opens_7_1 {E : zM → Prop} (h : aH1 E) : aP0 (aΘ1 E) 1 tX10_opens_1 a1_X10_opens_7_1 := ⟨rfl, aok_ic sj_lt, rfl, aok_lda, rfl, aok_gf, rfl, aok_pi rfl, rfl, aok_lda, rfl, aok_gf, rfl, aok_gf, rfl, aok_cv (c := c1_X5_faults) (D' := 1) (k1_X5_faults h) (by decide), rfl, aok_ri, rfl, aok_lda, rfl, aok_no, rfl, aok_no, trivial⟩
def a1_X10_opens_7_2 : List (Nat × aF) := [(49, a_pi (1) 1), (50, a_ri true)]
theorem p1_X10_opens_7_2 {E : zM → Prop} (h : aH1 E) : aP0 (aΘ1 E) 1 tX10_opens_2 a1_X10_opens_7_2 := ⟨rfl, aok_pi rfl, rfl, aok_ri, trivial⟩
def b1_X10_opens_7 : aTb := [(23, a1_X10_opens_7_0), (49, a1_X10_opens_7_1), (100000, a1_X10_opens_7_2)]
theorem q1_X10_opens_7 {E : zM → Prop} (h : aH1 E) : aP1 (aΘ1 E) 1 tX10_opens b1_X10_opens_7 := ⟨rfl, p1_X10_opens_7_0 h, rfl, p1_X10_opens_7_1 h, rfl, p1_X10_opens_7_2 h, trivial⟩
def n1_X10_opens_7 : List aNd := []
theorem k1_X10_opens_7 {E : zM → Prop} (h : aH1 E) : aCv (aΘ1 E) 2 c1_X10_opens_7 := aMeth (D := 1) (c := c1_X10_opens_7) (tb := b1_X10_opens_7) (ns := n1_X10_opens_7) (fuel := 3000) rfl (q1_X10_opens_7 h) (by decide +kernel)
abbrev c1_X10_isValue : aCt := (108, [.inr (some [30]), .inl (-2147483648, 2147483647)], some (.inl (0, 1)))
def a1_X10_isValue_0 : List (Nat × aF) := [(0, a_ldi 1 1), (1, a_ts [(7, 64), (8, 64), (9, 94), (10, 94), (11, 94), (12, 94), (13, 94), (14, 94), (15, 64), (16, 64), (17, 66), (18, 80)] 94), (64, a_pi (1) 1), (65, a_ri true), (66, a_lda 0 1), (67, a_gf aT1 10 2 (.inl (-2147483648, 2147483647))), (70, a_pi (1) 1), (71, a_ic d_eq d_ne 3 78), (74, a_pi (1) 1), (75, a_gt 79), (78, a_pi (0) 1), (79, a_ri true)]
theorem p1_X10_isValue_0 {E : zM → Prop} (h : aH1 E) : aP0 (aΘ1 E) 0 tX10_isValue_0 a1_X10_isValue_0 := ⟨rfl, aok_ldi, rfl, aok_ts, rfl, aok_pi rfl, rfl, aok_ri, rfl, aok_lda, rfl, aok_gf, rfl, aok_pi rfl, rfl, aok_ic sj_eq, rfl, aok_pi rfl, rfl, aok_gt, rfl, aok_pi rfl, rfl, aok_ri, trivial⟩
def a1_X10_isValue_1 : List (Nat × aF) := [(80, a_lda 0 1), (81, a_gf aT1 10 2 (.inl (-2147483648, 2147483647))), (84, a_pi (1) 1), (85, a_ic d_ne d_eq 3 92), (88, a_pi (1) 1), (89, a_gt 93), (92, a_pi (0) 1), (93, a_ri true), (94, a_pi (0) 1), (95, a_ri true)]
theorem p1_X10_isValue_1 {E : zM → Prop} (h : aH1 E) : aP0 (aΘ1 E) 0 tX10_isValue_1 a1_X10_isValue_1 := ⟨rfl, aok_lda, rfl, aok_gf, rfl, aok_pi rfl, rfl, aok_ic sj_ne, rfl, aok_pi rfl, rfl, aok_gt, rfl, aok_pi rfl, rfl, aok_ri, rfl, aok_pi rfl, rfl, aok_ri, trivial⟩
def b1_X10_isValue : aTb := [(80, a1_X10_isValue_0), (100000, a1_X10_isValue_1)]
theorem q1_X10_isValue {E : zM → Prop} (h : aH1 E) : aP1 (aΘ1 E) 0 tX10_isValue b1_X10_isValue := ⟨rfl, p1_X10_isValue_0 h, rfl, p1_X10_isValue_1 h, trivial⟩
def n1_X10_isValue : List aNd := []
theorem k1_X10_isValue {E : zM → Prop} (h : aH1 E) : aCv (aΘ1 E) 1 c1_X10_isValue := aMeth (D := 0) (c := c1_X10_isValue) (tb := b1_X10_isValue) (ns := n1_X10_isValue) (fuel := 3000) rfl (q1_X10_isValue h) (by decide +kernel)
abbrev c1_X10_takesPart_7 : aCt := (107, [.inr (some [30]), .inl (7, 7)], some (.inl (0, 1)))
def a1_X10_takesPart_7_0 : List (Nat × aF) := [(0, a_lda 0 1), (1, a_gf aT1 10 0 (.inr (some [27]))), (4, a_gf aT1 5 4 (.inl (-2147483648, 2147483647))), (7, a_pi (3) 1), (8, a_ic d_ne d_eq 3 35), (11, a_lda 0 1), (12, a_gf aT1 10 1 (.inr (some [10, 22]))), (15, a_lda 0 1), (16, a_gf aT1 10 0 (.inr (some [27]))), (19, a_gf aT1 5 5 (.inl (-2147483648, 2147483647))), (22, a_cv aT1 c1_X7_put 1 7), (25, a_pop)]
theorem p1_X10_takesPart_7_0 {E : zM → Prop} (h : aH1 E) : aP0 (aΘ1 E) 2 tX10_takesPart_0 a1_X10_takesPart_7_0 := ⟨rfl, aok_lda, rfl, aok_gf, rfl, aok_gf, rfl, aok_pi rfl, rfl, aok_ic sj_ne, rfl, aok_lda, rfl, aok_gf, rfl, aok_lda, rfl, aok_gf, rfl, aok_gf, rfl, aok_cv (c := c1_X7_put) (D' := 1) (k1_X7_put h) (by decide), rfl, aok_pop, trivial⟩
def a1_X10_takesPart_7_1 : List (Nat × aF) := [(26, a_lda 0 1), (27, a_gf aT1 10 0 (.inr (some [27]))), (30, a_cv aT1 c1_X5_advance 0 5), (33, a_pi (1) 1), (34, a_ri true), (35, a_lda 0 1), (36, a_gf aT1 10 0 (.inr (some [27]))), (39, a_pi (40) 2), (41, a_cv aT1 c1_X5_isSign 1 5), (44, a_if c_eq c_ne 3 84), (47, a_lda 0 1), (48, a_ldi 1 1)]
theorem p1_X10_takesPart_7_1 {E : zM → Prop} (h : aH1 E) : aP0 (aΘ1 E) 2 tX10_takesPart_1 a1_X10_takesPart_7_1 := ⟨rfl, aok_lda, rfl, aok_gf, rfl, aok_cv (c := c1_X5_advance) (D' := 2) (k1_X5_advance h) (by decide), rfl, aok_pi rfl, rfl, aok_ri, rfl, aok_lda, rfl, aok_gf, rfl, aok_pi rfl, rfl, aok_cv (c := c1_X5_isSign) (D' := 1) (k1_X5_isSign h) (by decide), rfl, aok_if si_eq, rfl, aok_lda, rfl, aok_ldi, trivial⟩
def a1_X10_takesPart_7_2 : List (Nat × aF) := [(49, a_pi (1) 1), (50, a_cv aT1 c1_X10_opens_7 2 10), (53, a_if c_eq c_ne 3 82), (56, a_lda 0 1), (57, a_ldi 1 1), (58, a_pi (1) 1), (59, a_b2 g_add), (60, a_no), (63, a_if c_eq c_ne 3 82), (66, a_lda 0 1), (67, a_no), (70, a_pi (41) 2)]
theorem p1_X10_takesPart_7_2 {E : zM → Prop} (h : aH1 E) : aP0 (aΘ1 E) 2 tX10_takesPart_2 a1_X10_takesPart_7_2 := ⟨rfl, aok_pi rfl, rfl, aok_cv (c := c1_X10_opens_7) (D' := 2) (k1_X10_opens_7 h) (by decide), rfl, aok_if si_eq, rfl, aok_lda, rfl, aok_ldi, rfl, aok_pi rfl, rfl, aok_b2 sd_add, rfl, aok_no, rfl, aok_if si_eq, rfl, aok_lda, rfl, aok_no, rfl, aok_pi rfl, trivial⟩
def a1_X10_takesPart_7_3 : List (Nat × aF) := [(72, a_no), (75, a_if c_eq c_ne 3 82), (78, a_pi (1) 1), (79, a_gt 83), (82, a_pi (0) 1), (83, a_ri true), (84, a_lda 0 1), (85, a_gf aT1 10 0 (.inr (some [27]))), (88, a_gf aT1 5 4 (.inl (-2147483648, 2147483647))), (91, a_pi (2) 1), (92, a_ic d_ne d_eq 3 105), (95, a_lda 0 1)]
theorem p1_X10_takesPart_7_3 {E : zM → Prop} (h : aH1 E) : aP0 (aΘ1 E) 2 tX10_takesPart_3 a1_X10_takesPart_7_3 := ⟨rfl, aok_no, rfl, aok_if si_eq, rfl, aok_pi rfl, rfl, aok_gt, rfl, aok_pi rfl, rfl, aok_ri, rfl, aok_lda, rfl, aok_gf, rfl, aok_gf, rfl, aok_pi rfl, rfl, aok_ic sj_ne, rfl, aok_lda, trivial⟩
def a1_X10_takesPart_7_4 : List (Nat × aF) := [(96, a_gf aT1 10 0 (.inr (some [27]))), (99, a_gf aT1 5 5 (.inl (-2147483648, 2147483647))), (102, a_gt 106), (105, a_pi (-1) 1), (106, a_sti 3 2 1), (107, a_lda 0 1), (108, a_ldi 2 1), (109, a_cv aT1 c1_X10_isValue 1 10), (112, a_if c_eq c_ne 3 135), (115, a_lda 0 1), (116, a_gf aT1 10 0 (.inr (some [27]))), (119, a_cv aT1 c1_X5_advance 0 5)]
theorem p1_X10_takesPart_7_4 {E : zM → Prop} (h : aH1 E) : aP0 (aΘ1 E) 2 tX10_takesPart_4 a1_X10_takesPart_7_4 := ⟨rfl, aok_gf, rfl, aok_gf, rfl, aok_gt, rfl, aok_pi rfl, rfl, aok_sti, rfl, aok_lda, rfl, aok_ldi, rfl, aok_cv (c := c1_X10_isValue) (D' := 1) (k1_X10_isValue h) (by decide), rfl, aok_if si_eq, rfl, aok_lda, rfl, aok_gf, rfl, aok_cv (c := c1_X5_advance) (D' := 2) (k1_X5_advance h) (by decide), trivial⟩
def a1_X10_takesPart_7_5 : List (Nat × aF) := [(122, a_lda 0 1), (123, a_gf aT1 10 1 (.inr (some [10, 22]))), (126, a_pi (10000) 3), (129, a_ldi 2 1), (130, a_b2 g_add), (131, a_cv aT1 c1_X7_put 1 7), (134, a_ri true), (135, a_ldi 2 1), (136, a_pi (24) 2), (138, a_ic d_eq d_ne 3 147), (141, a_ldi 2 1), (142, a_pi (25) 2)]
theorem p1_X10_takesPart_7_5 {E : zM → Prop} (h : aH1 E) : aP0 (aΘ1 E) 2 tX10_takesPart_5 a1_X10_takesPart_7_5 := ⟨rfl, aok_lda, rfl, aok_gf, rfl, aok_pi rfl, rfl, aok_ldi, rfl, aok_b2 sd_add, rfl, aok_cv (c := c1_X7_put) (D' := 1) (k1_X7_put h) (by decide), rfl, aok_ri, rfl, aok_ldi, rfl, aok_pi rfl, rfl, aok_ic sj_eq, rfl, aok_ldi, rfl, aok_pi rfl, trivial⟩
def a1_X10_takesPart_7_6 : List (Nat × aF) := [(144, a_ic d_ne d_eq 3 202), (147, a_lda 0 1), (148, a_gf aT1 10 0 (.inr (some [27]))), (151, a_cv aT1 c1_X5_advance 0 5), (154, a_lda 0 1), (155, a_ldi 1 1), (156, a_lda 0 1), (157, a_gf aT1 10 0 (.inr (some [27]))), (160, a_pi (40) 2), (162, a_cv aT1 c1_X5_isSign 1 5), (165, a_cv aT1 c1_X10_opens_7 2 10), (168, a_if c_eq c_ne 3 200)]
theorem p1_X10_takesPart_7_6 {E : zM → Prop} (h : aH1 E) : aP0 (aΘ1 E) 2 tX10_takesPart_6 a1_X10_takesPart_7_6 := ⟨rfl, aok_ic sj_ne, rfl, aok_lda, rfl, aok_gf, rfl, aok_cv (c := c1_X5_advance) (D' := 2) (k1_X5_advance h) (by decide), rfl, aok_lda, rfl, aok_ldi, rfl, aok_lda, rfl, aok_gf, rfl, aok_pi rfl, rfl, aok_cv (c := c1_X5_isSign) (D' := 1) (k1_X5_isSign h) (by decide), rfl, aok_cv (c := c1_X10_opens_7) (D' := 2) (k1_X10_opens_7 h) (by decide), rfl, aok_if si_eq, trivial⟩
def a1_X10_takesPart_7_7 : List (Nat × aF) := [(171, a_lda 0 1), (172, a_ldi 1 1), (173, a_pi (1) 1), (174, a_b2 g_add), (175, a_no), (178, a_if c_eq c_ne 3 200), (181, a_lda 0 1), (182, a_no), (185, a_pi (10000) 3), (188, a_ldi 2 1), (189, a_b2 g_add), (190, a_no)]
theorem p1_X10_takesPart_7_7 {E : zM → Prop} (h : aH1 E) : aP0 (aΘ1 E) 2 tX10_takesPart_7 a1_X10_takesPart_7_7 := ⟨rfl, aok_lda, rfl, aok_ldi, rfl, aok_pi rfl, rfl, aok_b2 sd_add, rfl, aok_no, rfl, aok_if si_eq, rfl, aok_lda, rfl, aok_no, rfl, aok_pi rfl, rfl, aok_ldi, rfl, aok_b2 sd_add, rfl, aok_no, trivial⟩
def a1_X10_takesPart_7_8 : List (Nat × aF) := [(193, a_if c_eq c_ne 3 200), (196, a_pi (1) 1), (197, a_gt 201), (200, a_pi (0) 1), (201, a_ri true), (202, a_ldi 2 1), (203, a_pi (19) 2), (205, a_ic d_ne d_eq 3 285), (208, a_lda 0 1), (209, a_gf aT1 10 0 (.inr (some [27]))), (212, a_cv aT1 c1_X5_advance 0 5), (215, a_lda 0 1)]
theorem p1_X10_takesPart_7_8 {E : zM → Prop} (h : aH1 E) : aP0 (aΘ1 E) 2 tX10_takesPart_8 a1_X10_takesPart_7_8 := ⟨rfl, aok_if si_eq, rfl, aok_pi rfl, rfl, aok_gt, rfl, aok_pi rfl, rfl, aok_ri, rfl, aok_ldi, rfl, aok_pi rfl, rfl, aok_ic sj_ne, rfl, aok_lda, rfl, aok_gf, rfl, aok_cv (c := c1_X5_advance) (D' := 2) (k1_X5_advance h) (by decide), rfl, aok_lda, trivial⟩
def a1_X10_takesPart_7_9 : List (Nat × aF) := [(216, a_ldi 1 1), (217, a_lda 0 1), (218, a_gf aT1 10 0 (.inr (some [27]))), (221, a_pi (40) 2), (223, a_cv aT1 c1_X5_isSign 1 5), (226, a_cv aT1 c1_X10_opens_7 2 10), (229, a_if c_eq c_ne 3 283), (232, a_lda 0 1), (233, a_ldi 1 1), (234, a_pi (1) 1), (235, a_b2 g_add), (236, a_no)]
theorem p1_X10_takesPart_7_9 {E : zM → Prop} (h : aH1 E) : aP0 (aΘ1 E) 2 tX10_takesPart_9 a1_X10_takesPart_7_9 := ⟨rfl, aok_ldi, rfl, aok_lda, rfl, aok_gf, rfl, aok_pi rfl, rfl, aok_cv (c := c1_X5_isSign) (D' := 1) (k1_X5_isSign h) (by decide), rfl, aok_cv (c := c1_X10_opens_7) (D' := 2) (k1_X10_opens_7 h) (by decide), rfl, aok_if si_eq, rfl, aok_lda, rfl, aok_ldi, rfl, aok_pi rfl, rfl, aok_b2 sd_add, rfl, aok_no, trivial⟩
def a1_X10_takesPart_7_10 : List (Nat × aF) := [(239, a_if c_eq c_ne 3 283), (242, a_lda 0 1), (243, a_no), (246, a_pi (44) 2), (248, a_no), (251, a_if c_eq c_ne 3 283), (254, a_lda 0 1), (255, a_ldi 1 1), (256, a_pi (1) 1), (257, a_b2 g_add), (258, a_no), (261, a_if c_eq c_ne 3 283)]
theorem p1_X10_takesPart_7_10 {E : zM → Prop} (h : aH1 E) : aP0 (aΘ1 E) 2 tX10_takesPart_10 a1_X10_takesPart_7_10 := ⟨rfl, aok_if si_eq, rfl, aok_lda, rfl, aok_no, rfl, aok_pi rfl, rfl, aok_no, rfl, aok_if si_eq, rfl, aok_lda, rfl, aok_ldi, rfl, aok_pi rfl, rfl, aok_b2 sd_add, rfl, aok_no, rfl, aok_if si_eq, trivial⟩
def a1_X10_takesPart_7_11 : List (Nat × aF) := [(264, a_lda 0 1), (265, a_no), (268, a_pi (10000) 3), (271, a_ldi 2 1), (272, a_b2 g_add), (273, a_no), (276, a_if c_eq c_ne 3 283), (279, a_pi (1) 1), (280, a_gt 284), (283, a_pi (0) 1), (284, a_ri true), (285, a_lda 0 1)]
theorem p1_X10_takesPart_7_11 {E : zM → Prop} (h : aH1 E) : aP0 (aΘ1 E) 2 tX10_takesPart_11 a1_X10_takesPart_7_11 := ⟨rfl, aok_lda, rfl, aok_no, rfl, aok_pi rfl, rfl, aok_ldi, rfl, aok_b2 sd_add, rfl, aok_no, rfl, aok_if si_eq, rfl, aok_pi rfl, rfl, aok_gt, rfl, aok_pi rfl, rfl, aok_ri, rfl, aok_lda, trivial⟩
def a1_X10_takesPart_7_12 : List (Nat × aF) := [(286, a_gf aT1 10 0 (.inr (some [27]))), (289, a_pi (1) 1), (290, a_lda 0 1), (291, a_gf aT1 10 0 (.inr (some [27]))), (294, a_gf aT1 5 7 (.inl (-2147483648, 2147483647))), (297, a_cv aT1 c1_X5_faults 2 5), (300, a_ri true)]
theorem p1_X10_takesPart_7_12 {E : zM → Prop} (h : aH1 E) : aP0 (aΘ1 E) 2 tX10_takesPart_12 a1_X10_takesPart_7_12 := ⟨rfl, aok_gf, rfl, aok_pi rfl, rfl, aok_lda, rfl, aok_gf, rfl, aok_gf, rfl, aok_cv (c := c1_X5_faults) (D' := 1) (k1_X5_faults h) (by decide), rfl, aok_ri, trivial⟩
def b1_X10_takesPart_7 : aTb := [(26, a1_X10_takesPart_7_0), (49, a1_X10_takesPart_7_1), (72, a1_X10_takesPart_7_2), (96, a1_X10_takesPart_7_3), (122, a1_X10_takesPart_7_4), (144, a1_X10_takesPart_7_5), (171, a1_X10_takesPart_7_6), (193, a1_X10_takesPart_7_7), (216, a1_X10_takesPart_7_8), (239, a1_X10_takesPart_7_9), (264, a1_X10_takesPart_7_10), (286, a1_X10_takesPart_7_11), (100000, a1_X10_takesPart_7_12)]
theorem q1_X10_takesPart_7 {E : zM → Prop} (h : aH1 E) : aP1 (aΘ1 E) 2 tX10_takesPart b1_X10_takesPart_7 := ⟨rfl, p1_X10_takesPart_7_0 h, rfl, p1_X10_takesPart_7_1 h, rfl, p1_X10_takesPart_7_2 h, rfl, p1_X10_takesPart_7_3 h, rfl, p1_X10_takesPart_7_4 h, rfl, p1_X10_takesPart_7_5 h, rfl, p1_X10_takesPart_7_6 h, rfl, p1_X10_takesPart_7_7 h, rfl, p1_X10_takesPart_7_8 h, rfl, p1_X10_takesPart_7_9 h, rfl, p1_X10_takesPart_7_10 h, rfl, p1_X10_takesPart_7_11 h, rfl, p1_X10_takesPart_7_12 h, trivial⟩
def n1_X10_takesPart_7 : List aNd := []
theorem k1_X10_takesPart_7 {E : zM → Prop} (h : aH1 E) : aCv (aΘ1 E) 3 c1_X10_takesPart_7 := aMeth (D := 2) (c := c1_X10_takesPart_7) (tb := b1_X10_takesPart_7) (ns := n1_X10_takesPart_7) (fuel := 3000) rfl (q1_X10_takesPart_7 h) (by decide +kernel)
abbrev c1_X10_isFactorSign : aCt := (106, [.inr (some [30])], some (.inl (0, 1)))
def a1_X10_isFactorSign_0 : List (Nat × aF) := [(0, a_lda 0 1), (1, a_gf aT1 10 0 (.inr (some [27]))), (4, a_pi (42) 2), (6, a_cv aT1 c1_X5_isSign 1 5), (9, a_if c_ne c_eq 3 36), (12, a_lda 0 1), (13, a_gf aT1 10 0 (.inr (some [27]))), (16, a_pi (47) 2), (18, a_cv aT1 c1_X5_isSign 1 5), (21, a_if c_ne c_eq 3 36), (24, a_lda 0 1), (25, a_gf aT1 10 0 (.inr (some [27])))]
theorem p1_X10_isFactorSign_0 {E : zM → Prop} (h : aH1 E) : aP0 (aΘ1 E) 1 tX10_isFactorSign_0 a1_X10_isFactorSign_0 := ⟨rfl, aok_lda, rfl, aok_gf, rfl, aok_pi rfl, rfl, aok_cv (c := c1_X5_isSign) (D' := 1) (k1_X5_isSign h) (by decide), rfl, aok_if si_ne, rfl, aok_lda, rfl, aok_gf, rfl, aok_pi rfl, rfl, aok_cv (c := c1_X5_isSign) (D' := 1) (k1_X5_isSign h) (by decide), rfl, aok_if si_ne, rfl, aok_lda, rfl, aok_gf, trivial⟩
def a1_X10_isFactorSign_1 : List (Nat × aF) := [(28, a_pi (37) 2), (30, a_cv aT1 c1_X5_isSign 1 5), (33, a_if c_eq c_ne 3 40), (36, a_pi (1) 1), (37, a_gt 41), (40, a_pi (0) 1), (41, a_ri true)]
theorem p1_X10_isFactorSign_1 {E : zM → Prop} (h : aH1 E) : aP0 (aΘ1 E) 1 tX10_isFactorSign_1 a1_X10_isFactorSign_1 := ⟨rfl, aok_pi rfl, rfl, aok_cv (c := c1_X5_isSign) (D' := 1) (k1_X5_isSign h) (by decide), rfl, aok_if si_eq, rfl, aok_pi rfl, rfl, aok_gt, rfl, aok_pi rfl, rfl, aok_ri, trivial⟩
def b1_X10_isFactorSign : aTb := [(28, a1_X10_isFactorSign_0), (100000, a1_X10_isFactorSign_1)]
theorem q1_X10_isFactorSign {E : zM → Prop} (h : aH1 E) : aP1 (aΘ1 E) 1 tX10_isFactorSign b1_X10_isFactorSign := ⟨rfl, p1_X10_isFactorSign_0 h, rfl, p1_X10_isFactorSign_1 h, trivial⟩
def n1_X10_isFactorSign : List aNd := []
theorem k1_X10_isFactorSign {E : zM → Prop} (h : aH1 E) : aCv (aΘ1 E) 2 c1_X10_isFactorSign := aMeth (D := 1) (c := c1_X10_isFactorSign) (tb := b1_X10_isFactorSign) (ns := n1_X10_isFactorSign) (fuel := 3000) rfl (q1_X10_isFactorSign h) (by decide +kernel)
abbrev c1_X10_takesProduct_7 : aCt := (105, [.inr (some [30]), .inl (7, 7)], some (.inl (0, 1)))
def a1_X10_takesProduct_7_0 : List (Nat × aF) := [(0, a_lda 0 1), (1, a_ldi 1 1), (2, a_cv aT1 c1_X10_takesPart_7 1 10), (5, a_sti 5 2 1), (6, a_pi (0) 1), (7, a_sti 5 3 1), (8, a_ldi 3 1), (9, a_pi (1600) 3), (12, a_ic d_ge d_lt 3 78), (15, a_ldi 2 1), (16, a_if c_eq c_ne 3 78), (19, a_lda 0 1)]
theorem p1_X10_takesProduct_7_0 {E : zM → Prop} (h : aH1 E) : aP0 (aΘ1 E) 3 tX10_takesProduct_0 a1_X10_takesProduct_7_0 := ⟨rfl, aok_lda, rfl, aok_ldi, rfl, aok_cv (c := c1_X10_takesPart_7) (D' := 3) (k1_X10_takesPart_7 h) (by decide), rfl, aok_sti, rfl, aok_pi rfl, rfl, aok_sti, rfl, aok_ldi, rfl, aok_pi rfl, rfl, aok_ic sj_ge, rfl, aok_ldi, rfl, aok_if si_eq, rfl, aok_lda, trivial⟩
def a1_X10_takesProduct_7_1 : List (Nat × aF) := [(20, a_cv aT1 c1_X10_isFactorSign 0 10), (23, a_if c_eq c_ne 3 78), (26, a_lda 0 1), (27, a_gf aT1 10 0 (.inr (some [27]))), (30, a_gf aT1 5 5 (.inl (-2147483648, 2147483647))), (33, a_sti 5 4 2), (35, a_lda 0 1), (36, a_gf aT1 10 0 (.inr (some [27]))), (39, a_cv aT1 c1_X5_advance 0 5), (42, a_lda 0 1), (43, a_ldi 1 1), (44, a_cv aT1 c1_X10_takesPart_7 1 10)]
theorem p1_X10_takesProduct_7_1 {E : zM → Prop} (h : aH1 E) : aP0 (aΘ1 E) 3 tX10_takesProduct_1 a1_X10_takesProduct_7_1 := ⟨rfl, aok_cv (c := c1_X10_isFactorSign) (D' := 2) (k1_X10_isFactorSign h) (by decide), rfl, aok_if si_eq, rfl, aok_lda, rfl, aok_gf, rfl, aok_gf, rfl, aok_sti, rfl, aok_lda, rfl, aok_gf, rfl, aok_cv (c := c1_X5_advance) (D' := 2) (k1_X5_advance h) (by decide), rfl, aok_lda, rfl, aok_ldi, rfl, aok_cv (c := c1_X10_takesPart_7) (D' := 3) (k1_X10_takesPart_7 h) (by decide), trivial⟩
def a1_X10_takesProduct_7_2 : List (Nat × aF) := [(47, a_if c_eq c_ne 3 70), (50, a_lda 0 1), (51, a_gf aT1 10 1 (.inr (some [10, 22]))), (54, a_pi (10000) 3), (57, a_ldi 4 2), (59, a_b2 g_add), (60, a_cv aT1 c1_X7_put 1 7), (63, a_if c_eq c_ne 3 70), (66, a_pi (1) 1), (67, a_gt 71), (70, a_pi (0) 1), (71, a_sti 5 2 1)]
theorem p1_X10_takesProduct_7_2 {E : zM → Prop} (h : aH1 E) : aP0 (aΘ1 E) 3 tX10_takesProduct_2 a1_X10_takesProduct_7_2 := ⟨rfl, aok_if si_eq, rfl, aok_lda, rfl, aok_gf, rfl, aok_pi rfl, rfl, aok_ldi, rfl, aok_b2 sd_add, rfl, aok_cv (c := c1_X7_put) (D' := 1) (k1_X7_put h) (by decide), rfl, aok_if si_eq, rfl, aok_pi rfl, rfl, aok_gt, rfl, aok_pi rfl, rfl, aok_sti, trivial⟩
def a1_X10_takesProduct_7_3 : List (Nat × aF) := [(72, a_iw 5 3 (1)), (75, a_gt 8), (78, a_ldi 2 1), (79, a_ri true)]
theorem p1_X10_takesProduct_7_3 {E : zM → Prop} (h : aH1 E) : aP0 (aΘ1 E) 3 tX10_takesProduct_3 a1_X10_takesProduct_7_3 := ⟨rfl, aok_iw rfl, rfl, aok_gt, rfl, aok_ldi, rfl, aok_ri, trivial⟩
def b1_X10_takesProduct_7 : aTb := [(20, a1_X10_takesProduct_7_0), (47, a1_X10_takesProduct_7_1), (72, a1_X10_takesProduct_7_2), (100000, a1_X10_takesProduct_7_3)]
theorem q1_X10_takesProduct_7 {E : zM → Prop} (h : aH1 E) : aP1 (aΘ1 E) 3 tX10_takesProduct b1_X10_takesProduct_7 := ⟨rfl, p1_X10_takesProduct_7_0 h, rfl, p1_X10_takesProduct_7_1 h, rfl, p1_X10_takesProduct_7_2 h, rfl, p1_X10_takesProduct_7_3 h, trivial⟩
def n1_X10_takesProduct_7 : List aNd := [(8, [(0, .inr (some [30])), (1, .inl (7, 7)), (2, .inl (0, 1)), (3, .inl (0, 1600))], [(3, -1)], 1600)]
theorem k1_X10_takesProduct_7 {E : zM → Prop} (h : aH1 E) : aCv (aΘ1 E) 4 c1_X10_takesProduct_7 := aMeth (D := 3) (c := c1_X10_takesProduct_7) (tb := b1_X10_takesProduct_7) (ns := n1_X10_takesProduct_7) (fuel := 3000) rfl (q1_X10_takesProduct_7 h) (by decide +kernel)
abbrev c1_X10_takesSum_7 : aCt := (104, [.inr (some [30]), .inl (7, 7)], some (.inl (0, 1)))
def a1_X10_takesSum_7_0 : List (Nat × aF) := [(0, a_lda 0 1), (1, a_ldi 1 1), (2, a_cv aT1 c1_X10_takesProduct_7 1 10), (5, a_sti 5 2 1), (6, a_pi (0) 1), (7, a_sti 5 3 1), (8, a_ldi 3 1), (9, a_pi (1600) 3), (12, a_ic d_ge d_lt 3 95), (15, a_ldi 2 1), (16, a_if c_eq c_ne 3 95), (19, a_lda 0 1)]
theorem p1_X10_takesSum_7_0 {E : zM → Prop} (h : aH1 E) : aP0 (aΘ1 E) 4 tX10_takesSum_0 a1_X10_takesSum_7_0 := ⟨rfl, aok_lda, rfl, aok_ldi, rfl, aok_cv (c := c1_X10_takesProduct_7) (D' := 4) (k1_X10_takesProduct_7 h) (by decide), rfl, aok_sti, rfl, aok_pi rfl, rfl, aok_sti, rfl, aok_ldi, rfl, aok_pi rfl, rfl, aok_ic sj_ge, rfl, aok_ldi, rfl, aok_if si_eq, rfl, aok_lda, trivial⟩
def a1_X10_takesSum_7_1 : List (Nat × aF) := [(20, a_gf aT1 10 0 (.inr (some [27]))), (23, a_pi (43) 2), (25, a_cv aT1 c1_X5_isSign 1 5), (28, a_if c_ne c_eq 3 43), (31, a_lda 0 1), (32, a_gf aT1 10 0 (.inr (some [27]))), (35, a_pi (45) 2), (37, a_cv aT1 c1_X5_isSign 1 5), (40, a_if c_eq c_ne 3 95), (43, a_lda 0 1), (44, a_gf aT1 10 0 (.inr (some [27]))), (47, a_gf aT1 5 5 (.inl (-2147483648, 2147483647)))]
theorem p1_X10_takesSum_7_1 {E : zM → Prop} (h : aH1 E) : aP0 (aΘ1 E) 4 tX10_takesSum_1 a1_X10_takesSum_7_1 := ⟨rfl, aok_gf, rfl, aok_pi rfl, rfl, aok_cv (c := c1_X5_isSign) (D' := 1) (k1_X5_isSign h) (by decide), rfl, aok_if si_ne, rfl, aok_lda, rfl, aok_gf, rfl, aok_pi rfl, rfl, aok_cv (c := c1_X5_isSign) (D' := 1) (k1_X5_isSign h) (by decide), rfl, aok_if si_eq, rfl, aok_lda, rfl, aok_gf, rfl, aok_gf, trivial⟩
def a1_X10_takesSum_7_2 : List (Nat × aF) := [(50, a_sti 5 4 2), (52, a_lda 0 1), (53, a_gf aT1 10 0 (.inr (some [27]))), (56, a_cv aT1 c1_X5_advance 0 5), (59, a_lda 0 1), (60, a_ldi 1 1), (61, a_cv aT1 c1_X10_takesProduct_7 1 10), (64, a_if c_eq c_ne 3 87), (67, a_lda 0 1), (68, a_gf aT1 10 1 (.inr (some [10, 22]))), (71, a_pi (10000) 3), (74, a_ldi 4 2)]
theorem p1_X10_takesSum_7_2 {E : zM → Prop} (h : aH1 E) : aP0 (aΘ1 E) 4 tX10_takesSum_2 a1_X10_takesSum_7_2 := ⟨rfl, aok_sti, rfl, aok_lda, rfl, aok_gf, rfl, aok_cv (c := c1_X5_advance) (D' := 2) (k1_X5_advance h) (by decide), rfl, aok_lda, rfl, aok_ldi, rfl, aok_cv (c := c1_X10_takesProduct_7) (D' := 4) (k1_X10_takesProduct_7 h) (by decide), rfl, aok_if si_eq, rfl, aok_lda, rfl, aok_gf, rfl, aok_pi rfl, rfl, aok_ldi, trivial⟩
def a1_X10_takesSum_7_3 : List (Nat × aF) := [(76, a_b2 g_add), (77, a_cv aT1 c1_X7_put 1 7), (80, a_if c_eq c_ne 3 87), (83, a_pi (1) 1), (84, a_gt 88), (87, a_pi (0) 1), (88, a_sti 5 2 1), (89, a_iw 5 3 (1)), (92, a_gt 8), (95, a_ldi 2 1), (96, a_ri true)]
theorem p1_X10_takesSum_7_3 {E : zM → Prop} (h : aH1 E) : aP0 (aΘ1 E) 4 tX10_takesSum_3 a1_X10_takesSum_7_3 := ⟨rfl, aok_b2 sd_add, rfl, aok_cv (c := c1_X7_put) (D' := 1) (k1_X7_put h) (by decide), rfl, aok_if si_eq, rfl, aok_pi rfl, rfl, aok_gt, rfl, aok_pi rfl, rfl, aok_sti, rfl, aok_iw rfl, rfl, aok_gt, rfl, aok_ldi, rfl, aok_ri, trivial⟩
def b1_X10_takesSum_7 : aTb := [(20, a1_X10_takesSum_7_0), (50, a1_X10_takesSum_7_1), (76, a1_X10_takesSum_7_2), (100000, a1_X10_takesSum_7_3)]
theorem q1_X10_takesSum_7 {E : zM → Prop} (h : aH1 E) : aP1 (aΘ1 E) 4 tX10_takesSum b1_X10_takesSum_7 := ⟨rfl, p1_X10_takesSum_7_0 h, rfl, p1_X10_takesSum_7_1 h, rfl, p1_X10_takesSum_7_2 h, rfl, p1_X10_takesSum_7_3 h, trivial⟩
def n1_X10_takesSum_7 : List aNd := [(8, [(0, .inr (some [30])), (1, .inl (7, 7)), (2, .inl (0, 1)), (3, .inl (0, 1600))], [(3, -1)], 1600)]
theorem k1_X10_takesSum_7 {E : zM → Prop} (h : aH1 E) : aCv (aΘ1 E) 5 c1_X10_takesSum_7 := aMeth (D := 4) (c := c1_X10_takesSum_7) (tb := b1_X10_takesSum_7) (ns := n1_X10_takesSum_7) (fuel := 3000) rfl (q1_X10_takesSum_7 h) (by decide +kernel)
abbrev c1_X5_takesSign : aCt := (65, [.inr (some [27]), .inl (41, 93)], some (.inl (0, 1)))
def a1_X5_takesSign_0 : List (Nat × aF) := [(0, a_lda 0 1), (1, a_ldi 1 1), (2, a_cv aT1 c1_X5_isSign 1 5), (5, a_if c_ne c_eq 3 18), (8, a_lda 0 1), (9, a_pi (1) 1), (10, a_lda 0 1), (11, a_gf aT1 5 7 (.inl (-2147483648, 2147483647))), (14, a_cv aT1 c1_X5_faults 2 5), (17, a_ri true), (18, a_lda 0 1), (19, a_cv aT1 c1_X5_advance 0 5)]
theorem p1_X5_takesSign_0 {E : zM → Prop} (h : aH1 E) : aP0 (aΘ1 E) 2 tX5_takesSign_0 a1_X5_takesSign_0 := ⟨rfl, aok_lda, rfl, aok_ldi, rfl, aok_cv (c := c1_X5_isSign) (D' := 1) (k1_X5_isSign h) (by decide), rfl, aok_if si_ne, rfl, aok_lda, rfl, aok_pi rfl, rfl, aok_lda, rfl, aok_gf, rfl, aok_cv (c := c1_X5_faults) (D' := 1) (k1_X5_faults h) (by decide), rfl, aok_ri, rfl, aok_lda, rfl, aok_cv (c := c1_X5_advance) (D' := 2) (k1_X5_advance h) (by decide), trivial⟩
def a1_X5_takesSign_1 : List (Nat × aF) := [(22, a_pi (1) 1), (23, a_ri true)]
theorem p1_X5_takesSign_1 {E : zM → Prop} (h : aH1 E) : aP0 (aΘ1 E) 2 tX5_takesSign_1 a1_X5_takesSign_1 := ⟨rfl, aok_pi rfl, rfl, aok_ri, trivial⟩
def b1_X5_takesSign : aTb := [(22, a1_X5_takesSign_0), (100000, a1_X5_takesSign_1)]
theorem q1_X5_takesSign {E : zM → Prop} (h : aH1 E) : aP1 (aΘ1 E) 2 tX5_takesSign b1_X5_takesSign := ⟨rfl, p1_X5_takesSign_0 h, rfl, p1_X5_takesSign_1 h, trivial⟩
def n1_X5_takesSign : List aNd := []
theorem k1_X5_takesSign {E : zM → Prop} (h : aH1 E) : aCv (aΘ1 E) 3 c1_X5_takesSign := aMeth (D := 2) (c := c1_X5_takesSign) (tb := b1_X5_takesSign) (ns := n1_X5_takesSign) (fuel := 3000) rfl (q1_X5_takesSign h) (by decide +kernel)
abbrev c1_X10_takesPair_7 : aCt := (109, [.inr (some [30]), .inl (7, 7)], some (.inl (0, 1)))
def a1_X10_takesPair_7_0 : List (Nat × aF) := [(0, a_lda 0 1), (1, a_ldi 1 1), (2, a_cv aT1 c1_X10_takesSum_7 1 10), (5, a_if c_eq c_ne 3 44), (8, a_lda 0 1), (9, a_gf aT1 10 0 (.inr (some [27]))), (12, a_pi (44) 2), (14, a_cv aT1 c1_X5_takesSign 1 5), (17, a_if c_eq c_ne 3 44), (20, a_lda 0 1), (21, a_ldi 1 1), (22, a_cv aT1 c1_X10_takesSum_7 1 10)]
theorem p1_X10_takesPair_7_0 {E : zM → Prop} (h : aH1 E) : aP0 (aΘ1 E) 5 tX10_takesPair_0 a1_X10_takesPair_7_0 := ⟨rfl, aok_lda, rfl, aok_ldi, rfl, aok_cv (c := c1_X10_takesSum_7) (D' := 5) (k1_X10_takesSum_7 h) (by decide), rfl, aok_if si_eq, rfl, aok_lda, rfl, aok_gf, rfl, aok_pi rfl, rfl, aok_cv (c := c1_X5_takesSign) (D' := 3) (k1_X5_takesSign h) (by decide), rfl, aok_if si_eq, rfl, aok_lda, rfl, aok_ldi, rfl, aok_cv (c := c1_X10_takesSum_7) (D' := 5) (k1_X10_takesSum_7 h) (by decide), trivial⟩
def a1_X10_takesPair_7_1 : List (Nat × aF) := [(25, a_if c_eq c_ne 3 44), (28, a_lda 0 1), (29, a_gf aT1 10 0 (.inr (some [27]))), (32, a_pi (41) 2), (34, a_cv aT1 c1_X5_takesSign 1 5), (37, a_if c_eq c_ne 3 44), (40, a_pi (1) 1), (41, a_gt 45), (44, a_pi (0) 1), (45, a_ri true)]
theorem p1_X10_takesPair_7_1 {E : zM → Prop} (h : aH1 E) : aP0 (aΘ1 E) 5 tX10_takesPair_1 a1_X10_takesPair_7_1 := ⟨rfl, aok_if si_eq, rfl, aok_lda, rfl, aok_gf, rfl, aok_pi rfl, rfl, aok_cv (c := c1_X5_takesSign) (D' := 3) (k1_X5_takesSign h) (by decide), rfl, aok_if si_eq, rfl, aok_pi rfl, rfl, aok_gt, rfl, aok_pi rfl, rfl, aok_ri, trivial⟩
def b1_X10_takesPair_7 : aTb := [(25, a1_X10_takesPair_7_0), (100000, a1_X10_takesPair_7_1)]
theorem q1_X10_takesPair_7 {E : zM → Prop} (h : aH1 E) : aP1 (aΘ1 E) 5 tX10_takesPair b1_X10_takesPair_7 := ⟨rfl, p1_X10_takesPair_7_0 h, rfl, p1_X10_takesPair_7_1 h, trivial⟩
def n1_X10_takesPair_7 : List aNd := []
theorem k1_X10_takesPair_7 {E : zM → Prop} (h : aH1 E) : aCv (aΘ1 E) 6 c1_X10_takesPair_7 := aMeth (D := 5) (c := c1_X10_takesPair_7) (tb := b1_X10_takesPair_7) (ns := n1_X10_takesPair_7) (fuel := 3000) rfl (q1_X10_takesPair_7 h) (by decide +kernel)
abbrev c1_X10_takesComparison_7 : aCt := (103, [.inr (some [30]), .inl (7, 7)], some (.inl (0, 1)))
def a1_X10_takesComparison_7_0 : List (Nat × aF) := [(0, a_lda 0 1), (1, a_gf aT1 10 0 (.inr (some [27]))), (4, a_gf aT1 5 5 (.inl (-2147483648, 2147483647))), (7, a_sti 3 2 1), (8, a_lda 0 1), (9, a_gf aT1 10 0 (.inr (some [27]))), (12, a_pi (60) 2), (14, a_cv aT1 c1_X5_isSign 1 5), (17, a_if c_ne c_eq 3 60), (20, a_lda 0 1), (21, a_gf aT1 10 0 (.inr (some [27]))), (24, a_pi (62) 2)]
theorem p1_X10_takesComparison_7_0 {E : zM → Prop} (h : aH1 E) : aP0 (aΘ1 E) 5 tX10_takesComparison_0 a1_X10_takesComparison_7_0 := ⟨rfl, aok_lda, rfl, aok_gf, rfl, aok_gf, rfl, aok_sti, rfl, aok_lda, rfl, aok_gf, rfl, aok_pi rfl, rfl, aok_cv (c := c1_X5_isSign) (D' := 1) (k1_X5_isSign h) (by decide), rfl, aok_if si_ne, rfl, aok_lda, rfl, aok_gf, rfl, aok_pi rfl, trivial⟩
def a1_X10_takesComparison_7_1 : List (Nat × aF) := [(26, a_cv aT1 c1_X5_isSign 1 5), (29, a_if c_ne c_eq 3 60), (32, a_lda 0 1), (33, a_gf aT1 10 0 (.inr (some [27]))), (36, a_pi (61) 2), (38, a_cv aT1 c1_X5_isSign 1 5), (41, a_if c_ne c_eq 3 60), (44, a_lda 0 1), (45, a_gf aT1 10 0 (.inr (some [27]))), (48, a_pi (1) 1), (49, a_lda 0 1), (50, a_gf aT1 10 0 (.inr (some [27])))]
theorem p1_X10_takesComparison_7_1 {E : zM → Prop} (h : aH1 E) : aP0 (aΘ1 E) 5 tX10_takesComparison_1 a1_X10_takesComparison_7_1 := ⟨rfl, aok_cv (c := c1_X5_isSign) (D' := 1) (k1_X5_isSign h) (by decide), rfl, aok_if si_ne, rfl, aok_lda, rfl, aok_gf, rfl, aok_pi rfl, rfl, aok_cv (c := c1_X5_isSign) (D' := 1) (k1_X5_isSign h) (by decide), rfl, aok_if si_ne, rfl, aok_lda, rfl, aok_gf, rfl, aok_pi rfl, rfl, aok_lda, rfl, aok_gf, trivial⟩
def a1_X10_takesComparison_7_2 : List (Nat × aF) := [(53, a_gf aT1 5 7 (.inl (-2147483648, 2147483647))), (56, a_cv aT1 c1_X5_faults 2 5), (59, a_ri true), (60, a_lda 0 1), (61, a_gf aT1 10 0 (.inr (some [27]))), (64, a_cv aT1 c1_X5_advance 0 5), (67, a_lda 0 1), (68, a_ldi 1 1), (69, a_cv aT1 c1_X10_takesSum_7 1 10), (72, a_if c_eq c_ne 3 94), (75, a_lda 0 1), (76, a_gf aT1 10 1 (.inr (some [10, 22])))]
theorem p1_X10_takesComparison_7_2 {E : zM → Prop} (h : aH1 E) : aP0 (aΘ1 E) 5 tX10_takesComparison_2 a1_X10_takesComparison_7_2 := ⟨rfl, aok_gf, rfl, aok_cv (c := c1_X5_faults) (D' := 1) (k1_X5_faults h) (by decide), rfl, aok_ri, rfl, aok_lda, rfl, aok_gf, rfl, aok_cv (c := c1_X5_advance) (D' := 2) (k1_X5_advance h) (by decide), rfl, aok_lda, rfl, aok_ldi, rfl, aok_cv (c := c1_X10_takesSum_7) (D' := 5) (k1_X10_takesSum_7 h) (by decide), rfl, aok_if si_eq, rfl, aok_lda, rfl, aok_gf, trivial⟩
def a1_X10_takesComparison_7_3 : List (Nat × aF) := [(79, a_pi (10000) 3), (82, a_ldi 2 1), (83, a_b2 g_add), (84, a_cv aT1 c1_X7_put 1 7), (87, a_if c_eq c_ne 3 94), (90, a_pi (1) 1), (91, a_gt 95), (94, a_pi (0) 1), (95, a_ri true)]
theorem p1_X10_takesComparison_7_3 {E : zM → Prop} (h : aH1 E) : aP0 (aΘ1 E) 5 tX10_takesComparison_3 a1_X10_takesComparison_7_3 := ⟨rfl, aok_pi rfl, rfl, aok_ldi, rfl, aok_b2 sd_add, rfl, aok_cv (c := c1_X7_put) (D' := 1) (k1_X7_put h) (by decide), rfl, aok_if si_eq, rfl, aok_pi rfl, rfl, aok_gt, rfl, aok_pi rfl, rfl, aok_ri, trivial⟩
def b1_X10_takesComparison_7 : aTb := [(26, a1_X10_takesComparison_7_0), (53, a1_X10_takesComparison_7_1), (79, a1_X10_takesComparison_7_2), (100000, a1_X10_takesComparison_7_3)]
theorem q1_X10_takesComparison_7 {E : zM → Prop} (h : aH1 E) : aP1 (aΘ1 E) 5 tX10_takesComparison b1_X10_takesComparison_7 := ⟨rfl, p1_X10_takesComparison_7_0 h, rfl, p1_X10_takesComparison_7_1 h, rfl, p1_X10_takesComparison_7_2 h, rfl, p1_X10_takesComparison_7_3 h, trivial⟩
def n1_X10_takesComparison_7 : List aNd := []
theorem k1_X10_takesComparison_7 {E : zM → Prop} (h : aH1 E) : aCv (aΘ1 E) 6 c1_X10_takesComparison_7 := aMeth (D := 5) (c := c1_X10_takesComparison_7) (tb := b1_X10_takesComparison_7) (ns := n1_X10_takesComparison_7) (fuel := 3000) rfl (q1_X10_takesComparison_7 h) (by decide +kernel)
abbrev c1_X10_takesFact_7 : aCt := (102, [.inr (some [30]), .inl (7, 7)], some (.inl (0, 1)))
def a1_X10_takesFact_7_0 : List (Nat × aF) := [(0, a_lda 0 1), (1, a_gf aT1 10 0 (.inr (some [27]))), (4, a_pi (22) 2), (6, a_cv aT1 c1_X5_isOwn 1 5), (9, a_if c_eq c_ne 3 50), (12, a_lda 0 1), (13, a_ldi 1 1), (14, a_pi (1) 1), (15, a_cv aT1 c1_X10_opens_7 2 10), (18, a_if c_eq c_ne 3 48), (21, a_lda 0 1), (22, a_ldi 1 1)]
theorem p1_X10_takesFact_7_0 {E : zM → Prop} (h : aH1 E) : aP0 (aΘ1 E) 6 tX10_takesFact_0 a1_X10_takesFact_7_0 := ⟨rfl, aok_lda, rfl, aok_gf, rfl, aok_pi rfl, rfl, aok_cv (c := c1_X5_isOwn) (D' := 1) (k1_X5_isOwn h) (by decide), rfl, aok_if si_eq, rfl, aok_lda, rfl, aok_ldi, rfl, aok_pi rfl, rfl, aok_cv (c := c1_X10_opens_7) (D' := 2) (k1_X10_opens_7 h) (by decide), rfl, aok_if si_eq, rfl, aok_lda, rfl, aok_ldi, trivial⟩
def a1_X10_takesFact_7_1 : List (Nat × aF) := [(23, a_pi (1) 1), (24, a_b2 g_add), (25, a_no), (28, a_if c_eq c_ne 3 48), (31, a_lda 0 1), (32, a_no), (35, a_pi (10022) 3), (38, a_no), (41, a_if c_eq c_ne 3 48), (44, a_pi (1) 1), (45, a_gt 49), (48, a_pi (0) 1)]
theorem p1_X10_takesFact_7_1 {E : zM → Prop} (h : aH1 E) : aP0 (aΘ1 E) 6 tX10_takesFact_1 a1_X10_takesFact_7_1 := ⟨rfl, aok_pi rfl, rfl, aok_b2 sd_add, rfl, aok_no, rfl, aok_if si_eq, rfl, aok_lda, rfl, aok_no, rfl, aok_pi rfl, rfl, aok_no, rfl, aok_if si_eq, rfl, aok_pi rfl, rfl, aok_gt, rfl, aok_pi rfl, trivial⟩
def a1_X10_takesFact_7_2 : List (Nat × aF) := [(49, a_ri true), (50, a_lda 0 1), (51, a_gf aT1 10 0 (.inr (some [27]))), (54, a_pi (91) 2), (56, a_cv aT1 c1_X5_isSign 1 5), (59, a_if c_eq c_ne 3 99), (62, a_lda 0 1), (63, a_ldi 1 1), (64, a_pi (1) 1), (65, a_cv aT1 c1_X10_opens_7 2 10), (68, a_if c_eq c_ne 3 97), (71, a_lda 0 1)]
theorem p1_X10_takesFact_7_2 {E : zM → Prop} (h : aH1 E) : aP0 (aΘ1 E) 6 tX10_takesFact_2 a1_X10_takesFact_7_2 := ⟨rfl, aok_ri, rfl, aok_lda, rfl, aok_gf, rfl, aok_pi rfl, rfl, aok_cv (c := c1_X5_isSign) (D' := 1) (k1_X5_isSign h) (by decide), rfl, aok_if si_eq, rfl, aok_lda, rfl, aok_ldi, rfl, aok_pi rfl, rfl, aok_cv (c := c1_X10_opens_7) (D' := 2) (k1_X10_opens_7 h) (by decide), rfl, aok_if si_eq, rfl, aok_lda, trivial⟩
def a1_X10_takesFact_7_3 : List (Nat × aF) := [(72, a_ldi 1 1), (73, a_pi (1) 1), (74, a_b2 g_add), (75, a_no), (78, a_if c_eq c_ne 3 97), (81, a_lda 0 1), (82, a_no), (85, a_pi (93) 2), (87, a_no), (90, a_if c_eq c_ne 3 97), (93, a_pi (1) 1), (94, a_gt 98)]
theorem p1_X10_takesFact_7_3 {E : zM → Prop} (h : aH1 E) : aP0 (aΘ1 E) 6 tX10_takesFact_3 a1_X10_takesFact_7_3 := ⟨rfl, aok_ldi, rfl, aok_pi rfl, rfl, aok_b2 sd_add, rfl, aok_no, rfl, aok_if si_eq, rfl, aok_lda, rfl, aok_no, rfl, aok_pi rfl, rfl, aok_no, rfl, aok_if si_eq, rfl, aok_pi rfl, rfl, aok_gt, trivial⟩
def a1_X10_takesFact_7_4 : List (Nat × aF) := [(97, a_pi (0) 1), (98, a_ri true), (99, a_lda 0 1), (100, a_gf aT1 10 0 (.inr (some [27]))), (103, a_pi (23) 2), (105, a_cv aT1 c1_X5_isOwn 1 5), (108, a_if c_eq c_ne 3 129), (111, a_lda 0 1), (112, a_gf aT1 10 0 (.inr (some [27]))), (115, a_cv aT1 c1_X5_advance 0 5), (118, a_lda 0 1), (119, a_gf aT1 10 1 (.inr (some [10, 22])))]
theorem p1_X10_takesFact_7_4 {E : zM → Prop} (h : aH1 E) : aP0 (aΘ1 E) 6 tX10_takesFact_4 a1_X10_takesFact_7_4 := ⟨rfl, aok_pi rfl, rfl, aok_ri, rfl, aok_lda, rfl, aok_gf, rfl, aok_pi rfl, rfl, aok_cv (c := c1_X5_isOwn) (D' := 1) (k1_X5_isOwn h) (by decide), rfl, aok_if si_eq, rfl, aok_lda, rfl, aok_gf, rfl, aok_cv (c := c1_X5_advance) (D' := 2) (k1_X5_advance h) (by decide), rfl, aok_lda, rfl, aok_gf, trivial⟩
def a1_X10_takesFact_7_5 : List (Nat × aF) := [(122, a_pi (10023) 3), (125, a_cv aT1 c1_X7_put 1 7), (128, a_ri true), (129, a_lda 0 1), (130, a_ldi 1 1), (131, a_cv aT1 c1_X10_takesSum_7 1 10), (134, a_if c_eq c_ne 3 149), (137, a_lda 0 1), (138, a_ldi 1 1), (139, a_cv aT1 c1_X10_takesComparison_7 1 10), (142, a_if c_eq c_ne 3 149), (145, a_pi (1) 1)]
theorem p1_X10_takesFact_7_5 {E : zM → Prop} (h : aH1 E) : aP0 (aΘ1 E) 6 tX10_takesFact_5 a1_X10_takesFact_7_5 := ⟨rfl, aok_pi rfl, rfl, aok_cv (c := c1_X7_put) (D' := 1) (k1_X7_put h) (by decide), rfl, aok_ri, rfl, aok_lda, rfl, aok_ldi, rfl, aok_cv (c := c1_X10_takesSum_7) (D' := 5) (k1_X10_takesSum_7 h) (by decide), rfl, aok_if si_eq, rfl, aok_lda, rfl, aok_ldi, rfl, aok_cv (c := c1_X10_takesComparison_7) (D' := 6) (k1_X10_takesComparison_7 h) (by decide), rfl, aok_if si_eq, rfl, aok_pi rfl, trivial⟩
def a1_X10_takesFact_7_6 : List (Nat × aF) := [(146, a_gt 150), (149, a_pi (0) 1), (150, a_ri true)]
theorem p1_X10_takesFact_7_6 {E : zM → Prop} (h : aH1 E) : aP0 (aΘ1 E) 6 tX10_takesFact_6 a1_X10_takesFact_7_6 := ⟨rfl, aok_gt, rfl, aok_pi rfl, rfl, aok_ri, trivial⟩
def b1_X10_takesFact_7 : aTb := [(23, a1_X10_takesFact_7_0), (49, a1_X10_takesFact_7_1), (72, a1_X10_takesFact_7_2), (97, a1_X10_takesFact_7_3), (122, a1_X10_takesFact_7_4), (146, a1_X10_takesFact_7_5), (100000, a1_X10_takesFact_7_6)]
theorem q1_X10_takesFact_7 {E : zM → Prop} (h : aH1 E) : aP1 (aΘ1 E) 6 tX10_takesFact b1_X10_takesFact_7 := ⟨rfl, p1_X10_takesFact_7_0 h, rfl, p1_X10_takesFact_7_1 h, rfl, p1_X10_takesFact_7_2 h, rfl, p1_X10_takesFact_7_3 h, rfl, p1_X10_takesFact_7_4 h, rfl, p1_X10_takesFact_7_5 h, rfl, p1_X10_takesFact_7_6 h, trivial⟩
def n1_X10_takesFact_7 : List aNd := []
theorem k1_X10_takesFact_7 {E : zM → Prop} (h : aH1 E) : aCv (aΘ1 E) 7 c1_X10_takesFact_7 := aMeth (D := 6) (c := c1_X10_takesFact_7) (tb := b1_X10_takesFact_7) (ns := n1_X10_takesFact_7) (fuel := 3000) rfl (q1_X10_takesFact_7 h) (by decide +kernel)
abbrev c1_X10_takesBoth_7 : aCt := (101, [.inr (some [30]), .inl (7, 7)], some (.inl (0, 1)))
def a1_X10_takesBoth_7_0 : List (Nat × aF) := [(0, a_lda 0 1), (1, a_ldi 1 1), (2, a_cv aT1 c1_X10_takesFact_7 1 10), (5, a_sti 4 2 1), (6, a_pi (0) 1), (7, a_sti 4 3 1), (8, a_ldi 3 1), (9, a_pi (1600) 3), (12, a_ic d_ge d_lt 3 71), (15, a_ldi 2 1), (16, a_if c_eq c_ne 3 71), (19, a_lda 0 1)]
theorem p1_X10_takesBoth_7_0 {E : zM → Prop} (h : aH1 E) : aP0 (aΘ1 E) 7 tX10_takesBoth_0 a1_X10_takesBoth_7_0 := ⟨rfl, aok_lda, rfl, aok_ldi, rfl, aok_cv (c := c1_X10_takesFact_7) (D' := 7) (k1_X10_takesFact_7 h) (by decide), rfl, aok_sti, rfl, aok_pi rfl, rfl, aok_sti, rfl, aok_ldi, rfl, aok_pi rfl, rfl, aok_ic sj_ge, rfl, aok_ldi, rfl, aok_if si_eq, rfl, aok_lda, trivial⟩
def a1_X10_takesBoth_7_1 : List (Nat × aF) := [(20, a_gf aT1 10 0 (.inr (some [27]))), (23, a_pi (21) 2), (25, a_cv aT1 c1_X5_isOwn 1 5), (28, a_if c_eq c_ne 3 71), (31, a_lda 0 1), (32, a_gf aT1 10 0 (.inr (some [27]))), (35, a_cv aT1 c1_X5_advance 0 5), (38, a_lda 0 1), (39, a_ldi 1 1), (40, a_cv aT1 c1_X10_takesFact_7 1 10), (43, a_if c_eq c_ne 3 63), (46, a_lda 0 1)]
theorem p1_X10_takesBoth_7_1 {E : zM → Prop} (h : aH1 E) : aP0 (aΘ1 E) 7 tX10_takesBoth_1 a1_X10_takesBoth_7_1 := ⟨rfl, aok_gf, rfl, aok_pi rfl, rfl, aok_cv (c := c1_X5_isOwn) (D' := 1) (k1_X5_isOwn h) (by decide), rfl, aok_if si_eq, rfl, aok_lda, rfl, aok_gf, rfl, aok_cv (c := c1_X5_advance) (D' := 2) (k1_X5_advance h) (by decide), rfl, aok_lda, rfl, aok_ldi, rfl, aok_cv (c := c1_X10_takesFact_7) (D' := 7) (k1_X10_takesFact_7 h) (by decide), rfl, aok_if si_eq, rfl, aok_lda, trivial⟩
def a1_X10_takesBoth_7_2 : List (Nat × aF) := [(47, a_gf aT1 10 1 (.inr (some [10, 22]))), (50, a_pi (10021) 3), (53, a_cv aT1 c1_X7_put 1 7), (56, a_if c_eq c_ne 3 63), (59, a_pi (1) 1), (60, a_gt 64), (63, a_pi (0) 1), (64, a_sti 4 2 1), (65, a_iw 4 3 (1)), (68, a_gt 8), (71, a_ldi 2 1), (72, a_ri true)]
theorem p1_X10_takesBoth_7_2 {E : zM → Prop} (h : aH1 E) : aP0 (aΘ1 E) 7 tX10_takesBoth_2 a1_X10_takesBoth_7_2 := ⟨rfl, aok_gf, rfl, aok_pi rfl, rfl, aok_cv (c := c1_X7_put) (D' := 1) (k1_X7_put h) (by decide), rfl, aok_if si_eq, rfl, aok_pi rfl, rfl, aok_gt, rfl, aok_pi rfl, rfl, aok_sti, rfl, aok_iw rfl, rfl, aok_gt, rfl, aok_ldi, rfl, aok_ri, trivial⟩
def b1_X10_takesBoth_7 : aTb := [(20, a1_X10_takesBoth_7_0), (47, a1_X10_takesBoth_7_1), (100000, a1_X10_takesBoth_7_2)]
theorem q1_X10_takesBoth_7 {E : zM → Prop} (h : aH1 E) : aP1 (aΘ1 E) 7 tX10_takesBoth b1_X10_takesBoth_7 := ⟨rfl, p1_X10_takesBoth_7_0 h, rfl, p1_X10_takesBoth_7_1 h, rfl, p1_X10_takesBoth_7_2 h, trivial⟩
def n1_X10_takesBoth_7 : List aNd := [(8, [(0, .inr (some [30])), (1, .inl (7, 7)), (2, .inl (0, 1)), (3, .inl (0, 1600))], [(3, -1)], 1600)]
theorem k1_X10_takesBoth_7 {E : zM → Prop} (h : aH1 E) : aCv (aΘ1 E) 8 c1_X10_takesBoth_7 := aMeth (D := 7) (c := c1_X10_takesBoth_7) (tb := b1_X10_takesBoth_7) (ns := n1_X10_takesBoth_7) (fuel := 3000) rfl (q1_X10_takesBoth_7 h) (by decide +kernel)
abbrev c1_X10_takesTest_7 : aCt := (100, [.inr (some [30]), .inl (7, 7)], some (.inl (0, 1)))
def a1_X10_takesTest_7_0 : List (Nat × aF) := [(0, a_lda 0 1), (1, a_ldi 1 1), (2, a_cv aT1 c1_X10_takesBoth_7 1 10), (5, a_sti 4 2 1), (6, a_pi (0) 1), (7, a_sti 4 3 1), (8, a_ldi 3 1), (9, a_pi (1600) 3), (12, a_ic d_ge d_lt 3 71), (15, a_ldi 2 1), (16, a_if c_eq c_ne 3 71), (19, a_lda 0 1)]
theorem p1_X10_takesTest_7_0 {E : zM → Prop} (h : aH1 E) : aP0 (aΘ1 E) 8 tX10_takesTest_0 a1_X10_takesTest_7_0 := ⟨rfl, aok_lda, rfl, aok_ldi, rfl, aok_cv (c := c1_X10_takesBoth_7) (D' := 8) (k1_X10_takesBoth_7 h) (by decide), rfl, aok_sti, rfl, aok_pi rfl, rfl, aok_sti, rfl, aok_ldi, rfl, aok_pi rfl, rfl, aok_ic sj_ge, rfl, aok_ldi, rfl, aok_if si_eq, rfl, aok_lda, trivial⟩
def a1_X10_takesTest_7_1 : List (Nat × aF) := [(20, a_gf aT1 10 0 (.inr (some [27]))), (23, a_pi (20) 2), (25, a_cv aT1 c1_X5_isOwn 1 5), (28, a_if c_eq c_ne 3 71), (31, a_lda 0 1), (32, a_gf aT1 10 0 (.inr (some [27]))), (35, a_cv aT1 c1_X5_advance 0 5), (38, a_lda 0 1), (39, a_ldi 1 1), (40, a_cv aT1 c1_X10_takesBoth_7 1 10), (43, a_if c_eq c_ne 3 63), (46, a_lda 0 1)]
theorem p1_X10_takesTest_7_1 {E : zM → Prop} (h : aH1 E) : aP0 (aΘ1 E) 8 tX10_takesTest_1 a1_X10_takesTest_7_1 := ⟨rfl, aok_gf, rfl, aok_pi rfl, rfl, aok_cv (c := c1_X5_isOwn) (D' := 1) (k1_X5_isOwn h) (by decide), rfl, aok_if si_eq, rfl, aok_lda, rfl, aok_gf, rfl, aok_cv (c := c1_X5_advance) (D' := 2) (k1_X5_advance h) (by decide), rfl, aok_lda, rfl, aok_ldi, rfl, aok_cv (c := c1_X10_takesBoth_7) (D' := 8) (k1_X10_takesBoth_7 h) (by decide), rfl, aok_if si_eq, rfl, aok_lda, trivial⟩
def a1_X10_takesTest_7_2 : List (Nat × aF) := [(47, a_gf aT1 10 1 (.inr (some [10, 22]))), (50, a_pi (10020) 3), (53, a_cv aT1 c1_X7_put 1 7), (56, a_if c_eq c_ne 3 63), (59, a_pi (1) 1), (60, a_gt 64), (63, a_pi (0) 1), (64, a_sti 4 2 1), (65, a_iw 4 3 (1)), (68, a_gt 8), (71, a_ldi 2 1), (72, a_ri true)]
theorem p1_X10_takesTest_7_2 {E : zM → Prop} (h : aH1 E) : aP0 (aΘ1 E) 8 tX10_takesTest_2 a1_X10_takesTest_7_2 := ⟨rfl, aok_gf, rfl, aok_pi rfl, rfl, aok_cv (c := c1_X7_put) (D' := 1) (k1_X7_put h) (by decide), rfl, aok_if si_eq, rfl, aok_pi rfl, rfl, aok_gt, rfl, aok_pi rfl, rfl, aok_sti, rfl, aok_iw rfl, rfl, aok_gt, rfl, aok_ldi, rfl, aok_ri, trivial⟩
def b1_X10_takesTest_7 : aTb := [(20, a1_X10_takesTest_7_0), (47, a1_X10_takesTest_7_1), (100000, a1_X10_takesTest_7_2)]
theorem q1_X10_takesTest_7 {E : zM → Prop} (h : aH1 E) : aP1 (aΘ1 E) 8 tX10_takesTest b1_X10_takesTest_7 := ⟨rfl, p1_X10_takesTest_7_0 h, rfl, p1_X10_takesTest_7_1 h, rfl, p1_X10_takesTest_7_2 h, trivial⟩
def n1_X10_takesTest_7 : List aNd := [(8, [(0, .inr (some [30])), (1, .inl (7, 7)), (2, .inl (0, 1)), (3, .inl (0, 1600))], [(3, -1)], 1600)]
theorem k1_X10_takesTest_7 {E : zM → Prop} (h : aH1 E) : aCv (aΘ1 E) 9 c1_X10_takesTest_7 := aMeth (D := 8) (c := c1_X10_takesTest_7) (tb := b1_X10_takesTest_7) (ns := n1_X10_takesTest_7) (fuel := 3000) rfl (q1_X10_takesTest_7 h) (by decide +kernel)
abbrev c1_X10_takesPart_6 : aCt := (107, [.inr (some [30]), .inl (6, 6)], some (.inl (0, 1)))
def a1_X10_takesPart_6_0 : List (Nat × aF) := [(0, a_lda 0 1), (1, a_gf aT1 10 0 (.inr (some [27]))), (4, a_gf aT1 5 4 (.inl (-2147483648, 2147483647))), (7, a_pi (3) 1), (8, a_ic d_ne d_eq 3 35), (11, a_lda 0 1), (12, a_gf aT1 10 1 (.inr (some [10, 22]))), (15, a_lda 0 1), (16, a_gf aT1 10 0 (.inr (some [27]))), (19, a_gf aT1 5 5 (.inl (-2147483648, 2147483647))), (22, a_cv aT1 c1_X7_put 1 7), (25, a_pop)]
theorem p1_X10_takesPart_6_0 {E : zM → Prop} (h : aH1 E) : aP0 (aΘ1 E) 9 tX10_takesPart_0 a1_X10_takesPart_6_0 := ⟨rfl, aok_lda, rfl, aok_gf, rfl, aok_gf, rfl, aok_pi rfl, rfl, aok_ic sj_ne, rfl, aok_lda, rfl, aok_gf, rfl, aok_lda, rfl, aok_gf, rfl, aok_gf, rfl, aok_cv (c := c1_X7_put) (D' := 1) (k1_X7_put h) (by decide), rfl, aok_pop, trivial⟩
def a1_X10_takesPart_6_1 : List (Nat × aF) := [(26, a_lda 0 1), (27, a_gf aT1 10 0 (.inr (some [27]))), (30, a_cv aT1 c1_X5_advance 0 5), (33, a_pi (1) 1), (34, a_ri true), (35, a_lda 0 1), (36, a_gf aT1 10 0 (.inr (some [27]))), (39, a_pi (40) 2), (41, a_cv aT1 c1_X5_isSign 1 5), (44, a_if c_eq c_ne 3 84), (47, a_lda 0 1), (48, a_ldi 1 1)]
theorem p1_X10_takesPart_6_1 {E : zM → Prop} (h : aH1 E) : aP0 (aΘ1 E) 9 tX10_takesPart_1 a1_X10_takesPart_6_1 := ⟨rfl, aok_lda, rfl, aok_gf, rfl, aok_cv (c := c1_X5_advance) (D' := 2) (k1_X5_advance h) (by decide), rfl, aok_pi rfl, rfl, aok_ri, rfl, aok_lda, rfl, aok_gf, rfl, aok_pi rfl, rfl, aok_cv (c := c1_X5_isSign) (D' := 1) (k1_X5_isSign h) (by decide), rfl, aok_if si_eq, rfl, aok_lda, rfl, aok_ldi, trivial⟩
def a1_X10_takesPart_6_2 : List (Nat × aF) := [(49, a_pi (1) 1), (50, a_cv aT1 c1_X10_opens_6 2 10), (53, a_if c_eq c_ne 3 82), (56, a_lda 0 1), (57, a_ldi 1 1), (58, a_pi (1) 1), (59, a_b2 g_add), (60, a_cv aT1 c1_X10_takesSum_7 1 10), (63, a_if c_eq c_ne 3 82), (66, a_lda 0 1), (67, a_gf aT1 10 0 (.inr (some [27]))), (70, a_pi (41) 2)]
theorem p1_X10_takesPart_6_2 {E : zM → Prop} (h : aH1 E) : aP0 (aΘ1 E) 9 tX10_takesPart_2 a1_X10_takesPart_6_2 := ⟨rfl, aok_pi rfl, rfl, aok_cv (c := c1_X10_opens_6) (D' := 3) (k1_X10_opens_6 h) (by decide), rfl, aok_if si_eq, rfl, aok_lda, rfl, aok_ldi, rfl, aok_pi rfl, rfl, aok_b2 sd_add, rfl, aok_cv (c := c1_X10_takesSum_7) (D' := 5) (k1_X10_takesSum_7 h) (by decide), rfl, aok_if si_eq, rfl, aok_lda, rfl, aok_gf, rfl, aok_pi rfl, trivial⟩
def a1_X10_takesPart_6_3 : List (Nat × aF) := [(72, a_cv aT1 c1_X5_takesSign 1 5), (75, a_if c_eq c_ne 3 82), (78, a_pi (1) 1), (79, a_gt 83), (82, a_pi (0) 1), (83, a_ri true), (84, a_lda 0 1), (85, a_gf aT1 10 0 (.inr (some [27]))), (88, a_gf aT1 5 4 (.inl (-2147483648, 2147483647))), (91, a_pi (2) 1), (92, a_ic d_ne d_eq 3 105), (95, a_lda 0 1)]
theorem p1_X10_takesPart_6_3 {E : zM → Prop} (h : aH1 E) : aP0 (aΘ1 E) 9 tX10_takesPart_3 a1_X10_takesPart_6_3 := ⟨rfl, aok_cv (c := c1_X5_takesSign) (D' := 3) (k1_X5_takesSign h) (by decide), rfl, aok_if si_eq, rfl, aok_pi rfl, rfl, aok_gt, rfl, aok_pi rfl, rfl, aok_ri, rfl, aok_lda, rfl, aok_gf, rfl, aok_gf, rfl, aok_pi rfl, rfl, aok_ic sj_ne, rfl, aok_lda, trivial⟩
def a1_X10_takesPart_6_4 : List (Nat × aF) := [(96, a_gf aT1 10 0 (.inr (some [27]))), (99, a_gf aT1 5 5 (.inl (-2147483648, 2147483647))), (102, a_gt 106), (105, a_pi (-1) 1), (106, a_sti 3 2 1), (107, a_lda 0 1), (108, a_ldi 2 1), (109, a_cv aT1 c1_X10_isValue 1 10), (112, a_if c_eq c_ne 3 135), (115, a_lda 0 1), (116, a_gf aT1 10 0 (.inr (some [27]))), (119, a_cv aT1 c1_X5_advance 0 5)]
theorem p1_X10_takesPart_6_4 {E : zM → Prop} (h : aH1 E) : aP0 (aΘ1 E) 9 tX10_takesPart_4 a1_X10_takesPart_6_4 := ⟨rfl, aok_gf, rfl, aok_gf, rfl, aok_gt, rfl, aok_pi rfl, rfl, aok_sti, rfl, aok_lda, rfl, aok_ldi, rfl, aok_cv (c := c1_X10_isValue) (D' := 1) (k1_X10_isValue h) (by decide), rfl, aok_if si_eq, rfl, aok_lda, rfl, aok_gf, rfl, aok_cv (c := c1_X5_advance) (D' := 2) (k1_X5_advance h) (by decide), trivial⟩
def a1_X10_takesPart_6_5 : List (Nat × aF) := [(122, a_lda 0 1), (123, a_gf aT1 10 1 (.inr (some [10, 22]))), (126, a_pi (10000) 3), (129, a_ldi 2 1), (130, a_b2 g_add), (131, a_cv aT1 c1_X7_put 1 7), (134, a_ri true), (135, a_ldi 2 1), (136, a_pi (24) 2), (138, a_ic d_eq d_ne 3 147), (141, a_ldi 2 1), (142, a_pi (25) 2)]
theorem p1_X10_takesPart_6_5 {E : zM → Prop} (h : aH1 E) : aP0 (aΘ1 E) 9 tX10_takesPart_5 a1_X10_takesPart_6_5 := ⟨rfl, aok_lda, rfl, aok_gf, rfl, aok_pi rfl, rfl, aok_ldi, rfl, aok_b2 sd_add, rfl, aok_cv (c := c1_X7_put) (D' := 1) (k1_X7_put h) (by decide), rfl, aok_ri, rfl, aok_ldi, rfl, aok_pi rfl, rfl, aok_ic sj_eq, rfl, aok_ldi, rfl, aok_pi rfl, trivial⟩
def a1_X10_takesPart_6_6 : List (Nat × aF) := [(144, a_ic d_ne d_eq 3 202), (147, a_lda 0 1), (148, a_gf aT1 10 0 (.inr (some [27]))), (151, a_cv aT1 c1_X5_advance 0 5), (154, a_lda 0 1), (155, a_ldi 1 1), (156, a_lda 0 1), (157, a_gf aT1 10 0 (.inr (some [27]))), (160, a_pi (40) 2), (162, a_cv aT1 c1_X5_isSign 1 5), (165, a_cv aT1 c1_X10_opens_6 2 10), (168, a_if c_eq c_ne 3 200)]
theorem p1_X10_takesPart_6_6 {E : zM → Prop} (h : aH1 E) : aP0 (aΘ1 E) 9 tX10_takesPart_6 a1_X10_takesPart_6_6 := ⟨rfl, aok_ic sj_ne, rfl, aok_lda, rfl, aok_gf, rfl, aok_cv (c := c1_X5_advance) (D' := 2) (k1_X5_advance h) (by decide), rfl, aok_lda, rfl, aok_ldi, rfl, aok_lda, rfl, aok_gf, rfl, aok_pi rfl, rfl, aok_cv (c := c1_X5_isSign) (D' := 1) (k1_X5_isSign h) (by decide), rfl, aok_cv (c := c1_X10_opens_6) (D' := 3) (k1_X10_opens_6 h) (by decide), rfl, aok_if si_eq, trivial⟩
def a1_X10_takesPart_6_7 : List (Nat × aF) := [(171, a_lda 0 1), (172, a_ldi 1 1), (173, a_pi (1) 1), (174, a_b2 g_add), (175, a_cv aT1 c1_X10_takesPair_7 1 10), (178, a_if c_eq c_ne 3 200), (181, a_lda 0 1), (182, a_gf aT1 10 1 (.inr (some [10, 22]))), (185, a_pi (10000) 3), (188, a_ldi 2 1), (189, a_b2 g_add), (190, a_cv aT1 c1_X7_put 1 7)]
theorem p1_X10_takesPart_6_7 {E : zM → Prop} (h : aH1 E) : aP0 (aΘ1 E) 9 tX10_takesPart_7 a1_X10_takesPart_6_7 := ⟨rfl, aok_lda, rfl, aok_ldi, rfl, aok_pi rfl, rfl, aok_b2 sd_add, rfl, aok_cv (c := c1_X10_takesPair_7) (D' := 6) (k1_X10_takesPair_7 h) (by decide), rfl, aok_if si_eq, rfl, aok_lda, rfl, aok_gf, rfl, aok_pi rfl, rfl, aok_ldi, rfl, aok_b2 sd_add, rfl, aok_cv (c := c1_X7_put) (D' := 1) (k1_X7_put h) (by decide), trivial⟩
def a1_X10_takesPart_6_8 : List (Nat × aF) := [(193, a_if c_eq c_ne 3 200), (196, a_pi (1) 1), (197, a_gt 201), (200, a_pi (0) 1), (201, a_ri true), (202, a_ldi 2 1), (203, a_pi (19) 2), (205, a_ic d_ne d_eq 3 285), (208, a_lda 0 1), (209, a_gf aT1 10 0 (.inr (some [27]))), (212, a_cv aT1 c1_X5_advance 0 5), (215, a_lda 0 1)]
theorem p1_X10_takesPart_6_8 {E : zM → Prop} (h : aH1 E) : aP0 (aΘ1 E) 9 tX10_takesPart_8 a1_X10_takesPart_6_8 := ⟨rfl, aok_if si_eq, rfl, aok_pi rfl, rfl, aok_gt, rfl, aok_pi rfl, rfl, aok_ri, rfl, aok_ldi, rfl, aok_pi rfl, rfl, aok_ic sj_ne, rfl, aok_lda, rfl, aok_gf, rfl, aok_cv (c := c1_X5_advance) (D' := 2) (k1_X5_advance h) (by decide), rfl, aok_lda, trivial⟩
def a1_X10_takesPart_6_9 : List (Nat × aF) := [(216, a_ldi 1 1), (217, a_lda 0 1), (218, a_gf aT1 10 0 (.inr (some [27]))), (221, a_pi (40) 2), (223, a_cv aT1 c1_X5_isSign 1 5), (226, a_cv aT1 c1_X10_opens_6 2 10), (229, a_if c_eq c_ne 3 283), (232, a_lda 0 1), (233, a_ldi 1 1), (234, a_pi (1) 1), (235, a_b2 g_add), (236, a_cv aT1 c1_X10_takesTest_7 1 10)]
theorem p1_X10_takesPart_6_9 {E : zM → Prop} (h : aH1 E) : aP0 (aΘ1 E) 9 tX10_takesPart_9 a1_X10_takesPart_6_9 := ⟨rfl, aok_ldi, rfl, aok_lda, rfl, aok_gf, rfl, aok_pi rfl, rfl, aok_cv (c := c1_X5_isSign) (D' := 1) (k1_X5_isSign h) (by decide), rfl, aok_cv (c := c1_X10_opens_6) (D' := 3) (k1_X10_opens_6 h) (by decide), rfl, aok_if si_eq, rfl, aok_lda, rfl, aok_ldi, rfl, aok_pi rfl, rfl, aok_b2 sd_add, rfl, aok_cv (c := c1_X10_takesTest_7) (D' := 9) (k1_X10_takesTest_7 h) (by decide), trivial⟩
def a1_X10_takesPart_6_10 : List (Nat × aF) := [(239, a_if c_eq c_ne 3 283), (242, a_lda 0 1), (243, a_gf aT1 10 0 (.inr (some [27]))), (246, a_pi (44) 2), (248, a_cv aT1 c1_X5_takesSign 1 5), (251, a_if c_eq c_ne 3 283), (254, a_lda 0 1), (255, a_ldi 1 1), (256, a_pi (1) 1), (257, a_b2 g_add), (258, a_cv aT1 c1_X10_takesPair_7 1 10), (261, a_if c_eq c_ne 3 283)]
theorem p1_X10_takesPart_6_10 {E : zM → Prop} (h : aH1 E) : aP0 (aΘ1 E) 9 tX10_takesPart_10 a1_X10_takesPart_6_10 := ⟨rfl, aok_if si_eq, rfl, aok_lda, rfl, aok_gf, rfl, aok_pi rfl, rfl, aok_cv (c := c1_X5_takesSign) (D' := 3) (k1_X5_takesSign h) (by decide), rfl, aok_if si_eq, rfl, aok_lda, rfl, aok_ldi, rfl, aok_pi rfl, rfl, aok_b2 sd_add, rfl, aok_cv (c := c1_X10_takesPair_7) (D' := 6) (k1_X10_takesPair_7 h) (by decide), rfl, aok_if si_eq, trivial⟩
def a1_X10_takesPart_6_11 : List (Nat × aF) := [(264, a_lda 0 1), (265, a_gf aT1 10 1 (.inr (some [10, 22]))), (268, a_pi (10000) 3), (271, a_ldi 2 1), (272, a_b2 g_add), (273, a_cv aT1 c1_X7_put 1 7), (276, a_if c_eq c_ne 3 283), (279, a_pi (1) 1), (280, a_gt 284), (283, a_pi (0) 1), (284, a_ri true), (285, a_lda 0 1)]
theorem p1_X10_takesPart_6_11 {E : zM → Prop} (h : aH1 E) : aP0 (aΘ1 E) 9 tX10_takesPart_11 a1_X10_takesPart_6_11 := ⟨rfl, aok_lda, rfl, aok_gf, rfl, aok_pi rfl, rfl, aok_ldi, rfl, aok_b2 sd_add, rfl, aok_cv (c := c1_X7_put) (D' := 1) (k1_X7_put h) (by decide), rfl, aok_if si_eq, rfl, aok_pi rfl, rfl, aok_gt, rfl, aok_pi rfl, rfl, aok_ri, rfl, aok_lda, trivial⟩
def a1_X10_takesPart_6_12 : List (Nat × aF) := [(286, a_gf aT1 10 0 (.inr (some [27]))), (289, a_pi (1) 1), (290, a_lda 0 1), (291, a_gf aT1 10 0 (.inr (some [27]))), (294, a_gf aT1 5 7 (.inl (-2147483648, 2147483647))), (297, a_cv aT1 c1_X5_faults 2 5), (300, a_ri true)]
theorem p1_X10_takesPart_6_12 {E : zM → Prop} (h : aH1 E) : aP0 (aΘ1 E) 9 tX10_takesPart_12 a1_X10_takesPart_6_12 := ⟨rfl, aok_gf, rfl, aok_pi rfl, rfl, aok_lda, rfl, aok_gf, rfl, aok_gf, rfl, aok_cv (c := c1_X5_faults) (D' := 1) (k1_X5_faults h) (by decide), rfl, aok_ri, trivial⟩
def b1_X10_takesPart_6 : aTb := [(26, a1_X10_takesPart_6_0), (49, a1_X10_takesPart_6_1), (72, a1_X10_takesPart_6_2), (96, a1_X10_takesPart_6_3), (122, a1_X10_takesPart_6_4), (144, a1_X10_takesPart_6_5), (171, a1_X10_takesPart_6_6), (193, a1_X10_takesPart_6_7), (216, a1_X10_takesPart_6_8), (239, a1_X10_takesPart_6_9), (264, a1_X10_takesPart_6_10), (286, a1_X10_takesPart_6_11), (100000, a1_X10_takesPart_6_12)]
theorem q1_X10_takesPart_6 {E : zM → Prop} (h : aH1 E) : aP1 (aΘ1 E) 9 tX10_takesPart b1_X10_takesPart_6 := ⟨rfl, p1_X10_takesPart_6_0 h, rfl, p1_X10_takesPart_6_1 h, rfl, p1_X10_takesPart_6_2 h, rfl, p1_X10_takesPart_6_3 h, rfl, p1_X10_takesPart_6_4 h, rfl, p1_X10_takesPart_6_5 h, rfl, p1_X10_takesPart_6_6 h, rfl, p1_X10_takesPart_6_7 h, rfl, p1_X10_takesPart_6_8 h, rfl, p1_X10_takesPart_6_9 h, rfl, p1_X10_takesPart_6_10 h, rfl, p1_X10_takesPart_6_11 h, rfl, p1_X10_takesPart_6_12 h, trivial⟩
def n1_X10_takesPart_6 : List aNd := []
theorem k1_X10_takesPart_6 {E : zM → Prop} (h : aH1 E) : aCv (aΘ1 E) 10 c1_X10_takesPart_6 := aMeth (D := 9) (c := c1_X10_takesPart_6) (tb := b1_X10_takesPart_6) (ns := n1_X10_takesPart_6) (fuel := 3000) rfl (q1_X10_takesPart_6 h) (by decide +kernel)
abbrev c1_X10_takesProduct_6 : aCt := (105, [.inr (some [30]), .inl (6, 6)], some (.inl (0, 1)))
def a1_X10_takesProduct_6_0 : List (Nat × aF) := [(0, a_lda 0 1), (1, a_ldi 1 1), (2, a_cv aT1 c1_X10_takesPart_6 1 10), (5, a_sti 5 2 1), (6, a_pi (0) 1), (7, a_sti 5 3 1), (8, a_ldi 3 1), (9, a_pi (1600) 3), (12, a_ic d_ge d_lt 3 78), (15, a_ldi 2 1), (16, a_if c_eq c_ne 3 78), (19, a_lda 0 1)]
theorem p1_X10_takesProduct_6_0 {E : zM → Prop} (h : aH1 E) : aP0 (aΘ1 E) 10 tX10_takesProduct_0 a1_X10_takesProduct_6_0 := ⟨rfl, aok_lda, rfl, aok_ldi, rfl, aok_cv (c := c1_X10_takesPart_6) (D' := 10) (k1_X10_takesPart_6 h) (by decide), rfl, aok_sti, rfl, aok_pi rfl, rfl, aok_sti, rfl, aok_ldi, rfl, aok_pi rfl, rfl, aok_ic sj_ge, rfl, aok_ldi, rfl, aok_if si_eq, rfl, aok_lda, trivial⟩
def a1_X10_takesProduct_6_1 : List (Nat × aF) := [(20, a_cv aT1 c1_X10_isFactorSign 0 10), (23, a_if c_eq c_ne 3 78), (26, a_lda 0 1), (27, a_gf aT1 10 0 (.inr (some [27]))), (30, a_gf aT1 5 5 (.inl (-2147483648, 2147483647))), (33, a_sti 5 4 2), (35, a_lda 0 1), (36, a_gf aT1 10 0 (.inr (some [27]))), (39, a_cv aT1 c1_X5_advance 0 5), (42, a_lda 0 1), (43, a_ldi 1 1), (44, a_cv aT1 c1_X10_takesPart_6 1 10)]
theorem p1_X10_takesProduct_6_1 {E : zM → Prop} (h : aH1 E) : aP0 (aΘ1 E) 10 tX10_takesProduct_1 a1_X10_takesProduct_6_1 := ⟨rfl, aok_cv (c := c1_X10_isFactorSign) (D' := 2) (k1_X10_isFactorSign h) (by decide), rfl, aok_if si_eq, rfl, aok_lda, rfl, aok_gf, rfl, aok_gf, rfl, aok_sti, rfl, aok_lda, rfl, aok_gf, rfl, aok_cv (c := c1_X5_advance) (D' := 2) (k1_X5_advance h) (by decide), rfl, aok_lda, rfl, aok_ldi, rfl, aok_cv (c := c1_X10_takesPart_6) (D' := 10) (k1_X10_takesPart_6 h) (by decide), trivial⟩
def a1_X10_takesProduct_6_2 : List (Nat × aF) := [(47, a_if c_eq c_ne 3 70), (50, a_lda 0 1), (51, a_gf aT1 10 1 (.inr (some [10, 22]))), (54, a_pi (10000) 3), (57, a_ldi 4 2), (59, a_b2 g_add), (60, a_cv aT1 c1_X7_put 1 7), (63, a_if c_eq c_ne 3 70), (66, a_pi (1) 1), (67, a_gt 71), (70, a_pi (0) 1), (71, a_sti 5 2 1)]
theorem p1_X10_takesProduct_6_2 {E : zM → Prop} (h : aH1 E) : aP0 (aΘ1 E) 10 tX10_takesProduct_2 a1_X10_takesProduct_6_2 := ⟨rfl, aok_if si_eq, rfl, aok_lda, rfl, aok_gf, rfl, aok_pi rfl, rfl, aok_ldi, rfl, aok_b2 sd_add, rfl, aok_cv (c := c1_X7_put) (D' := 1) (k1_X7_put h) (by decide), rfl, aok_if si_eq, rfl, aok_pi rfl, rfl, aok_gt, rfl, aok_pi rfl, rfl, aok_sti, trivial⟩
def a1_X10_takesProduct_6_3 : List (Nat × aF) := [(72, a_iw 5 3 (1)), (75, a_gt 8), (78, a_ldi 2 1), (79, a_ri true)]
theorem p1_X10_takesProduct_6_3 {E : zM → Prop} (h : aH1 E) : aP0 (aΘ1 E) 10 tX10_takesProduct_3 a1_X10_takesProduct_6_3 := ⟨rfl, aok_iw rfl, rfl, aok_gt, rfl, aok_ldi, rfl, aok_ri, trivial⟩
def b1_X10_takesProduct_6 : aTb := [(20, a1_X10_takesProduct_6_0), (47, a1_X10_takesProduct_6_1), (72, a1_X10_takesProduct_6_2), (100000, a1_X10_takesProduct_6_3)]
theorem q1_X10_takesProduct_6 {E : zM → Prop} (h : aH1 E) : aP1 (aΘ1 E) 10 tX10_takesProduct b1_X10_takesProduct_6 := ⟨rfl, p1_X10_takesProduct_6_0 h, rfl, p1_X10_takesProduct_6_1 h, rfl, p1_X10_takesProduct_6_2 h, rfl, p1_X10_takesProduct_6_3 h, trivial⟩
def n1_X10_takesProduct_6 : List aNd := [(8, [(0, .inr (some [30])), (1, .inl (6, 6)), (2, .inl (0, 1)), (3, .inl (0, 1600))], [(3, -1)], 1600)]
theorem k1_X10_takesProduct_6 {E : zM → Prop} (h : aH1 E) : aCv (aΘ1 E) 11 c1_X10_takesProduct_6 := aMeth (D := 10) (c := c1_X10_takesProduct_6) (tb := b1_X10_takesProduct_6) (ns := n1_X10_takesProduct_6) (fuel := 3000) rfl (q1_X10_takesProduct_6 h) (by decide +kernel)
abbrev c1_X10_takesSum_6 : aCt := (104, [.inr (some [30]), .inl (6, 6)], some (.inl (0, 1)))
def a1_X10_takesSum_6_0 : List (Nat × aF) := [(0, a_lda 0 1), (1, a_ldi 1 1), (2, a_cv aT1 c1_X10_takesProduct_6 1 10), (5, a_sti 5 2 1), (6, a_pi (0) 1), (7, a_sti 5 3 1), (8, a_ldi 3 1), (9, a_pi (1600) 3), (12, a_ic d_ge d_lt 3 95), (15, a_ldi 2 1), (16, a_if c_eq c_ne 3 95), (19, a_lda 0 1)]
theorem p1_X10_takesSum_6_0 {E : zM → Prop} (h : aH1 E) : aP0 (aΘ1 E) 11 tX10_takesSum_0 a1_X10_takesSum_6_0 := ⟨rfl, aok_lda, rfl, aok_ldi, rfl, aok_cv (c := c1_X10_takesProduct_6) (D' := 11) (k1_X10_takesProduct_6 h) (by decide), rfl, aok_sti, rfl, aok_pi rfl, rfl, aok_sti, rfl, aok_ldi, rfl, aok_pi rfl, rfl, aok_ic sj_ge, rfl, aok_ldi, rfl, aok_if si_eq, rfl, aok_lda, trivial⟩
def a1_X10_takesSum_6_1 : List (Nat × aF) := [(20, a_gf aT1 10 0 (.inr (some [27]))), (23, a_pi (43) 2), (25, a_cv aT1 c1_X5_isSign 1 5), (28, a_if c_ne c_eq 3 43), (31, a_lda 0 1), (32, a_gf aT1 10 0 (.inr (some [27]))), (35, a_pi (45) 2), (37, a_cv aT1 c1_X5_isSign 1 5), (40, a_if c_eq c_ne 3 95), (43, a_lda 0 1), (44, a_gf aT1 10 0 (.inr (some [27]))), (47, a_gf aT1 5 5 (.inl (-2147483648, 2147483647)))]
theorem p1_X10_takesSum_6_1 {E : zM → Prop} (h : aH1 E) : aP0 (aΘ1 E) 11 tX10_takesSum_1 a1_X10_takesSum_6_1 := ⟨rfl, aok_gf, rfl, aok_pi rfl, rfl, aok_cv (c := c1_X5_isSign) (D' := 1) (k1_X5_isSign h) (by decide), rfl, aok_if si_ne, rfl, aok_lda, rfl, aok_gf, rfl, aok_pi rfl, rfl, aok_cv (c := c1_X5_isSign) (D' := 1) (k1_X5_isSign h) (by decide), rfl, aok_if si_eq, rfl, aok_lda, rfl, aok_gf, rfl, aok_gf, trivial⟩
def a1_X10_takesSum_6_2 : List (Nat × aF) := [(50, a_sti 5 4 2), (52, a_lda 0 1), (53, a_gf aT1 10 0 (.inr (some [27]))), (56, a_cv aT1 c1_X5_advance 0 5), (59, a_lda 0 1), (60, a_ldi 1 1), (61, a_cv aT1 c1_X10_takesProduct_6 1 10), (64, a_if c_eq c_ne 3 87), (67, a_lda 0 1), (68, a_gf aT1 10 1 (.inr (some [10, 22]))), (71, a_pi (10000) 3), (74, a_ldi 4 2)]
theorem p1_X10_takesSum_6_2 {E : zM → Prop} (h : aH1 E) : aP0 (aΘ1 E) 11 tX10_takesSum_2 a1_X10_takesSum_6_2 := ⟨rfl, aok_sti, rfl, aok_lda, rfl, aok_gf, rfl, aok_cv (c := c1_X5_advance) (D' := 2) (k1_X5_advance h) (by decide), rfl, aok_lda, rfl, aok_ldi, rfl, aok_cv (c := c1_X10_takesProduct_6) (D' := 11) (k1_X10_takesProduct_6 h) (by decide), rfl, aok_if si_eq, rfl, aok_lda, rfl, aok_gf, rfl, aok_pi rfl, rfl, aok_ldi, trivial⟩
def a1_X10_takesSum_6_3 : List (Nat × aF) := [(76, a_b2 g_add), (77, a_cv aT1 c1_X7_put 1 7), (80, a_if c_eq c_ne 3 87), (83, a_pi (1) 1), (84, a_gt 88), (87, a_pi (0) 1), (88, a_sti 5 2 1), (89, a_iw 5 3 (1)), (92, a_gt 8), (95, a_ldi 2 1), (96, a_ri true)]
theorem p1_X10_takesSum_6_3 {E : zM → Prop} (h : aH1 E) : aP0 (aΘ1 E) 11 tX10_takesSum_3 a1_X10_takesSum_6_3 := ⟨rfl, aok_b2 sd_add, rfl, aok_cv (c := c1_X7_put) (D' := 1) (k1_X7_put h) (by decide), rfl, aok_if si_eq, rfl, aok_pi rfl, rfl, aok_gt, rfl, aok_pi rfl, rfl, aok_sti, rfl, aok_iw rfl, rfl, aok_gt, rfl, aok_ldi, rfl, aok_ri, trivial⟩
def b1_X10_takesSum_6 : aTb := [(20, a1_X10_takesSum_6_0), (50, a1_X10_takesSum_6_1), (76, a1_X10_takesSum_6_2), (100000, a1_X10_takesSum_6_3)]
theorem q1_X10_takesSum_6 {E : zM → Prop} (h : aH1 E) : aP1 (aΘ1 E) 11 tX10_takesSum b1_X10_takesSum_6 := ⟨rfl, p1_X10_takesSum_6_0 h, rfl, p1_X10_takesSum_6_1 h, rfl, p1_X10_takesSum_6_2 h, rfl, p1_X10_takesSum_6_3 h, trivial⟩
def n1_X10_takesSum_6 : List aNd := [(8, [(0, .inr (some [30])), (1, .inl (6, 6)), (2, .inl (0, 1)), (3, .inl (0, 1600))], [(3, -1)], 1600)]
theorem k1_X10_takesSum_6 {E : zM → Prop} (h : aH1 E) : aCv (aΘ1 E) 12 c1_X10_takesSum_6 := aMeth (D := 11) (c := c1_X10_takesSum_6) (tb := b1_X10_takesSum_6) (ns := n1_X10_takesSum_6) (fuel := 3000) rfl (q1_X10_takesSum_6 h) (by decide +kernel)
abbrev c1_X10_takesPair_6 : aCt := (109, [.inr (some [30]), .inl (6, 6)], some (.inl (0, 1)))
def a1_X10_takesPair_6_0 : List (Nat × aF) := [(0, a_lda 0 1), (1, a_ldi 1 1), (2, a_cv aT1 c1_X10_takesSum_6 1 10), (5, a_if c_eq c_ne 3 44), (8, a_lda 0 1), (9, a_gf aT1 10 0 (.inr (some [27]))), (12, a_pi (44) 2), (14, a_cv aT1 c1_X5_takesSign 1 5), (17, a_if c_eq c_ne 3 44), (20, a_lda 0 1), (21, a_ldi 1 1), (22, a_cv aT1 c1_X10_takesSum_6 1 10)]
theorem p1_X10_takesPair_6_0 {E : zM → Prop} (h : aH1 E) : aP0 (aΘ1 E) 12 tX10_takesPair_0 a1_X10_takesPair_6_0 := ⟨rfl, aok_lda, rfl, aok_ldi, rfl, aok_cv (c := c1_X10_takesSum_6) (D' := 12) (k1_X10_takesSum_6 h) (by decide), rfl, aok_if si_eq, rfl, aok_lda, rfl, aok_gf, rfl, aok_pi rfl, rfl, aok_cv (c := c1_X5_takesSign) (D' := 3) (k1_X5_takesSign h) (by decide), rfl, aok_if si_eq, rfl, aok_lda, rfl, aok_ldi, rfl, aok_cv (c := c1_X10_takesSum_6) (D' := 12) (k1_X10_takesSum_6 h) (by decide), trivial⟩
def a1_X10_takesPair_6_1 : List (Nat × aF) := [(25, a_if c_eq c_ne 3 44), (28, a_lda 0 1), (29, a_gf aT1 10 0 (.inr (some [27]))), (32, a_pi (41) 2), (34, a_cv aT1 c1_X5_takesSign 1 5), (37, a_if c_eq c_ne 3 44), (40, a_pi (1) 1), (41, a_gt 45), (44, a_pi (0) 1), (45, a_ri true)]
theorem p1_X10_takesPair_6_1 {E : zM → Prop} (h : aH1 E) : aP0 (aΘ1 E) 12 tX10_takesPair_1 a1_X10_takesPair_6_1 := ⟨rfl, aok_if si_eq, rfl, aok_lda, rfl, aok_gf, rfl, aok_pi rfl, rfl, aok_cv (c := c1_X5_takesSign) (D' := 3) (k1_X5_takesSign h) (by decide), rfl, aok_if si_eq, rfl, aok_pi rfl, rfl, aok_gt, rfl, aok_pi rfl, rfl, aok_ri, trivial⟩
def b1_X10_takesPair_6 : aTb := [(25, a1_X10_takesPair_6_0), (100000, a1_X10_takesPair_6_1)]
theorem q1_X10_takesPair_6 {E : zM → Prop} (h : aH1 E) : aP1 (aΘ1 E) 12 tX10_takesPair b1_X10_takesPair_6 := ⟨rfl, p1_X10_takesPair_6_0 h, rfl, p1_X10_takesPair_6_1 h, trivial⟩
def n1_X10_takesPair_6 : List aNd := []
theorem k1_X10_takesPair_6 {E : zM → Prop} (h : aH1 E) : aCv (aΘ1 E) 13 c1_X10_takesPair_6 := aMeth (D := 12) (c := c1_X10_takesPair_6) (tb := b1_X10_takesPair_6) (ns := n1_X10_takesPair_6) (fuel := 3000) rfl (q1_X10_takesPair_6 h) (by decide +kernel)
abbrev c1_X10_takesComparison_6 : aCt := (103, [.inr (some [30]), .inl (6, 6)], some (.inl (0, 1)))
def a1_X10_takesComparison_6_0 : List (Nat × aF) := [(0, a_lda 0 1), (1, a_gf aT1 10 0 (.inr (some [27]))), (4, a_gf aT1 5 5 (.inl (-2147483648, 2147483647))), (7, a_sti 3 2 1), (8, a_lda 0 1), (9, a_gf aT1 10 0 (.inr (some [27]))), (12, a_pi (60) 2), (14, a_cv aT1 c1_X5_isSign 1 5), (17, a_if c_ne c_eq 3 60), (20, a_lda 0 1), (21, a_gf aT1 10 0 (.inr (some [27]))), (24, a_pi (62) 2)]
theorem p1_X10_takesComparison_6_0 {E : zM → Prop} (h : aH1 E) : aP0 (aΘ1 E) 12 tX10_takesComparison_0 a1_X10_takesComparison_6_0 := ⟨rfl, aok_lda, rfl, aok_gf, rfl, aok_gf, rfl, aok_sti, rfl, aok_lda, rfl, aok_gf, rfl, aok_pi rfl, rfl, aok_cv (c := c1_X5_isSign) (D' := 1) (k1_X5_isSign h) (by decide), rfl, aok_if si_ne, rfl, aok_lda, rfl, aok_gf, rfl, aok_pi rfl, trivial⟩
def a1_X10_takesComparison_6_1 : List (Nat × aF) := [(26, a_cv aT1 c1_X5_isSign 1 5), (29, a_if c_ne c_eq 3 60), (32, a_lda 0 1), (33, a_gf aT1 10 0 (.inr (some [27]))), (36, a_pi (61) 2), (38, a_cv aT1 c1_X5_isSign 1 5), (41, a_if c_ne c_eq 3 60), (44, a_lda 0 1), (45, a_gf aT1 10 0 (.inr (some [27]))), (48, a_pi (1) 1), (49, a_lda 0 1), (50, a_gf aT1 10 0 (.inr (some [27])))]
theorem p1_X10_takesComparison_6_1 {E : zM → Prop} (h : aH1 E) : aP0 (aΘ1 E) 12 tX10_takesComparison_1 a1_X10_takesComparison_6_1 := ⟨rfl, aok_cv (c := c1_X5_isSign) (D' := 1) (k1_X5_isSign h) (by decide), rfl, aok_if si_ne, rfl, aok_lda, rfl, aok_gf, rfl, aok_pi rfl, rfl, aok_cv (c := c1_X5_isSign) (D' := 1) (k1_X5_isSign h) (by decide), rfl, aok_if si_ne, rfl, aok_lda, rfl, aok_gf, rfl, aok_pi rfl, rfl, aok_lda, rfl, aok_gf, trivial⟩
def a1_X10_takesComparison_6_2 : List (Nat × aF) := [(53, a_gf aT1 5 7 (.inl (-2147483648, 2147483647))), (56, a_cv aT1 c1_X5_faults 2 5), (59, a_ri true), (60, a_lda 0 1), (61, a_gf aT1 10 0 (.inr (some [27]))), (64, a_cv aT1 c1_X5_advance 0 5), (67, a_lda 0 1), (68, a_ldi 1 1), (69, a_cv aT1 c1_X10_takesSum_6 1 10), (72, a_if c_eq c_ne 3 94), (75, a_lda 0 1), (76, a_gf aT1 10 1 (.inr (some [10, 22])))]
theorem p1_X10_takesComparison_6_2 {E : zM → Prop} (h : aH1 E) : aP0 (aΘ1 E) 12 tX10_takesComparison_2 a1_X10_takesComparison_6_2 := ⟨rfl, aok_gf, rfl, aok_cv (c := c1_X5_faults) (D' := 1) (k1_X5_faults h) (by decide), rfl, aok_ri, rfl, aok_lda, rfl, aok_gf, rfl, aok_cv (c := c1_X5_advance) (D' := 2) (k1_X5_advance h) (by decide), rfl, aok_lda, rfl, aok_ldi, rfl, aok_cv (c := c1_X10_takesSum_6) (D' := 12) (k1_X10_takesSum_6 h) (by decide), rfl, aok_if si_eq, rfl, aok_lda, rfl, aok_gf, trivial⟩
def a1_X10_takesComparison_6_3 : List (Nat × aF) := [(79, a_pi (10000) 3), (82, a_ldi 2 1), (83, a_b2 g_add), (84, a_cv aT1 c1_X7_put 1 7), (87, a_if c_eq c_ne 3 94), (90, a_pi (1) 1), (91, a_gt 95), (94, a_pi (0) 1), (95, a_ri true)]
theorem p1_X10_takesComparison_6_3 {E : zM → Prop} (h : aH1 E) : aP0 (aΘ1 E) 12 tX10_takesComparison_3 a1_X10_takesComparison_6_3 := ⟨rfl, aok_pi rfl, rfl, aok_ldi, rfl, aok_b2 sd_add, rfl, aok_cv (c := c1_X7_put) (D' := 1) (k1_X7_put h) (by decide), rfl, aok_if si_eq, rfl, aok_pi rfl, rfl, aok_gt, rfl, aok_pi rfl, rfl, aok_ri, trivial⟩
def b1_X10_takesComparison_6 : aTb := [(26, a1_X10_takesComparison_6_0), (53, a1_X10_takesComparison_6_1), (79, a1_X10_takesComparison_6_2), (100000, a1_X10_takesComparison_6_3)]
theorem q1_X10_takesComparison_6 {E : zM → Prop} (h : aH1 E) : aP1 (aΘ1 E) 12 tX10_takesComparison b1_X10_takesComparison_6 := ⟨rfl, p1_X10_takesComparison_6_0 h, rfl, p1_X10_takesComparison_6_1 h, rfl, p1_X10_takesComparison_6_2 h, rfl, p1_X10_takesComparison_6_3 h, trivial⟩
def n1_X10_takesComparison_6 : List aNd := []
theorem k1_X10_takesComparison_6 {E : zM → Prop} (h : aH1 E) : aCv (aΘ1 E) 13 c1_X10_takesComparison_6 := aMeth (D := 12) (c := c1_X10_takesComparison_6) (tb := b1_X10_takesComparison_6) (ns := n1_X10_takesComparison_6) (fuel := 3000) rfl (q1_X10_takesComparison_6 h) (by decide +kernel)
