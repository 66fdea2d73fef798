# heads across libraries: rings, sorts, only, nests, overriding across packages
import sys; sys.path.insert(0,__import__('os').path.dirname(__import__('os').path.abspath(__file__)))
import random_texts,ref,random,subprocess
from random_texts import CLASSES,R,Scn,pick,ch,toks,trial
NM=['a.A','a.B','a.F','b.A','b.B','b.F','c.A','c.B','c.F','c.G','a.C']
def cls(s,names,name):
    face=(name[2] in 'FG')!=ch(.08)
    h=pick(['open ']*5+[''])+('' if face else pick(['']*5+['bare ','final ']))+('face ' if face else 'class ')+name
    if not face and ch(.6): h+=' is '+pick(names)
    if ch(.5):
        fs=[n for n in names if n[2] in 'FG'] or names
        h+=' as '+', '.join(dict.fromkeys(pick(fs) for _ in range(R.choice([1,1,2,3]))))
    ms=[]
    for _ in range(R.choice([0,1,2,3,4])):
        A=pick(['open ','','kin ','own ','open ','open ']); r=R.randrange(8)
        T=pick(['int','int','z.Any','z.Any',pick(names)]); nm=pick(['m','n','o'])
        P=pick(['','','int p'])
        ret='return 1;' if T=='int' else pick(['return null;','return null;','return this;'])
        if face:
            A=pick(['','','open ','own '])
            if r<3: ms.append('%s %s(%s);'%(T,nm,P))
            elif r<6: ms.append('%s%s %s(%s) { out %d; %s }'%(A,T,nm,P,R.randrange(100),ret))
            elif r<7: ms.append('static int st() { return %d; }'%R.randrange(9))
            else: ms.append('%s %s = %s;'%(T,pick('xyz'),pick(['1','2','st()','null','out()'])))
        else:
            if r<5: ms.append('%s%s%s %s(%s) { out %d; %s }'%(A,pick(['']*5+['final ']),T,nm,P,R.randrange(100),ret))
            elif r<6: ms.append('%sbare %s %s(%s);'%(A,T,nm,P))
            elif r<7: ms.append('%s%s%s %s%s;'%(A,pick(['','static ','final ','static final ']),T,pick('xyz'),pick(['',' = 1',' = null',' = m()',' = new '+pick(names)+'()'])))
            else: ms.append('%sstatic %s %s(%s) { %s }'%(A,T,nm,P,ret.replace('this','null')))
    return [h,ms]
def use(names):
    k=R.randrange(12); c=pick(names); d=pick(names); m=pick(['m','n','o']); a=pick(['','','1']); x=pick('xyz')
    return pick(['let %s v = new %s(); out v.%s(%s);'%(c,d,m,a),'let %s v = new %s(); out v.%s(%s) == null;'%(c,d,m,a),'out %s.%s;'%(c,x),'out new %s().%s;'%(c,x),'out new %s() ask %s;'%(c,d),
      'let z.Any q = new %s(); let %s w = (%s) q; out w.%s(%s);'%(c,d,d,m,a),'out %s.%s(%s);'%(c,m,a),'out %s.st();'%c,'out %s.%s == null;'%(c,x),'new %s().%s = 3;'%(c,x),'%s.%s = 4;'%(c,x),
      'let %s v = new %s(); v.%s(%s);'%(c,d,m,a),'try { throw new z.Ill(); } catch (%s e) { out 1; }'%c,'super.%s(%s);'%(m,a),'%s.super.%s(%s);'%(c,m,a),'%s(%s);'%(m,a), 'out %s;'%x,'%s = 2;'%x])
def gentext(s,lib,tries):
    mine=[n for n in NM if n[0]=='abc'[lib]]; R.shuffle(mine); mine=mine[:R.choice([2,3,3,4])]
    kn=[c.name for c in s.h.w.list if c.name[0]!='abc'[lib]]
    names=list(dict.fromkeys(mine+kn))+['z.Any','z.Ill']
    cs=[]
    for n in mine:
        for _ in range(8):
            c=cls(s,names,n); 
            t=' '.join(h+' { '+' '.join(ms)+' }' for h,ms in cs+[c])
            f=trial(s.h,lib,t)
            if f is None: cs.append(c); break
            elif ch(.05): s.mk(lib,t)
    for _ in range(tries):
        if not cs: break
        i=R.randrange(len(cs)); r=R.randrange(10); c2=[[h,list(ms)] for h,ms in cs]
        if r<2: c2[i]=cls(s,names,[x for x in cs[i][0].replace(',',' ').split() if len(x)>2 and x[1]=='.'][0])
        elif r<3:
            mm=[x.replace(',','') for h,_ in cs for x in [q for q in h.split() if len(q)>2 and q[1]=='.'][:1]]
            j=R.randrange(len(cs))
            if i!=j and ' with ' not in c2[i][0] and ' in ' not in c2[j][0] and ' in ' not in c2[i][0]:
                c2[i][0]+=' with '+mm[j]; c2[j][0]=c2[j][0].replace(' with ',' in '+mm[i]+' with ',1) if ' with ' in c2[j][0] else c2[j][0]+' in '+mm[i]
        elif r<4:
            mm=[x.replace(',','') for h,_ in cs for x in [q for q in h.split() if len(q)>2 and q[1]=='.'][:1]]
            c2[i][0]+=' only '+', '.join(pick(mm) for _ in range(R.choice([1,2])))
        elif r<8: 
            u=' '.join(use(names) for _ in range(R.choice([1,1,2])))
            c2[i][1].append(pick(['static void r%d() { %s }','void q%d() { %s }','static void r%d() { %s }'])%(R.randrange(9),u))
        elif r<9 and c2[i][1]:
            k=R.randrange(len(c2[i][1])); c2[i][1][k]=pick(['open ','own ','kin ','final ','static ','bare '])+c2[i][1][k]
        elif c2[i][1]:
            ms=c2[i][1]; k=R.randrange(len(ms)); ms[k]=ms[k].replace('}',use(names)+' }',1)
        t=' '.join(h+' { '+' '.join(ms)+' }' for h,ms in c2)
        f=trial(s.h,lib,t)
        if f is None: cs=c2
        elif ch(.06): s.mk(lib,t)
    return ' '.join(h+' { '+' '.join(ms)+' }' for h,ms in cs)
def scenario(seed):
    global RING
    R.seed(seed); s=Scn(); RING=seed%2==0
    for rnd in range(R.choice([5,9,14])):
        l=R.randrange(3)
        if sum(map(len,s.h.b))<16 and len(s.h.b[l])<8:
            if RING:
                for q in range(3):
                    if q!=l and s.h.b[q]: s.do('pick',q,0)
            t=gentext(s,l,R.choice([10,25,50])); s.mk(l,t)
            if ch(.6) and not RING and s.h.b[l]: s.do('pick',l,len(s.h.b[l])-1)
            if RING and rnd>1:
                for q in range(3):
                    if s.h.b[q]: s.do('pick',q,R.choice([-1,-1,-2])+len(s.h.b[q]) if len(s.h.b[q])>1 else 0)
        for l in range(3):
            if len(s.h.b[l]) and ch(.4): s.do('pick',l,R.choice([-2]+list(range(len(s.h.b[l])))*2))
        if rnd>2:
            s.check(); s.runs()
            if ch(.3): s.do('fresh'); s.check()
            l=R.randrange(3); n=len(s.h.b[l])
            if n>1:
                a,b=R.randrange(n),R.randrange(n)
                s.do('differ',l,a,b)
                for i in range(len(s.h.diff)+1):
                    for w in range(5): s.do('change',i,w)
                s.do('word',l,a,b)
                r=s.do('weave',l,a,b)
                if r>=0: s.inspect(l,r); s.do('pick',l,r); s.check(); s.runs()
            if ch(.2):
                s.do('choose')
                for q in range(5): s.do('picked',q)
    return s
if __name__=='__main__':
    random_texts.scenario=scenario
    src=open(random_texts.__file__).read().split("if __name__=='__main__':\n")[1]
    exec(compile('if 1:\n'+src,'main','exec'))
